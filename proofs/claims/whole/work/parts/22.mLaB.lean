theorem wd_130 : Cond.fieldLink RLa 21 RLa "waiting" "[I" ∈ pq_ws := pq_memT 92 (by decide +kernel) (by decide +kernel)
theorem wd_131 : Cond.fieldLink RLa 18 RLa "slots" "[I" ∈ pq_ws := pq_memT 91 (by decide +kernel) (by decide +kernel)
theorem wd_132 : Cond.code yLa_putHalf cLa_putHalf 2 none ∈ pq_ws := pq_memT 381 (by decide +kernel) (by decide +kernel)
theorem wd_133 : Cond.methodLink RLa 85 yLa_putHalf ∈ pq_ws := pq_memT 378 (by decide +kernel) (by decide +kernel)
theorem wd_134 : Cond.instanceMethod yLa_putHalf ∈ pq_ws := pq_memT 380 (by decide +kernel) (by decide +kernel)
theorem wd_135 : Cond.selects RLa yLa_putHalf yLa_putHalf ∈ pq_ws := pq_mem (by decide +kernel) (by decide +kernel)
theorem wd_136 : Cond.fieldLink RLa 58 RLa "lastKind" "I" ∈ pq_ws := pq_memT 97 (by decide +kernel) (by decide +kernel)
theorem wd_137 : Cond.fieldLink RLa 51 RLa "poolCount" "I" ∈ pq_ws := pq_memT 96 (by decide +kernel) (by decide +kernel)
theorem wd_138 : Cond.code yLa_isPoolDue cLa_isPoolDue 1 (some .boolean) ∈ pq_ws := pq_memT 363 (by decide +kernel) (by decide +kernel)
theorem wd_139 : Cond.methodLink RLa 78 yLa_isPoolDue ∈ pq_ws := pq_memT 360 (by decide +kernel) (by decide +kernel)
theorem wd_140 : Cond.instanceMethod yLa_isPoolDue ∈ pq_ws := pq_memT 362 (by decide +kernel) (by decide +kernel)
theorem wd_141 : Cond.selects RLa yLa_isPoolDue yLa_isPoolDue ∈ pq_ws := pq_mem (by decide +kernel) (by decide +kernel)
theorem wd_142 : Cond.code yLa_halfOf cLa_halfOf 6 (some .int) ∈ pq_ws := pq_memT 389 (by decide +kernel) (by decide +kernel)
theorem wd_143 : Cond.methodLink RLa 82 yLa_halfOf ∈ pq_ws := pq_memT 386 (by decide +kernel) (by decide +kernel)
theorem wd_144 : Cond.instanceMethod yLa_halfOf ∈ pq_ws := pq_memT 388 (by decide +kernel) (by decide +kernel)
theorem wd_145 : Cond.selects RLa yLa_halfOf yLa_halfOf ∈ pq_ws := pq_mem (by decide +kernel) (by decide +kernel)
theorem wd_146 : Cond.code yLa_putPool cLa_putPool 3 none ∈ pq_ws := pq_memT 373 (by decide +kernel) (by decide +kernel)
theorem wd_147 : Cond.methodLink RLa 68 yLa_putPool ∈ pq_ws := pq_memT 370 (by decide +kernel) (by decide +kernel)
theorem wd_148 : Cond.instanceMethod yLa_putPool ∈ pq_ws := pq_memT 372 (by decide +kernel) (by decide +kernel)
theorem wd_149 : Cond.selects RLa yLa_putPool yLa_putPool ∈ pq_ws := pq_mem (by decide +kernel) (by decide +kernel)
theorem wd_150 : Cond.code ySo_halvesOf cSo_halvesOf 2 (some .int) ∈ pq_ws := pq_memT 359 (by decide +kernel) (by decide +kernel)
theorem wd_151 : Cond.instanceMethod ySo_halvesOf ∈ pq_ws := pq_memT 358 (by decide +kernel) (by decide +kernel)
theorem wd_152 : Cond.selects RSo ySo_halvesOf ySo_halvesOf ∈ pq_ws := pq_mem (by decide +kernel) (by decide +kernel)
theorem wd_153 : Cond.code yLa_letWait cLa_letWait 4 none ∈ pq_ws := pq_memT 404 (by decide +kernel) (by decide +kernel)
theorem wd_154 : Cond.methodLink RLa 88 yLa_letWait ∈ pq_ws := pq_memT 401 (by decide +kernel) (by decide +kernel)
theorem wd_155 : Cond.instanceMethod yLa_letWait ∈ pq_ws := pq_memT 403 (by decide +kernel) (by decide +kernel)
theorem wd_156 : Cond.selects RLa yLa_letWait yLa_letWait ∈ pq_ws := pq_mem (by decide +kernel) (by decide +kernel)
theorem nw_12 : Cond.methodLinkNest RLa 74 ySo_halvesOf "PoolAssembler" ∈ pq_nws := pq_nmem 356 (by decide +kernel) rfl
theorem wd_157 : Cond.code yLa_layLine cLa_layLine 5 none ∈ pq_ws := pq_memT 355 (by decide +kernel) (by decide +kernel)
theorem wd_158 : Cond.methodLink RLa 64 yLa_layLine ∈ pq_ws := pq_memT 352 (by decide +kernel) (by decide +kernel)
theorem wd_159 : Cond.instanceMethod yLa_layLine ∈ pq_ws := pq_memT 354 (by decide +kernel) (by decide +kernel)
theorem wd_160 : Cond.selects RLa yLa_layLine yLa_layLine ∈ pq_ws := pq_mem (by decide +kernel) (by decide +kernel)
theorem nw_13 : Cond.fieldLinkNest RLa 61 RSo "count" "I" "PoolAssembler" ∈ pq_nws := pq_nmem 46 (by decide +kernel) rfl
theorem wd_161 : Cond.code yLa_isInReach cLa_isInReach 2 (some .boolean) ∈ pq_ws := pq_memT 416 (by decide +kernel) (by decide +kernel)
theorem wd_162 : Cond.methodLink RLa 114 yLa_isInReach ∈ pq_ws := pq_memT 413 (by decide +kernel) (by decide +kernel)
theorem wd_163 : Cond.instanceMethod yLa_isInReach ∈ pq_ws := pq_memT 415 (by decide +kernel) (by decide +kernel)
theorem wd_164 : Cond.selects RLa yLa_isInReach yLa_isInReach ∈ pq_ws := pq_mem (by decide +kernel) (by decide +kernel)
theorem wd_165 : Cond.code yLa_layAll cLa_layAll 2 none ∈ pq_ws := pq_memT 351 (by decide +kernel) (by decide +kernel)
theorem wd_166 : Cond.methodLink RLa 36 yLa_layAll ∈ pq_ws := pq_memT 348 (by decide +kernel) (by decide +kernel)
theorem wd_167 : Cond.instanceMethod yLa_layAll ∈ pq_ws := pq_memT 350 (by decide +kernel) (by decide +kernel)
theorem wd_168 : Cond.selects RLa yLa_layAll yLa_layAll ∈ pq_ws := pq_mem (by decide +kernel) (by decide +kernel)
theorem wd_169 : Cond.code yLa_settleLabels cLa_settleLabels 3 none ∈ pq_ws := pq_memT 408 (by decide +kernel) (by decide +kernel)
theorem wd_170 : Cond.methodLink RLa 39 yLa_settleLabels ∈ pq_ws := pq_memT 405 (by decide +kernel) (by decide +kernel)
theorem wd_171 : Cond.instanceMethod yLa_settleLabels ∈ pq_ws := pq_memT 407 (by decide +kernel) (by decide +kernel)
theorem wd_172 : Cond.selects RLa yLa_settleLabels yLa_settleLabels ∈ pq_ws := pq_mem (by decide +kernel) (by decide +kernel)
theorem nw_14 : Cond.fieldLinkNest RLa 46 RIm "count" "I" "PoolAssembler" ∈ pq_nws := pq_nmem 69 (by decide +kernel) rfl
theorem nw_15 : Cond.fieldLinkNest RLa 54 RIm "poolCount" "I" "PoolAssembler" ∈ pq_nws := pq_nmem 71 (by decide +kernel) rfl
def LLa_letWait_24 : Nat → (Int32) → (Nat → Int32) → (Int32) → (Nat) → Nat
  | 0, _, _, _, j => j
  | n + 1, tn, tv, v, j => if tn ≤ (nI j) then j else if (tv (nI j).toNatClampNeg) = v then j else LLa_letWait_24 n tn tv v (j + 1)
set_option maxHeartbeats 4000000 in
set_option maxRecDepth 100000 in
theorem qLa_letWait_24 {p : Program} {l : Launch} {e : Env} {R : Room} {s : State} {m : MethodId} {args : Array Value} {below : List Frame} {meth : Method} {c : Code} {Q : State → Prop} {A : Nat → Prop} (D : va_G) (ad : Nat → Nat) (cI cS : ClassId) (hx : p.tables.exec = Jvm.exec) (hb : c.code = cLa_letWait) (hml : c.maxLocals = 4) (hw : ∀ w ∈ pq_ws, w.before args s = true) (hown : s.vm.findClass RLa = some m.cls) (hE : pq_E D cI cS s) (hA : ∀ q : Nat, s.heap.size ≤ q → A q) (xl : Int32) (v : Int32) (c0 : Nat) : ∀ (n : Nat) (j : Nat) (tn : Int32) (to : Int32) (ta : Int32) (tp : Int32) (tk : Int32) (tw : Int32) (tl : Nat → Int32) (tc : Nat → Int32) (ts : Nat → Int32) (tv : Nat → Int32) (sn : Int32) (sK : Nat → Int32) (sA : Nat → Int32) (sB : Nat → Int32) (sC : Nat → Int32) (sL : Nat → Int32) (gn : Int32) (gp : Int32) (gh : Nat → Int32) (ls : Array Slot) (H : Heap) (locs : List Loc), (tn = nI c0) → (c0 ≤ 160) → (j ≤ c0) → (c0 - j) < n → lv_has ls 4 [(0, .ref (ad 3)), (1, .int xl), (2, .int v), (3, .int (nI j))] → va_P D vwCl (wL ad cI cS tn to ta tp tk tw tl tc ts tv sn sK sA sB sC sL gn gp gh) H → va_D A (wL ad cI cS tn to ta tp tk tw tl tc ts tv sn sK sA sB sC sL gn gp gh) → va_S A s.heap H locs → (∀ (ls : Array Slot) (H : Heap) (locs : List Loc), lv_has ls 4 [(0, .ref (ad 3)), (1, .int xl), (2, .int v), (3, .int (nI (LLa_letWait_24 n tn tv v j)))] → va_P D vwCl (wL ad cI cS tn to ta tp tk tw tl tc ts tv sn sK sA sB sC sL gn gp gh) H → va_D A (wL ad cI cS tn to ta tp tk tw tl tc ts tv sn sK sA sB sC sL gn gp gh) → va_S A s.heap H locs → W p l e R s m args below meth c H locs 0 0 Q (F0 m 48 ls [])) → W p l e R s m args below meth c H locs 0 0 Q (F0 m 24 ls []) := by
  intro n
  induction n with
  | zero =>
    intro j tn to ta tp tk tw tl tc ts tv sn sK sA sB sC sL gn gp gh ls H locs hc hc1 hj hm hl hP hD hS kk
    exact absurd hm (Nat.not_lt_zero _)
  | succ n ih =>
    intro j tn to ta tp tk tw tl tc ts tv sn sK sA sB sC sL gn gp gh ls H locs hc hc1 hj hm hl hP hD hS kk
    refine lv_iload_n hx hb dLa_letWait_24 rfl (lv_at hl 3 rfl) ?_
    refine lv_aload_n hx hb dLa_letWait_25 rfl (lv_at hl 0 rfl) ?_
    refine va_get (D := D) (ci := 1) (v := .int tn) (C := RLa) (T := TLa) (N := 12) hx hb hw pinLa hown hE.1 hP 0 rfl rfl 6 (by decide) (hw _ wd_123) (fun _ h9 => h9) rfl dLa_letWait_26 ?_
    refine lv_icmp_ge (tgt := 48) hx hb dLa_letWait_29 (by decide) (fun h1 => ?_) (fun h1 => ?_)
    · have e9 : LLa_letWait_24 (n + 1) tn tv v j = j := by simp only [LLa_letWait_24, if_pos h1]
      rw [e9] at kk
      exact kk ls H locs (lv_sub hl [0, 1, 2, 3] rfl) hP hD hS
    · refine lv_aload_n hx hb dLa_letWait_32 rfl (lv_at hl 0 rfl) ?_
      refine va_get (D := D) (ci := 1) (v := .ref (ad 14)) (C := RLa) (T := TLa) (N := 12) hx hb hw pinLa hown hE.1 hP 0 rfl rfl 5 (by decide) (hw _ wd_130) (fun _ h9 => h9) rfl dLa_letWait_33 ?_
      refine lv_iload_n hx hb dLa_letWait_36 rfl (lv_at hl 3 rfl) ?_
      refine va_iald hx hb hE.1 hP 4 0 rfl rfl (pq_ix hc hc1 (by decide) (by omega) (by assumption)) dLa_letWait_37 ?_
      refine lv_iload_n hx hb dLa_letWait_38 rfl (lv_at hl 2 rfl) ?_
      refine lv_icmp_eq (tgt := 48) hx hb dLa_letWait_39 (by decide) (fun h2 => ?_) (fun h2 => ?_)
      · have e9 : LLa_letWait_24 (n + 1) tn tv v j = j := by simp only [LLa_letWait_24, if_neg h1, if_pos h2]
        rw [e9] at kk
        exact kk ls H locs (lv_sub hl [0, 1, 2, 3] rfl) hP hD hS
      · refine lv_iinc (k := 3) (v := (nI j) + 1) (lv' := [(3, .int ((nI j) + 1)), (0, .ref (ad 3)), (1, .int xl), (2, .int v)]) hx hb dLa_letWait_42 hl rfl (by first | rfl | decide) (by decide) rfl (fun ls hl => ?_)
        refine lv_goto (tgt := 24) hx hb dLa_letWait_45 (by decide) ?_
        have e9 : LLa_letWait_24 (n + 1) tn tv v j = LLa_letWait_24 n tn tv v (j + 1) := by simp only [LLa_letWait_24, if_neg h1, if_neg h2]
        rw [e9] at kk
        rw [nI_1] at hl
        exact ih (j + 1) tn to ta tp tk tw tl tc ts tv sn sK sA sB sC sL gn gp gh ls H locs hc hc1 (by have := pq_lt (j := j) hc (by omega) (by omega) (by assumption); omega) (by have := pq_lt (j := j) hc (by omega) (by omega) (by assumption); omega) (lv_sub hl [1, 2, 3, 0] rfl) hP hD hS kk
def FLa_letWait (xl : Int32) (tn : Int32) (to : Int32) (ts : Nat → Int32) (tv : Nat → Int32) (sB : Nat → Int32) : Int32 × (Nat → Int32) × (Nat → Int32) × Int32 := if tn = 0 then if (nI (LLa_letWait_24 (tn.toInt.toNat + 1) tn tv (sB xl.toNatClampNeg) 0)) = tn then if 160 ≤ tn then (xl, upd ts xl.toNatClampNeg (nI (LLa_letWait_24 (tn.toInt.toNat + 1) tn tv (sB xl.toNatClampNeg) 0)), tv, tn) else (xl, upd ts xl.toNatClampNeg (nI (LLa_letWait_24 (tn.toInt.toNat + 1) tn tv (sB xl.toNatClampNeg) 0)), upd tv (nI (LLa_letWait_24 (tn.toInt.toNat + 1) tn tv (sB xl.toNatClampNeg) 0)).toNatClampNeg (sB xl.toNatClampNeg), tn + 1) else (xl, upd ts xl.toNatClampNeg (nI (LLa_letWait_24 (tn.toInt.toNat + 1) tn tv (sB xl.toNatClampNeg) 0)), tv, tn) else if (nI (LLa_letWait_24 (tn.toInt.toNat + 1) tn tv (sB xl.toNatClampNeg) 0)) = tn then if 160 ≤ tn then (to, upd ts xl.toNatClampNeg (nI (LLa_letWait_24 (tn.toInt.toNat + 1) tn tv (sB xl.toNatClampNeg) 0)), tv, tn) else (to, upd ts xl.toNatClampNeg (nI (LLa_letWait_24 (tn.toInt.toNat + 1) tn tv (sB xl.toNatClampNeg) 0)), upd tv (nI (LLa_letWait_24 (tn.toInt.toNat + 1) tn tv (sB xl.toNatClampNeg) 0)).toNatClampNeg (sB xl.toNatClampNeg), tn + 1) else (to, upd ts xl.toNatClampNeg (nI (LLa_letWait_24 (tn.toInt.toNat + 1) tn tv (sB xl.toNatClampNeg) 0)), tv, tn)
set_option maxHeartbeats 4000000 in
set_option maxRecDepth 100000 in
theorem k_La_letWait (l : Launch) (D : va_G) (ad : Nat → Nat) (cI cS : ClassId) (xl : Int32) (tn : Int32) (to : Int32) (ta : Int32) (tp : Int32) (tk : Int32) (tw : Int32) (tl : Nat → Int32) (tc : Nat → Int32) (ts : Nat → Int32) (tv : Nat → Int32) (sn : Int32) (sK : Nat → Int32) (sA : Nat → Int32) (sB : Nat → Int32) (sC : Nat → Int32) (sL : Nat → Int32) (gn : Int32) (gp : Int32) (gh : Nat → Int32) (hxl : vp_in xl 160) (htn0 : ¬ tn < 0) (htn1 : tn.toInt ≤ 160) (hto : vp_in to 160) : pq_VP l yLa_letWait (.code yLa_letWait cLa_letWait 4 none :: pq_ws) { frames := 0, cells := 0, slots := 0, locals := 0 } D cI cS [.ref (ad 3), .int xl] (wL ad cI cS tn to ta tp tk tw tl tc ts tv sn sK sA sB sC sL gn gp gh) ((¬ ((FLa_letWait xl tn to ts tv sB).2.2.2) < 0) ∧ (((FLa_letWait xl tn to ts tv sB).2.2.2).toInt ≤ 160) ∧ (vp_in ((FLa_letWait xl tn to ts tv sB).1) 160)) (wL ad cI cS ((FLa_letWait xl tn to ts tv sB).2.2.2) ((FLa_letWait xl tn to ts tv sB).1) ta tp tk tw tl tc ((FLa_letWait xl tn to ts tv sB).2.1) ((FLa_letWait xl tn to ts tv sB).2.2.1) sn sK sA sB sC sL gn gp gh) := by
  intro sz
  refine Met.ofW (cc := cLa_letWait) (maxL := 4) (ret := none) (by decide) rfl ?_
  intro p e s m args below meth c s₁ B hml hv
  obtain ⟨rfl, hsz, hP, hD0, hE⟩ := hv
  have hx := B.exec
  have hb := B.bytes
  have hr := B.returns
  have hts := atoms_spec (ws := (.code yLa_letWait cLa_letWait 4 none :: pq_ws : List Cond)) B.pre
  have hw : ∀ w ∈ pq_ws, w.before _ s = true := fun w h => hts w (List.mem_cons_of_mem _ h)
  have hown : s.vm.findClass RLa = some m.cls := findClass_of_methodNamed B.named
  have hlocks := B.notSynchronized
  subst hsz
  have hD := hD0.self (sz := s.heap.size)
  have hA : ∀ q : Nat, s.heap.size ≤ q → va_A (wL ad cI cS tn to ta tp tk tw tl tc ts tv sn sK sA sB sC sL gn gp gh) s.heap.size q := fun q h => Or.inr h
  have hS : va_S (va_A (wL ad cI cS tn to ta tp tk tw tl tc ts tv sn sK sA sB sC sL gn gp gh) s.heap.size) s.heap s.heap [] := va_S.rf
  have hl := lv_entry ([.ref (ad 3), .int xl] : List Value) (n := 4) (Nat.le_of_ble_eq_true rfl)
  rw [lg_entry_eq]
  generalize (lg_sl ([.ref (ad 3), .int xl] : List Value) ++ List.replicate (4 - (lg_sl ([.ref (ad 3), .int xl] : List Value)).length) Slot.unset).toArray = ls at hl ⊢
  have hl : lv_has ls 4 [(0, .ref (ad 3)), (1, .int xl)] := hl
  refine lv_aload_n hx hb dLa_letWait_0 rfl (lv_at hl 0 rfl) ?_
  refine va_get (D := D) (ci := 1) (v := .int tn) (C := RLa) (T := TLa) (N := 12) hx hb hw pinLa hown hE.1 hP 0 rfl rfl 6 (by decide) (hw _ wd_123) (fun _ h9 => h9) rfl dLa_letWait_1 ?_
  refine lv_if_ne (tgt := 12) hx hb dLa_letWait_4 (by decide) (fun h1 => ?_) (fun h1 => ?_)
  · refine lv_aload_n hx hb dLa_letWait_12 rfl (lv_at hl 0 rfl) ?_
    refine va_get (D := D) (ci := 1) (v := .ref (ad 1)) (C := RLa) (T := TLa) (N := 12) hx hb hw pinLa hown hE.1 hP 0 rfl rfl 0 (by decide) (hw _ wd_100) (fun _ h9 => h9) rfl dLa_letWait_13 ?_
    refine va_getN (D := D) (ci := 3) (v := .ref (ad 7)) (C := RSo) (T := TSo) (N := 6) hx hb hw pinSo hown hE.1 hP 5 rfl rfl 2 (by decide) (va_Nw.use rfl (hE.2 _ nw_10)) (fun _ h9 => h9) rfl dLa_letWait_16 ?_
    refine lv_iload_n hx hb dLa_letWait_19 rfl (lv_at hl 1 rfl) ?_
    refine va_iald hx hb hE.1 hP 8 0 rfl rfl hxl dLa_letWait_20 ?_
    refine lv_istore_n (lv' := [(2, .int (sB xl.toNatClampNeg)), (0, .ref (ad 3)), (1, .int xl)]) hx hb dLa_letWait_21 rfl hl (by decide) rfl (fun ls hl => ?_)
    refine lv_iconst (v := 0) hx hb dLa_letWait_22 (by first | rfl | decide) ?_
    refine lv_istore_n (lv' := [(3, .int 0), (2, .int (sB xl.toNatClampNeg)), (0, .ref (ad 3)), (1, .int xl)]) hx hb dLa_letWait_23 rfl hl (by decide) rfl (fun ls hl => ?_)
    refine qLa_letWait_24 D ad cI cS hx hb hml hw hown hE hA xl (sB xl.toNatClampNeg) tn.toInt.toNat (tn.toInt.toNat + 1) 0 tn to ta tp tk tw tl tc ts tv sn sK sA sB sC sL gn gp gh ls s.heap [] (pq_nat htn0) (pq_nat_le htn1) (Nat.zero_le _) (by omega) (lv_sub hl [2, 3, 1, 0] rfl) hP hD hS (fun ls H locs hl hP hD hS => ?_)
    have hP : va_P D vwCl (wL ad cI cS tn to ta tp tk tw tl tc ts tv sn sK sA sB sC sL gn gp gh) H := hP
    have hD : va_D _ (wL ad cI cS tn to ta tp tk tw tl tc ts tv sn sK sA sB sC sL gn gp gh) := hD
    refine lv_aload_n hx hb dLa_letWait_48 rfl (lv_at hl 0 rfl) ?_
    refine va_get (D := D) (ci := 1) (v := .ref (ad 13)) (C := RLa) (T := TLa) (N := 12) hx hb hw pinLa hown hE.1 hP 0 rfl rfl 4 (by decide) (hw _ wd_131) (fun _ h9 => h9) rfl dLa_letWait_49 ?_
    refine lv_iload_n hx hb dLa_letWait_52 rfl (lv_at hl 1 rfl) ?_
    refine lv_iload_n hx hb dLa_letWait_53 rfl (lv_at hl 3 rfl) ?_
    refine va_iast hx hb hE.1 hP hD hS 3 0 rfl rfl hxl dLa_letWait_54 (fun H locs hP hD hS => ?_)
    have hP : va_P D vwCl (wL ad cI cS tn to ta tp tk tw tl tc (upd ts xl.toNatClampNeg (nI (LLa_letWait_24 (tn.toInt.toNat + 1) tn tv (sB xl.toNatClampNeg) 0))) tv sn sK sA sB sC sL gn gp gh) H := hP
    have hD : va_D _ (wL ad cI cS tn to ta tp tk tw tl tc (upd ts xl.toNatClampNeg (nI (LLa_letWait_24 (tn.toInt.toNat + 1) tn tv (sB xl.toNatClampNeg) 0))) tv sn sK sA sB sC sL gn gp gh) := hD
    refine lv_iload_n hx hb dLa_letWait_55 rfl (lv_at hl 3 rfl) ?_
    refine lv_aload_n hx hb dLa_letWait_56 rfl (lv_at hl 0 rfl) ?_
    refine va_get (D := D) (ci := 1) (v := .int tn) (C := RLa) (T := TLa) (N := 12) hx hb hw pinLa hown hE.1 hP 0 rfl rfl 6 (by decide) (hw _ wd_123) (fun _ h9 => h9) rfl dLa_letWait_57 ?_
    refine lv_icmp_ne (tgt := 90) hx hb dLa_letWait_60 (by decide) (fun h2 => ?_) (fun h2 => ?_)
    · have e9 : FLa_letWait xl tn to ts tv sB = (to, upd ts xl.toNatClampNeg (nI (LLa_letWait_24 (tn.toInt.toNat + 1) tn tv (sB xl.toNatClampNeg) 0)), tv, tn) := by simp only [FLa_letWait, if_neg h1, if_neg h2]
      have p9 : (¬ tn < 0) ∧ (tn.toInt ≤ 160) ∧ (vp_in to 160) := ⟨by first | assumption | exact pq_inc0 htn0 (by assumption), by first | assumption | exact pq_inc1 htn0 (by assumption), by assumption⟩
      exact W.vret hx hb hr (fun t ht hW => ⟨⟨(), rfl, by rw [e9]; exact p9, by rw [e9, ht]; exact hP, by rw [e9]; exact hD⟩, hS.F ht⟩) hS.2.2 dLa_letWait_90
    · refine lv_aload_n hx hb dLa_letWait_63 rfl (lv_at hl 0 rfl) ?_
      refine va_get (D := D) (ci := 1) (v := .int tn) (C := RLa) (T := TLa) (N := 12) hx hb hw pinLa hown hE.1 hP 0 rfl rfl 6 (by decide) (hw _ wd_123) (fun _ h9 => h9) rfl dLa_letWait_64 ?_
      refine lv_sipush (v := 160) hx hb dLa_letWait_67 (by first | rfl | decide) ?_
      refine lv_icmp_ge (tgt := 90) hx hb dLa_letWait_70 (by decide) (fun h3 => ?_) (fun h3 => ?_)
      · have e9 : FLa_letWait xl tn to ts tv sB = (to, upd ts xl.toNatClampNeg (nI (LLa_letWait_24 (tn.toInt.toNat + 1) tn tv (sB xl.toNatClampNeg) 0)), tv, tn) := by simp only [FLa_letWait, if_neg h1, if_pos h2, if_pos h3]
        have p9 : (¬ tn < 0) ∧ (tn.toInt ≤ 160) ∧ (vp_in to 160) := ⟨by first | assumption | exact pq_inc0 htn0 (by assumption), by first | assumption | exact pq_inc1 htn0 (by assumption), by assumption⟩
        exact W.vret hx hb hr (fun t ht hW => ⟨⟨(), rfl, by rw [e9]; exact p9, by rw [e9, ht]; exact hP, by rw [e9]; exact hD⟩, hS.F ht⟩) hS.2.2 dLa_letWait_90
      · refine lv_aload_n hx hb dLa_letWait_73 rfl (lv_at hl 0 rfl) ?_
        refine va_get (D := D) (ci := 1) (v := .ref (ad 14)) (C := RLa) (T := TLa) (N := 12) hx hb hw pinLa hown hE.1 hP 0 rfl rfl 5 (by decide) (hw _ wd_130) (fun _ h9 => h9) rfl dLa_letWait_74 ?_
        refine lv_iload_n hx hb dLa_letWait_77 rfl (lv_at hl 3 rfl) ?_
        refine lv_iload_n hx hb dLa_letWait_78 rfl (lv_at hl 2 rfl) ?_
        refine va_iast hx hb hE.1 hP hD hS 4 0 rfl rfl (pq_slot htn0 (by assumption) (by assumption)) dLa_letWait_79 (fun H locs hP hD hS => ?_)
        have hP : va_P D vwCl (wL ad cI cS tn to ta tp tk tw tl tc (upd ts xl.toNatClampNeg (nI (LLa_letWait_24 (tn.toInt.toNat + 1) tn tv (sB xl.toNatClampNeg) 0))) (upd tv (nI (LLa_letWait_24 (tn.toInt.toNat + 1) tn tv (sB xl.toNatClampNeg) 0)).toNatClampNeg (sB xl.toNatClampNeg)) sn sK sA sB sC sL gn gp gh) H := hP
        have hD : va_D _ (wL ad cI cS tn to ta tp tk tw tl tc (upd ts xl.toNatClampNeg (nI (LLa_letWait_24 (tn.toInt.toNat + 1) tn tv (sB xl.toNatClampNeg) 0))) (upd tv (nI (LLa_letWait_24 (tn.toInt.toNat + 1) tn tv (sB xl.toNatClampNeg) 0)).toNatClampNeg (sB xl.toNatClampNeg)) sn sK sA sB sC sL gn gp gh) := hD
        refine lv_aload_n hx hb dLa_letWait_80 rfl (lv_at hl 0 rfl) ?_
        refine lv_dup hx hb dLa_letWait_81 rfl ?_
        refine va_get (D := D) (ci := 1) (v := .int tn) (C := RLa) (T := TLa) (N := 12) hx hb hw pinLa hown hE.1 hP 0 rfl rfl 6 (by decide) (hw _ wd_123) (fun _ h9 => h9) rfl dLa_letWait_82 ?_
        refine lv_iconst (v := 1) hx hb dLa_letWait_85 (by first | rfl | decide) ?_
        refine lv_iadd hx hb dLa_letWait_86 ?_
        refine va_put (D := D) (ci := 1) (v := .int (tn + 1)) (ty := .int) (C := RLa) (T := TLa) (N := 12) hx hb hw pinLa tyLa tyLa_ok nmLa hown hE.1 hP hD hS 0 rfl rfl 6 (by decide) (hw _ wd_123) (fun _ h9 => h9) rfl (by decide +kernel) rfl rfl (Nat.le_of_ble_eq_true rfl) dLa_letWait_87 (fun H locs hP hD hS => ?_)
        have hP : va_P D vwCl (wL ad cI cS (tn + 1) to ta tp tk tw tl tc (upd ts xl.toNatClampNeg (nI (LLa_letWait_24 (tn.toInt.toNat + 1) tn tv (sB xl.toNatClampNeg) 0))) (upd tv (nI (LLa_letWait_24 (tn.toInt.toNat + 1) tn tv (sB xl.toNatClampNeg) 0)).toNatClampNeg (sB xl.toNatClampNeg)) sn sK sA sB sC sL gn gp gh) H := hP
        have hD : va_D _ (wL ad cI cS (tn + 1) to ta tp tk tw tl tc (upd ts xl.toNatClampNeg (nI (LLa_letWait_24 (tn.toInt.toNat + 1) tn tv (sB xl.toNatClampNeg) 0))) (upd tv (nI (LLa_letWait_24 (tn.toInt.toNat + 1) tn tv (sB xl.toNatClampNeg) 0)).toNatClampNeg (sB xl.toNatClampNeg)) sn sK sA sB sC sL gn gp gh) := hD
        have e9 : FLa_letWait xl tn to ts tv sB = (to, upd ts xl.toNatClampNeg (nI (LLa_letWait_24 (tn.toInt.toNat + 1) tn tv (sB xl.toNatClampNeg) 0)), upd tv (nI (LLa_letWait_24 (tn.toInt.toNat + 1) tn tv (sB xl.toNatClampNeg) 0)).toNatClampNeg (sB xl.toNatClampNeg), tn + 1) := by simp only [FLa_letWait, if_neg h1, if_pos h2, if_neg h3]
        have p9 : (¬ (tn + 1) < 0) ∧ ((tn + 1).toInt ≤ 160) ∧ (vp_in to 160) := ⟨by first | assumption | exact pq_inc0 htn0 (by assumption), by first | assumption | exact pq_inc1 htn0 (by assumption), by assumption⟩
        exact W.vret hx hb hr (fun t ht hW => ⟨⟨(), rfl, by rw [e9]; exact p9, by rw [e9, ht]; exact hP, by rw [e9]; exact hD⟩, hS.F ht⟩) hS.2.2 dLa_letWait_90
  · refine lv_aload_n hx hb dLa_letWait_7 rfl (lv_at hl 0 rfl) ?_
    refine lv_iload_n hx hb dLa_letWait_8 rfl (lv_at hl 1 rfl) ?_
    refine va_put (D := D) (ci := 1) (v := .int xl) (ty := .int) (C := RLa) (T := TLa) (N := 12) hx hb hw pinLa tyLa tyLa_ok nmLa hown hE.1 hP hD hS 0 rfl rfl 7 (by decide) (hw _ wd_126) (fun _ h9 => h9) rfl (by decide +kernel) rfl rfl (Nat.le_of_ble_eq_true rfl) dLa_letWait_9 (fun H locs hP hD hS => ?_)
    have hP : va_P D vwCl (wL ad cI cS tn xl ta tp tk tw tl tc ts tv sn sK sA sB sC sL gn gp gh) H := hP
    have hD : va_D _ (wL ad cI cS tn xl ta tp tk tw tl tc ts tv sn sK sA sB sC sL gn gp gh) := hD
    refine lv_aload_n hx hb dLa_letWait_12 rfl (lv_at hl 0 rfl) ?_
    refine va_get (D := D) (ci := 1) (v := .ref (ad 1)) (C := RLa) (T := TLa) (N := 12) hx hb hw pinLa hown hE.1 hP 0 rfl rfl 0 (by decide) (hw _ wd_100) (fun _ h9 => h9) rfl dLa_letWait_13 ?_
    refine va_getN (D := D) (ci := 3) (v := .ref (ad 7)) (C := RSo) (T := TSo) (N := 6) hx hb hw pinSo hown hE.1 hP 5 rfl rfl 2 (by decide) (va_Nw.use rfl (hE.2 _ nw_10)) (fun _ h9 => h9) rfl dLa_letWait_16 ?_
    refine lv_iload_n hx hb dLa_letWait_19 rfl (lv_at hl 1 rfl) ?_
    refine va_iald hx hb hE.1 hP 8 0 rfl rfl hxl dLa_letWait_20 ?_
    refine lv_istore_n (lv' := [(2, .int (sB xl.toNatClampNeg)), (0, .ref (ad 3)), (1, .int xl)]) hx hb dLa_letWait_21 rfl hl (by decide) rfl (fun ls hl => ?_)
    refine lv_iconst (v := 0) hx hb dLa_letWait_22 (by first | rfl | decide) ?_
    refine lv_istore_n (lv' := [(3, .int 0), (2, .int (sB xl.toNatClampNeg)), (0, .ref (ad 3)), (1, .int xl)]) hx hb dLa_letWait_23 rfl hl (by decide) rfl (fun ls hl => ?_)
    refine qLa_letWait_24 D ad cI cS hx hb hml hw hown hE hA xl (sB xl.toNatClampNeg) tn.toInt.toNat (tn.toInt.toNat + 1) 0 tn xl ta tp tk tw tl tc ts tv sn sK sA sB sC sL gn gp gh ls H locs (pq_nat htn0) (pq_nat_le htn1) (Nat.zero_le _) (by omega) (lv_sub hl [2, 3, 1, 0] rfl) hP hD hS (fun ls H locs hl hP hD hS => ?_)
    have hP : va_P D vwCl (wL ad cI cS tn xl ta tp tk tw tl tc ts tv sn sK sA sB sC sL gn gp gh) H := hP
    have hD : va_D _ (wL ad cI cS tn xl ta tp tk tw tl tc ts tv sn sK sA sB sC sL gn gp gh) := hD
    refine lv_aload_n hx hb dLa_letWait_48 rfl (lv_at hl 0 rfl) ?_
    refine va_get (D := D) (ci := 1) (v := .ref (ad 13)) (C := RLa) (T := TLa) (N := 12) hx hb hw pinLa hown hE.1 hP 0 rfl rfl 4 (by decide) (hw _ wd_131) (fun _ h9 => h9) rfl dLa_letWait_49 ?_
    refine lv_iload_n hx hb dLa_letWait_52 rfl (lv_at hl 1 rfl) ?_
    refine lv_iload_n hx hb dLa_letWait_53 rfl (lv_at hl 3 rfl) ?_
    refine va_iast hx hb hE.1 hP hD hS 3 0 rfl rfl hxl dLa_letWait_54 (fun H locs hP hD hS => ?_)
    have hP : va_P D vwCl (wL ad cI cS tn xl ta tp tk tw tl tc (upd ts xl.toNatClampNeg (nI (LLa_letWait_24 (tn.toInt.toNat + 1) tn tv (sB xl.toNatClampNeg) 0))) tv sn sK sA sB sC sL gn gp gh) H := hP
    have hD : va_D _ (wL ad cI cS tn xl ta tp tk tw tl tc (upd ts xl.toNatClampNeg (nI (LLa_letWait_24 (tn.toInt.toNat + 1) tn tv (sB xl.toNatClampNeg) 0))) tv sn sK sA sB sC sL gn gp gh) := hD
    refine lv_iload_n hx hb dLa_letWait_55 rfl (lv_at hl 3 rfl) ?_
    refine lv_aload_n hx hb dLa_letWait_56 rfl (lv_at hl 0 rfl) ?_
    refine va_get (D := D) (ci := 1) (v := .int tn) (C := RLa) (T := TLa) (N := 12) hx hb hw pinLa hown hE.1 hP 0 rfl rfl 6 (by decide) (hw _ wd_123) (fun _ h9 => h9) rfl dLa_letWait_57 ?_
    refine lv_icmp_ne (tgt := 90) hx hb dLa_letWait_60 (by decide) (fun h4 => ?_) (fun h4 => ?_)
    · have e9 : FLa_letWait xl tn to ts tv sB = (xl, upd ts xl.toNatClampNeg (nI (LLa_letWait_24 (tn.toInt.toNat + 1) tn tv (sB xl.toNatClampNeg) 0)), tv, tn) := by simp only [FLa_letWait, if_pos h1, if_neg h4]
      have p9 : (¬ tn < 0) ∧ (tn.toInt ≤ 160) ∧ (vp_in xl 160) := ⟨by first | assumption | exact pq_inc0 htn0 (by assumption), by first | assumption | exact pq_inc1 htn0 (by assumption), by assumption⟩
      exact W.vret hx hb hr (fun t ht hW => ⟨⟨(), rfl, by rw [e9]; exact p9, by rw [e9, ht]; exact hP, by rw [e9]; exact hD⟩, hS.F ht⟩) hS.2.2 dLa_letWait_90
    · refine lv_aload_n hx hb dLa_letWait_63 rfl (lv_at hl 0 rfl) ?_
      refine va_get (D := D) (ci := 1) (v := .int tn) (C := RLa) (T := TLa) (N := 12) hx hb hw pinLa hown hE.1 hP 0 rfl rfl 6 (by decide) (hw _ wd_123) (fun _ h9 => h9) rfl dLa_letWait_64 ?_
      refine lv_sipush (v := 160) hx hb dLa_letWait_67 (by first | rfl | decide) ?_
      refine lv_icmp_ge (tgt := 90) hx hb dLa_letWait_70 (by decide) (fun h5 => ?_) (fun h5 => ?_)
      · have e9 : FLa_letWait xl tn to ts tv sB = (xl, upd ts xl.toNatClampNeg (nI (LLa_letWait_24 (tn.toInt.toNat + 1) tn tv (sB xl.toNatClampNeg) 0)), tv, tn) := by simp only [FLa_letWait, if_pos h1, if_pos h4, if_pos h5]
        have p9 : (¬ tn < 0) ∧ (tn.toInt ≤ 160) ∧ (vp_in xl 160) := ⟨by first | assumption | exact pq_inc0 htn0 (by assumption), by first | assumption | exact pq_inc1 htn0 (by assumption), by assumption⟩
        exact W.vret hx hb hr (fun t ht hW => ⟨⟨(), rfl, by rw [e9]; exact p9, by rw [e9, ht]; exact hP, by rw [e9]; exact hD⟩, hS.F ht⟩) hS.2.2 dLa_letWait_90
      · refine lv_aload_n hx hb dLa_letWait_73 rfl (lv_at hl 0 rfl) ?_
        refine va_get (D := D) (ci := 1) (v := .ref (ad 14)) (C := RLa) (T := TLa) (N := 12) hx hb hw pinLa hown hE.1 hP 0 rfl rfl 5 (by decide) (hw _ wd_130) (fun _ h9 => h9) rfl dLa_letWait_74 ?_
        refine lv_iload_n hx hb dLa_letWait_77 rfl (lv_at hl 3 rfl) ?_
        refine lv_iload_n hx hb dLa_letWait_78 rfl (lv_at hl 2 rfl) ?_
        refine va_iast hx hb hE.1 hP hD hS 4 0 rfl rfl (pq_slot htn0 (by assumption) (by assumption)) dLa_letWait_79 (fun H locs hP hD hS => ?_)
        have hP : va_P D vwCl (wL ad cI cS tn xl ta tp tk tw tl tc (upd ts xl.toNatClampNeg (nI (LLa_letWait_24 (tn.toInt.toNat + 1) tn tv (sB xl.toNatClampNeg) 0))) (upd tv (nI (LLa_letWait_24 (tn.toInt.toNat + 1) tn tv (sB xl.toNatClampNeg) 0)).toNatClampNeg (sB xl.toNatClampNeg)) sn sK sA sB sC sL gn gp gh) H := hP
        have hD : va_D _ (wL ad cI cS tn xl ta tp tk tw tl tc (upd ts xl.toNatClampNeg (nI (LLa_letWait_24 (tn.toInt.toNat + 1) tn tv (sB xl.toNatClampNeg) 0))) (upd tv (nI (LLa_letWait_24 (tn.toInt.toNat + 1) tn tv (sB xl.toNatClampNeg) 0)).toNatClampNeg (sB xl.toNatClampNeg)) sn sK sA sB sC sL gn gp gh) := hD
        refine lv_aload_n hx hb dLa_letWait_80 rfl (lv_at hl 0 rfl) ?_
        refine lv_dup hx hb dLa_letWait_81 rfl ?_
        refine va_get (D := D) (ci := 1) (v := .int tn) (C := RLa) (T := TLa) (N := 12) hx hb hw pinLa hown hE.1 hP 0 rfl rfl 6 (by decide) (hw _ wd_123) (fun _ h9 => h9) rfl dLa_letWait_82 ?_
        refine lv_iconst (v := 1) hx hb dLa_letWait_85 (by first | rfl | decide) ?_
        refine lv_iadd hx hb dLa_letWait_86 ?_
        refine va_put (D := D) (ci := 1) (v := .int (tn + 1)) (ty := .int) (C := RLa) (T := TLa) (N := 12) hx hb hw pinLa tyLa tyLa_ok nmLa hown hE.1 hP hD hS 0 rfl rfl 6 (by decide) (hw _ wd_123) (fun _ h9 => h9) rfl (by decide +kernel) rfl rfl (Nat.le_of_ble_eq_true rfl) dLa_letWait_87 (fun H locs hP hD hS => ?_)
        have hP : va_P D vwCl (wL ad cI cS (tn + 1) xl ta tp tk tw tl tc (upd ts xl.toNatClampNeg (nI (LLa_letWait_24 (tn.toInt.toNat + 1) tn tv (sB xl.toNatClampNeg) 0))) (upd tv (nI (LLa_letWait_24 (tn.toInt.toNat + 1) tn tv (sB xl.toNatClampNeg) 0)).toNatClampNeg (sB xl.toNatClampNeg)) sn sK sA sB sC sL gn gp gh) H := hP
        have hD : va_D _ (wL ad cI cS (tn + 1) xl ta tp tk tw tl tc (upd ts xl.toNatClampNeg (nI (LLa_letWait_24 (tn.toInt.toNat + 1) tn tv (sB xl.toNatClampNeg) 0))) (upd tv (nI (LLa_letWait_24 (tn.toInt.toNat + 1) tn tv (sB xl.toNatClampNeg) 0)).toNatClampNeg (sB xl.toNatClampNeg)) sn sK sA sB sC sL gn gp gh) := hD
        have e9 : FLa_letWait xl tn to ts tv sB = (xl, upd ts xl.toNatClampNeg (nI (LLa_letWait_24 (tn.toInt.toNat + 1) tn tv (sB xl.toNatClampNeg) 0)), upd tv (nI (LLa_letWait_24 (tn.toInt.toNat + 1) tn tv (sB xl.toNatClampNeg) 0)).toNatClampNeg (sB xl.toNatClampNeg), tn + 1) := by simp only [FLa_letWait, if_pos h1, if_pos h4, if_neg h5]
        have p9 : (¬ (tn + 1) < 0) ∧ ((tn + 1).toInt ≤ 160) ∧ (vp_in xl 160) := ⟨by first | assumption | exact pq_inc0 htn0 (by assumption), by first | assumption | exact pq_inc1 htn0 (by assumption), by assumption⟩
        exact W.vret hx hb hr (fun t ht hW => ⟨⟨(), rfl, by rw [e9]; exact p9, by rw [e9, ht]; exact hP, by rw [e9]; exact hD⟩, hS.F ht⟩) hS.2.2 dLa_letWait_90
def LLa_putPool_83 : Nat → (Int32) → (Int32) → (Nat → Int32) → (Nat → Int32) → (Nat) → (Nat → Int32) → Nat × (Nat → Int32)
  | 0, _, _, _, _, i, tc => (i, tc)
  | n + 1, xn, ta, ts, sK, i, tc => if xn ≤ (nI i) then (i, tc) else if (sK (nI i).toNatClampNeg) = 10 then LLa_putPool_83 n xn ta ts sK (i + 1) (upd tc (nI i).toNatClampNeg (ta + (4 * (ts (nI i).toNatClampNeg)))) else LLa_putPool_83 n xn ta ts sK (i + 1) tc
set_option maxHeartbeats 4000000 in
set_option maxRecDepth 100000 in
theorem qLa_putPool_83 {p : Program} {l : Launch} {e : Env} {R : Room} {s : State} {m : MethodId} {args : Array Value} {below : List Frame} {meth : Method} {c : Code} {Q : State → Prop} {A : Nat → Prop} (D : va_G) (ad : Nat → Nat) (cI cS : ClassId) (hx : p.tables.exec = Jvm.exec) (hb : c.code = cLa_putPool) (hml : c.maxLocals = 3) (hw : ∀ w ∈ pq_ws, w.before args s = true) (hown : s.vm.findClass RLa = some m.cls) (hE : pq_E D cI cS s) (hA : ∀ q : Nat, s.heap.size ≤ q → A q) (xn : Int32) (k0 : Nat) (hk : xn = nI k0) (hk1 : k0 ≤ 160) : ∀ (n : Nat) (i : Nat) (tn : Int32) (to : Int32) (ta : Int32) (tp : Int32) (tk : Int32) (tw : Int32) (tl : Nat → Int32) (tc : Nat → Int32) (ts : Nat → Int32) (tv : Nat → Int32) (sn : Int32) (sK : Nat → Int32) (sA : Nat → Int32) (sB : Nat → Int32) (sC : Nat → Int32) (sL : Nat → Int32) (gn : Int32) (gp : Int32) (gh : Nat → Int32) (ls : Array Slot) (H : Heap) (locs : List Loc), (i < 2 ^ 31) → (k0 - i) < n → lv_has ls 3 [(0, .ref (ad 3)), (1, .int xn), (2, .int (nI i))] → va_P D vwCl (wL ad cI cS tn to ta tp tk tw tl tc ts tv sn sK sA sB sC sL gn gp gh) H → va_D A (wL ad cI cS tn to ta tp tk tw tl tc ts tv sn sK sA sB sC sL gn gp gh) → va_S A s.heap H locs → (∀ (ls : Array Slot) (H : Heap) (locs : List Loc), lv_has ls 3 [(0, .ref (ad 3)), (1, .int xn), (2, .int (nI ((LLa_putPool_83 n xn ta ts sK i tc).1)))] → va_P D vwCl (wL ad cI cS tn to ta tp tk tw tl ((LLa_putPool_83 n xn ta ts sK i tc).2) ts tv sn sK sA sB sC sL gn gp gh) H → va_D A (wL ad cI cS tn to ta tp tk tw tl ((LLa_putPool_83 n xn ta ts sK i tc).2) ts tv sn sK sA sB sC sL gn gp gh) → va_S A s.heap H locs → W p l e R s m args below meth c H locs 0 0 Q (F0 m 127 ls [])) → W p l e R s m args below meth c H locs 0 0 Q (F0 m 83 ls []) := by
  intro n
  induction n with
  | zero =>
    intro i tn to ta tp tk tw tl tc ts tv sn sK sA sB sC sL gn gp gh ls H locs hi hm hl hP hD hS kk
    exact absurd hm (Nat.not_lt_zero _)
  | succ n ih =>
    intro i tn to ta tp tk tw tl tc ts tv sn sK sA sB sC sL gn gp gh ls H locs hi hm hl hP hD hS kk
    refine lv_iload_n hx hb dLa_putPool_83 rfl (lv_at hl 2 rfl) ?_
    refine lv_iload_n hx hb dLa_putPool_84 rfl (lv_at hl 1 rfl) ?_
    refine lv_icmp_ge (tgt := 127) hx hb dLa_putPool_85 (by decide) (fun h1 => ?_) (fun h1 => ?_)
    · have e9 : LLa_putPool_83 (n + 1) xn ta ts sK i tc = (i, tc) := by simp only [LLa_putPool_83, if_pos h1]
      rw [e9] at kk
      exact kk ls H locs (lv_sub hl [0, 1, 2] rfl) hP hD hS
    · refine lv_aload_n hx hb dLa_putPool_88 rfl (lv_at hl 0 rfl) ?_
      refine va_get (D := D) (ci := 1) (v := .ref (ad 1)) (C := RLa) (T := TLa) (N := 12) hx hb hw pinLa hown hE.1 hP 0 rfl rfl 0 (by decide) (hw _ wd_100) (fun _ h9 => h9) rfl dLa_putPool_89 ?_
      refine va_getN (D := D) (ci := 3) (v := .ref (ad 5)) (C := RSo) (T := TSo) (N := 6) hx hb hw pinSo hown hE.1 hP 5 rfl rfl 0 (by decide) (va_Nw.use rfl (hE.2 _ nw_8)) (fun _ h9 => h9) rfl dLa_putPool_92 ?_
      refine lv_iload_n hx hb dLa_putPool_95 rfl (lv_at hl 2 rfl) ?_
      refine va_iald hx hb hE.1 hP 6 0 rfl rfl (pq_ix hk hk1 (by decide) hi (by assumption)) dLa_putPool_96 ?_
      refine lv_bipush (v := 10) hx hb dLa_putPool_97 (by first | rfl | decide) ?_
      refine lv_icmp_ne (tgt := 121) hx hb dLa_putPool_99 (by decide) (fun h2 => ?_) (fun h2 => ?_)
      · refine lv_iinc (k := 2) (v := (nI i) + 1) (lv' := [(2, .int ((nI i) + 1)), (0, .ref (ad 3)), (1, .int xn)]) hx hb dLa_putPool_121 hl rfl (by first | rfl | decide) (by decide) rfl (fun ls hl => ?_)
        refine lv_goto (tgt := 83) hx hb dLa_putPool_124 (by decide) ?_
        have e9 : LLa_putPool_83 (n + 1) xn ta ts sK i tc = LLa_putPool_83 n xn ta ts sK (i + 1) tc := by simp only [LLa_putPool_83, if_neg h1, if_neg h2]
        rw [e9] at kk
        rw [nI_1] at hl
        exact ih (i + 1) tn to ta tp tk tw tl tc ts tv sn sK sA sB sC sL gn gp gh ls H locs (by have := pq_lt (j := i) hk (by omega) (by omega) (by assumption); omega) (by have := pq_lt (j := i) hk (by omega) (by omega) (by assumption); omega) (lv_sub hl [1, 2, 0] rfl) hP hD hS kk
      · refine lv_aload_n hx hb dLa_putPool_102 rfl (lv_at hl 0 rfl) ?_
        refine va_get (D := D) (ci := 1) (v := .ref (ad 12)) (C := RLa) (T := TLa) (N := 12) hx hb hw pinLa hown hE.1 hP 0 rfl rfl 3 (by decide) (hw _ wd_105) (fun _ h9 => h9) rfl dLa_putPool_103 ?_
        refine lv_iload_n hx hb dLa_putPool_106 rfl (lv_at hl 2 rfl) ?_
        refine lv_aload_n hx hb dLa_putPool_107 rfl (lv_at hl 0 rfl) ?_
        refine va_get (D := D) (ci := 1) (v := .int ta) (C := RLa) (T := TLa) (N := 12) hx hb hw pinLa hown hE.1 hP 0 rfl rfl 8 (by decide) (hw _ wd_95) (fun _ h9 => h9) rfl dLa_putPool_108 ?_
        refine lv_iconst (v := 4) hx hb dLa_putPool_111 (by first | rfl | decide) ?_
        refine lv_aload_n hx hb dLa_putPool_112 rfl (lv_at hl 0 rfl) ?_
        refine va_get (D := D) (ci := 1) (v := .ref (ad 13)) (C := RLa) (T := TLa) (N := 12) hx hb hw pinLa hown hE.1 hP 0 rfl rfl 4 (by decide) (hw _ wd_131) (fun _ h9 => h9) rfl dLa_putPool_113 ?_
        refine lv_iload_n hx hb dLa_putPool_116 rfl (lv_at hl 2 rfl) ?_
        refine va_iald hx hb hE.1 hP 3 0 rfl rfl (pq_ix hk hk1 (by decide) hi (by assumption)) dLa_putPool_117 ?_
        refine lv_imul hx hb dLa_putPool_118 ?_
        refine lv_iadd hx hb dLa_putPool_119 ?_
        refine va_iast hx hb hE.1 hP hD hS 2 0 rfl rfl (pq_ix hk hk1 (by decide) hi (by assumption)) dLa_putPool_120 (fun H locs hP hD hS => ?_)
        have hP : va_P D vwCl (wL ad cI cS tn to ta tp tk tw tl (upd tc (nI i).toNatClampNeg (ta + (4 * (ts (nI i).toNatClampNeg)))) ts tv sn sK sA sB sC sL gn gp gh) H := hP
        have hD : va_D _ (wL ad cI cS tn to ta tp tk tw tl (upd tc (nI i).toNatClampNeg (ta + (4 * (ts (nI i).toNatClampNeg)))) ts tv sn sK sA sB sC sL gn gp gh) := hD
        refine lv_iinc (k := 2) (v := (nI i) + 1) (lv' := [(2, .int ((nI i) + 1)), (0, .ref (ad 3)), (1, .int xn)]) hx hb dLa_putPool_121 hl rfl (by first | rfl | decide) (by decide) rfl (fun ls hl => ?_)
        refine lv_goto (tgt := 83) hx hb dLa_putPool_124 (by decide) ?_
        have e9 : LLa_putPool_83 (n + 1) xn ta ts sK i tc = LLa_putPool_83 n xn ta ts sK (i + 1) (upd tc (nI i).toNatClampNeg (ta + (4 * (ts (nI i).toNatClampNeg)))) := by simp only [LLa_putPool_83, if_neg h1, if_pos h2]
        rw [e9] at kk
        rw [nI_1] at hl
        exact ih (i + 1) tn to ta tp tk tw tl (upd tc (nI i).toNatClampNeg (ta + (4 * (ts (nI i).toNatClampNeg)))) ts tv sn sK sA sB sC sL gn gp gh ls H locs (by have := pq_lt (j := i) hk (by omega) (by omega) (by assumption); omega) (by have := pq_lt (j := i) hk (by omega) (by omega) (by assumption); omega) (lv_sub hl [1, 2, 0] rfl) hP hD hS kk
def LLa_putPool_129 : Nat → (Int32) → (Int32) → (Nat → Int32) → (Nat) → (Int32) → (Nat → Int32) → Nat × Int32 × (Nat → Int32)
  | 0, _, _, _, j, ta, gh => (j, ta, gh)
  | n + 1, tn, tw, tv, j, ta, gh => if tn ≤ (nI j) then (j, ta, gh) else LLa_putPool_129 n tn tw tv (j + 1) ((FLa_putHalf ((tv (nI j).toNatClampNeg) >>> ((16 : Int32) &&& 31)) ((FLa_putHalf (tv (nI j).toNatClampNeg) ta tw gh).1) tw ((FLa_putHalf (tv (nI j).toNatClampNeg) ta tw gh).2)).1) ((FLa_putHalf ((tv (nI j).toNatClampNeg) >>> ((16 : Int32) &&& 31)) ((FLa_putHalf (tv (nI j).toNatClampNeg) ta tw gh).1) tw ((FLa_putHalf (tv (nI j).toNatClampNeg) ta tw gh).2)).2)
set_option maxHeartbeats 4000000 in
set_option maxRecDepth 100000 in
theorem qLa_putPool_129 {p : Program} {l : Launch} {e : Env} {R : Room} {s : State} {m : MethodId} {args : Array Value} {below : List Frame} {meth : Method} {c : Code} {Q : State → Prop} {A : Nat → Prop} (D : va_G) (ad : Nat → Nat) (cI cS : ClassId) (hx : p.tables.exec = Jvm.exec) (hb : c.code = cLa_putPool) (hml : c.maxLocals = 3) (hw : ∀ w ∈ pq_ws, w.before args s = true) (hown : s.vm.findClass RLa = some m.cls) (hE : pq_E D cI cS s) (hA : ∀ q : Nat, s.heap.size ≤ q → A q) (hR : 2 ≤ R.frames ∧ 43 ≤ R.locals) (c0 : Nat) : ∀ (n : Nat) (j : Nat) (tn : Int32) (to : Int32) (ta : Int32) (tp : Int32) (tk : Int32) (tw : Int32) (tl : Nat → Int32) (tc : Nat → Int32) (ts : Nat → Int32) (tv : Nat → Int32) (sn : Int32) (sK : Nat → Int32) (sA : Nat → Int32) (sB : Nat → Int32) (sC : Nat → Int32) (sL : Nat → Int32) (gn : Int32) (gp : Int32) (gh : Nat → Int32) (ls : Array Slot) (H : Heap) (locs : List Loc), (tn = nI c0) → (c0 ≤ 160) → (j ≤ c0) → (c0 - j) < n → lv_has ls 3 [(0, .ref (ad 3)), (2, .int (nI j))] → va_P D vwCl (wL ad cI cS tn to ta tp tk tw tl tc ts tv sn sK sA sB sC sL gn gp gh) H → va_D A (wL ad cI cS tn to ta tp tk tw tl tc ts tv sn sK sA sB sC sL gn gp gh) → va_S A s.heap H locs → (∀ (ls : Array Slot) (H : Heap) (locs : List Loc), lv_has ls 3 [(0, .ref (ad 3)), (2, .int (nI ((LLa_putPool_129 n tn tw tv j ta gh).1)))] → va_P D vwCl (wL ad cI cS tn to ((LLa_putPool_129 n tn tw tv j ta gh).2.1) tp tk tw tl tc ts tv sn sK sA sB sC sL gn gp ((LLa_putPool_129 n tn tw tv j ta gh).2.2)) H → va_D A (wL ad cI cS tn to ((LLa_putPool_129 n tn tw tv j ta gh).2.1) tp tk tw tl tc ts tv sn sK sA sB sC sL gn gp ((LLa_putPool_129 n tn tw tv j ta gh).2.2)) → va_S A s.heap H locs → W p l e R s m args below meth c H locs 0 0 Q (F0 m 166 ls [])) → W p l e R s m args below meth c H locs 0 0 Q (F0 m 129 ls []) := by
  intro n
  induction n with
  | zero =>
    intro j tn to ta tp tk tw tl tc ts tv sn sK sA sB sC sL gn gp gh ls H locs hc hc1 hj hm hl hP hD hS kk
    exact absurd hm (Nat.not_lt_zero _)
  | succ n ih =>
    intro j tn to ta tp tk tw tl tc ts tv sn sK sA sB sC sL gn gp gh ls H locs hc hc1 hj hm hl hP hD hS kk
    refine lv_iload_n hx hb dLa_putPool_129 rfl (lv_at hl 1 rfl) ?_
    refine lv_aload_n hx hb dLa_putPool_130 rfl (lv_at hl 0 rfl) ?_
    refine va_get (D := D) (ci := 1) (v := .int tn) (C := RLa) (T := TLa) (N := 12) hx hb hw pinLa hown hE.1 hP 0 rfl rfl 6 (by decide) (hw _ wd_123) (fun _ h9 => h9) rfl dLa_putPool_131 ?_
    refine lv_icmp_ge (tgt := 166) hx hb dLa_putPool_134 (by decide) (fun h1 => ?_) (fun h1 => ?_)
    · have e9 : LLa_putPool_129 (n + 1) tn tw tv j ta gh = (j, ta, gh) := by simp only [LLa_putPool_129, if_pos h1]
      rw [e9] at kk
      exact kk ls H locs (lv_sub hl [0, 1] rfl) hP hD hS
    · refine lv_aload_n hx hb dLa_putPool_137 rfl (lv_at hl 0 rfl) ?_
      refine lv_aload_n hx hb dLa_putPool_138 rfl (lv_at hl 0 rfl) ?_
      refine va_get (D := D) (ci := 1) (v := .ref (ad 14)) (C := RLa) (T := TLa) (N := 12) hx hb hw pinLa hown hE.1 hP 0 rfl rfl 5 (by decide) (hw _ wd_130) (fun _ h9 => h9) rfl dLa_putPool_139 ?_
      refine lv_iload_n hx hb dLa_putPool_142 rfl (lv_at hl 1 rfl) ?_
      refine va_iald hx hb hE.1 hP 4 0 rfl rfl (pq_ix hc hc1 (by decide) (by omega) (by assumption)) dLa_putPool_143 ?_
      refine pq_callv (wc := (wL ad cI cS tn to ta tp tk tw tl tc ts tv sn sK sA sB sC sL gn gp gh)) (wr := ([] : List Nat).filterMap (fun i => (wL ad cI cS tn to ta tp tk tw tl tc ts tv sn sK sA sB sC sL gn gp gh)[i]?)) hP hD hS hA [0, 1, 2, 3, 4, 5, 6, 7, 8, 9, 10, 11, 12] [] rfl rfl (by decide) (by decide) (va_runV (own := RLa) (C := RLa) (As := [.int (tv (nI j).toNatClampNeg)]) (rest := []) ⟨hx, hb, hml, hown, hw⟩ (k_La_putHalf l D ad cI cS (tv (nI j).toNatClampNeg) tn to ta tp tk tw tl tc ts tv sn sK sA sB sC sL gn gp gh H.size) ⟨pq_cwB 1 hw wd_133 wd_108 wd_132 rfl rfl (by decide +kernel) ⟨Nat.le_trans (by decide) hR.1, Nat.le_trans (by decide) hR.2⟩, hw _ wd_134, hw _ wd_135⟩ (pq_preV (ci := 1) (C := RLa) (T := TLa) (N := 12) hE (hP.sub [0, 1, 2, 3, 4, 5, 6, 7, 8, 9, 10, 11, 12] rfl) (hD.sub [0, 1, 2, 3, 4, 5, 6, 7, 8, 9, 10, 11, 12] (by decide) rfl) rfl 0 rfl) rfl rfl hl.1 rfl (lv_room (Nat.le_of_ble_eq_true rfl)) dLa_putPool_144 ⟨Nat.zero_le _, Nat.zero_le _⟩) (fun _ H locs hP hD hS => ?_)
      have hP : va_P D vwCl (wL ad cI cS tn to ((FLa_putHalf (tv (nI j).toNatClampNeg) ta tw gh).1) tp tk tw tl tc ts tv sn sK sA sB sC sL gn gp ((FLa_putHalf (tv (nI j).toNatClampNeg) ta tw gh).2)) H := hP.sub [0, 1, 2, 3, 4, 5, 6, 7, 8, 9, 10, 11, 12] rfl
      have hD : va_D _ (wL ad cI cS tn to ((FLa_putHalf (tv (nI j).toNatClampNeg) ta tw gh).1) tp tk tw tl tc ts tv sn sK sA sB sC sL gn gp ((FLa_putHalf (tv (nI j).toNatClampNeg) ta tw gh).2)) := hD.sub [0, 1, 2, 3, 4, 5, 6, 7, 8, 9, 10, 11, 12] (by decide) rfl
      refine lv_aload_n hx hb dLa_putPool_147 rfl (lv_at hl 0 rfl) ?_
      refine lv_aload_n hx hb dLa_putPool_148 rfl (lv_at hl 0 rfl) ?_
      refine va_get (D := D) (ci := 1) (v := .ref (ad 14)) (C := RLa) (T := TLa) (N := 12) hx hb hw pinLa hown hE.1 hP 0 rfl rfl 5 (by decide) (hw _ wd_130) (fun _ h9 => h9) rfl dLa_putPool_149 ?_
      refine lv_iload_n hx hb dLa_putPool_152 rfl (lv_at hl 1 rfl) ?_
      refine va_iald hx hb hE.1 hP 4 0 rfl rfl (pq_ix hc hc1 (by decide) (by omega) (by assumption)) dLa_putPool_153 ?_
      refine lv_bipush (v := 16) hx hb dLa_putPool_154 (by first | rfl | decide) ?_
      refine lv_ishr hx hb dLa_putPool_156 ?_
      obtain ⟨g1, hg1⟩ : ∃ g9, FLa_putHalf ((tv (nI j).toNatClampNeg) >>> ((16 : Int32) &&& 31)) ((FLa_putHalf (tv (nI j).toNatClampNeg) ta tw gh).1) tw ((FLa_putHalf (tv (nI j).toNatClampNeg) ta tw gh).2) = g9 := ⟨_, rfl⟩
      have cg1 := k_La_putHalf l D ad cI cS ((tv (nI j).toNatClampNeg) >>> ((16 : Int32) &&& 31)) tn to ((FLa_putHalf (tv (nI j).toNatClampNeg) ta tw gh).1) tp tk tw tl tc ts tv sn sK sA sB sC sL gn gp ((FLa_putHalf (tv (nI j).toNatClampNeg) ta tw gh).2)
      rw [hg1] at cg1
      refine pq_callv (wc := (wL ad cI cS tn to ((FLa_putHalf (tv (nI j).toNatClampNeg) ta tw gh).1) tp tk tw tl tc ts tv sn sK sA sB sC sL gn gp ((FLa_putHalf (tv (nI j).toNatClampNeg) ta tw gh).2))) (wr := ([] : List Nat).filterMap (fun i => (wL ad cI cS tn to ((FLa_putHalf (tv (nI j).toNatClampNeg) ta tw gh).1) tp tk tw tl tc ts tv sn sK sA sB sC sL gn gp ((FLa_putHalf (tv (nI j).toNatClampNeg) ta tw gh).2))[i]?)) hP hD hS hA [0, 1, 2, 3, 4, 5, 6, 7, 8, 9, 10, 11, 12] [] rfl rfl (by decide) (by decide) (va_runV (own := RLa) (C := RLa) (As := [.int ((tv (nI j).toNatClampNeg) >>> ((16 : Int32) &&& 31))]) (rest := []) ⟨hx, hb, hml, hown, hw⟩ (cg1 H.size) ⟨pq_cwB 1 hw wd_133 wd_108 wd_132 rfl rfl (by decide +kernel) ⟨Nat.le_trans (by decide) hR.1, Nat.le_trans (by decide) hR.2⟩, hw _ wd_134, hw _ wd_135⟩ (pq_preV (ci := 1) (C := RLa) (T := TLa) (N := 12) hE (hP.sub [0, 1, 2, 3, 4, 5, 6, 7, 8, 9, 10, 11, 12] rfl) (hD.sub [0, 1, 2, 3, 4, 5, 6, 7, 8, 9, 10, 11, 12] (by decide) rfl) rfl 0 rfl) rfl rfl hl.1 rfl (lv_room (Nat.le_of_ble_eq_true rfl)) dLa_putPool_157 ⟨Nat.zero_le _, Nat.zero_le _⟩) (fun _ H locs hP hD hS => ?_)
      have hP : va_P D vwCl (wL ad cI cS tn to g1.1 tp tk tw tl tc ts tv sn sK sA sB sC sL gn gp g1.2) H := hP.sub [0, 1, 2, 3, 4, 5, 6, 7, 8, 9, 10, 11, 12] rfl
      have hD : va_D _ (wL ad cI cS tn to g1.1 tp tk tw tl tc ts tv sn sK sA sB sC sL gn gp g1.2) := hD.sub [0, 1, 2, 3, 4, 5, 6, 7, 8, 9, 10, 11, 12] (by decide) rfl
      refine lv_iinc (k := 1) (v := (nI j) + 1) (lv' := [(2, .int ((nI j) + 1)), (0, .ref (ad 3))]) hx hb dLa_putPool_160 hl rfl (by first | rfl | decide) (by decide) rfl (fun ls hl => ?_)
      refine lv_goto (tgt := 129) hx hb dLa_putPool_163 (by decide) ?_
      have e9 : LLa_putPool_129 (n + 1) tn tw tv j ta gh = LLa_putPool_129 n tn tw tv (j + 1) g1.1 g1.2 := by simp only [LLa_putPool_129, hg1, if_neg h1]
      rw [e9] at kk
      rw [nI_1] at hl
      exact ih (j + 1) tn to g1.1 tp tk tw tl tc ts tv sn sK sA sB sC sL gn gp g1.2 ls H locs hc hc1 (by have := pq_lt (j := j) hc (by omega) (by omega) (by assumption); omega) (by have := pq_lt (j := j) hc (by omega) (by omega) (by assumption); omega) (lv_sub hl [1, 0] rfl) hP hD hS kk
def FLa_putPool (xn : Int32) (tn : Int32) (to : Int32) (ta : Int32) (tp : Int32) (tk : Int32) (tw : Int32) (tc : Nat → Int32) (ts : Nat → Int32) (tv : Nat → Int32) (sK : Nat → Int32) (gh : Nat → Int32) : Int32 × (Nat → Int32) × (Nat → Int32) × Int32 × Int32 := if tn = 0 then (ta, gh, tc, tn, tp) else if tk = 11 then if (ta - ta / 4 * 4) = 0 then ((LLa_putPool_129 (tn.toInt.toNat + 1) tn tw tv 0 ta gh).2.1, (LLa_putPool_129 (tn.toInt.toNat + 1) tn tw tv 0 ta gh).2.2, (LLa_putPool_83 (xn.toInt.toNat + 1) xn ta ts sK to.toInt.toNat tc).2, 0, tp + 1) else ((LLa_putPool_129 (tn.toInt.toNat + 1) tn tw tv 0 ((FLa_putHalf 18112 ta tw gh).1) ((FLa_putHalf 18112 ta tw gh).2)).2.1, (LLa_putPool_129 (tn.toInt.toNat + 1) tn tw tv 0 ((FLa_putHalf 18112 ta tw gh).1) ((FLa_putHalf 18112 ta tw gh).2)).2.2, (LLa_putPool_83 (xn.toInt.toNat + 1) xn ((FLa_putHalf 18112 ta tw gh).1) ts sK to.toInt.toNat tc).2, 0, tp + 1) else if tk = 15 then if (ta - ta / 4 * 4) = 0 then ((LLa_putPool_129 (tn.toInt.toNat + 1) tn tw tv 0 ta gh).2.1, (LLa_putPool_129 (tn.toInt.toNat + 1) tn tw tv 0 ta gh).2.2, (LLa_putPool_83 (xn.toInt.toNat + 1) xn ta ts sK to.toInt.toNat tc).2, 0, tp + 1) else ((LLa_putPool_129 (tn.toInt.toNat + 1) tn tw tv 0 ((FLa_putHalf 18112 ta tw gh).1) ((FLa_putHalf 18112 ta tw gh).2)).2.1, (LLa_putPool_129 (tn.toInt.toNat + 1) tn tw tv 0 ((FLa_putHalf 18112 ta tw gh).1) ((FLa_putHalf 18112 ta tw gh).2)).2.2, (LLa_putPool_83 (xn.toInt.toNat + 1) xn ((FLa_putHalf 18112 ta tw gh).1) ts sK to.toInt.toNat tc).2, 0, tp + 1) else if ((FLa_putHalf (57344 + ((FLa_stepsFrom ta ((FFo_upToFour (ta + 2)) + (4 * tn))) &&& (2047 : Int32))) ta tw gh).1 - (FLa_putHalf (57344 + ((FLa_stepsFrom ta ((FFo_upToFour (ta + 2)) + (4 * tn))) &&& (2047 : Int32))) ta tw gh).1 / 4 * 4) = 0 then ((LLa_putPool_129 (tn.toInt.toNat + 1) tn tw tv 0 (FLa_putHalf (57344 + ((FLa_stepsFrom ta ((FFo_upToFour (ta + 2)) + (4 * tn))) &&& (2047 : Int32))) ta tw gh).1 (FLa_putHalf (57344 + ((FLa_stepsFrom ta ((FFo_upToFour (ta + 2)) + (4 * tn))) &&& (2047 : Int32))) ta tw gh).2).2.1, (LLa_putPool_129 (tn.toInt.toNat + 1) tn tw tv 0 (FLa_putHalf (57344 + ((FLa_stepsFrom ta ((FFo_upToFour (ta + 2)) + (4 * tn))) &&& (2047 : Int32))) ta tw gh).1 (FLa_putHalf (57344 + ((FLa_stepsFrom ta ((FFo_upToFour (ta + 2)) + (4 * tn))) &&& (2047 : Int32))) ta tw gh).2).2.2, (LLa_putPool_83 (xn.toInt.toNat + 1) xn (FLa_putHalf (57344 + ((FLa_stepsFrom ta ((FFo_upToFour (ta + 2)) + (4 * tn))) &&& (2047 : Int32))) ta tw gh).1 ts sK to.toInt.toNat tc).2, 0, tp + 1) else ((LLa_putPool_129 (tn.toInt.toNat + 1) tn tw tv 0 ((FLa_putHalf 18112 (FLa_putHalf (57344 + ((FLa_stepsFrom ta ((FFo_upToFour (ta + 2)) + (4 * tn))) &&& (2047 : Int32))) ta tw gh).1 tw (FLa_putHalf (57344 + ((FLa_stepsFrom ta ((FFo_upToFour (ta + 2)) + (4 * tn))) &&& (2047 : Int32))) ta tw gh).2).1) ((FLa_putHalf 18112 (FLa_putHalf (57344 + ((FLa_stepsFrom ta ((FFo_upToFour (ta + 2)) + (4 * tn))) &&& (2047 : Int32))) ta tw gh).1 tw (FLa_putHalf (57344 + ((FLa_stepsFrom ta ((FFo_upToFour (ta + 2)) + (4 * tn))) &&& (2047 : Int32))) ta tw gh).2).2)).2.1, (LLa_putPool_129 (tn.toInt.toNat + 1) tn tw tv 0 ((FLa_putHalf 18112 (FLa_putHalf (57344 + ((FLa_stepsFrom ta ((FFo_upToFour (ta + 2)) + (4 * tn))) &&& (2047 : Int32))) ta tw gh).1 tw (FLa_putHalf (57344 + ((FLa_stepsFrom ta ((FFo_upToFour (ta + 2)) + (4 * tn))) &&& (2047 : Int32))) ta tw gh).2).1) ((FLa_putHalf 18112 (FLa_putHalf (57344 + ((FLa_stepsFrom ta ((FFo_upToFour (ta + 2)) + (4 * tn))) &&& (2047 : Int32))) ta tw gh).1 tw (FLa_putHalf (57344 + ((FLa_stepsFrom ta ((FFo_upToFour (ta + 2)) + (4 * tn))) &&& (2047 : Int32))) ta tw gh).2).2)).2.2, (LLa_putPool_83 (xn.toInt.toNat + 1) xn ((FLa_putHalf 18112 (FLa_putHalf (57344 + ((FLa_stepsFrom ta ((FFo_upToFour (ta + 2)) + (4 * tn))) &&& (2047 : Int32))) ta tw gh).1 tw (FLa_putHalf (57344 + ((FLa_stepsFrom ta ((FFo_upToFour (ta + 2)) + (4 * tn))) &&& (2047 : Int32))) ta tw gh).2).1) ts sK to.toInt.toNat tc).2, 0, tp + 1)
set_option maxHeartbeats 4000000 in
set_option maxRecDepth 100000 in
theorem k_La_putPool (l : Launch) (D : va_G) (ad : Nat → Nat) (cI cS : ClassId) (xn : Int32) (tn : Int32) (to : Int32) (ta : Int32) (tp : Int32) (tk : Int32) (tw : Int32) (tl : Nat → Int32) (tc : Nat → Int32) (ts : Nat → Int32) (tv : Nat → Int32) (sn : Int32) (sK : Nat → Int32) (sA : Nat → Int32) (sB : Nat → Int32) (sC : Nat → Int32) (sL : Nat → Int32) (gn : Int32) (gp : Int32) (gh : Nat → Int32) (htn0 : ¬ tn < 0) (htn1 : tn.toInt ≤ 160) (hto : vp_in to 160) (hxn0 : ¬ xn < 0) (hxn1 : xn.toInt ≤ 160) : pq_VP l yLa_putPool (.code yLa_putPool cLa_putPool 3 none :: pq_ws) { frames := 2, cells := 0, slots := 0, locals := 43 } D cI cS [.ref (ad 3), .int xn] (wL ad cI cS tn to ta tp tk tw tl tc ts tv sn sK sA sB sC sL gn gp gh) ((¬ ((FLa_putPool xn tn to ta tp tk tw tc ts tv sK gh).2.2.2.1) < 0) ∧ (((FLa_putPool xn tn to ta tp tk tw tc ts tv sK gh).2.2.2.1).toInt ≤ 160)) (wL ad cI cS ((FLa_putPool xn tn to ta tp tk tw tc ts tv sK gh).2.2.2.1) to ((FLa_putPool xn tn to ta tp tk tw tc ts tv sK gh).1) ((FLa_putPool xn tn to ta tp tk tw tc ts tv sK gh).2.2.2.2) tk tw tl ((FLa_putPool xn tn to ta tp tk tw tc ts tv sK gh).2.2.1) ts tv sn sK sA sB sC sL gn gp ((FLa_putPool xn tn to ta tp tk tw tc ts tv sK gh).2.1)) := by
  intro sz
  refine Met.ofW (cc := cLa_putPool) (maxL := 3) (ret := none) (by decide) rfl ?_
  intro p e s m args below meth c s₁ B hml hv
  obtain ⟨rfl, hsz, hP, hD0, hE⟩ := hv
  have hx := B.exec
  have hb := B.bytes
  have hr := B.returns
  have hts := atoms_spec (ws := (.code yLa_putPool cLa_putPool 3 none :: pq_ws : List Cond)) B.pre
  have hw : ∀ w ∈ pq_ws, w.before _ s = true := fun w h => hts w (List.mem_cons_of_mem _ h)
  have hown : s.vm.findClass RLa = some m.cls := findClass_of_methodNamed B.named
  have hlocks := B.notSynchronized
  subst hsz
  have hD := hD0.self (sz := s.heap.size)
  have hA : ∀ q : Nat, s.heap.size ≤ q → va_A (wL ad cI cS tn to ta tp tk tw tl tc ts tv sn sK sA sB sC sL gn gp gh) s.heap.size q := fun q h => Or.inr h
  have hS : va_S (va_A (wL ad cI cS tn to ta tp tk tw tl tc ts tv sn sK sA sB sC sL gn gp gh) s.heap.size) s.heap s.heap [] := va_S.rf
  have hl := lv_entry ([.ref (ad 3), .int xn] : List Value) (n := 3) (Nat.le_of_ble_eq_true rfl)
  rw [lg_entry_eq]
  generalize (lg_sl ([.ref (ad 3), .int xn] : List Value) ++ List.replicate (3 - (lg_sl ([.ref (ad 3), .int xn] : List Value)).length) Slot.unset).toArray = ls at hl ⊢
  have hl : lv_has ls 3 [(0, .ref (ad 3)), (1, .int xn)] := hl
  refine lv_aload_n hx hb dLa_putPool_0 rfl (lv_at hl 0 rfl) ?_
  refine va_get (D := D) (ci := 1) (v := .int tn) (C := RLa) (T := TLa) (N := 12) hx hb hw pinLa hown hE.1 hP 0 rfl rfl 6 (by decide) (hw _ wd_123) (fun _ h9 => h9) rfl dLa_putPool_1 ?_
  refine lv_if_ne (tgt := 8) hx hb dLa_putPool_4 (by decide) (fun h1 => ?_) (fun h1 => ?_)
  · refine lv_aload_n hx hb dLa_putPool_8 rfl (lv_at hl 0 rfl) ?_
    refine va_get (D := D) (ci := 1) (v := .int tk) (C := RLa) (T := TLa) (N := 12) hx hb hw pinLa hown hE.1 hP 0 rfl rfl 10 (by decide) (hw _ wd_136) (fun _ h9 => h9) rfl dLa_putPool_9 ?_
    refine lv_bipush (v := 11) hx hb dLa_putPool_12 (by first | rfl | decide) ?_
    refine lv_icmp_eq (tgt := 62) hx hb dLa_putPool_14 (by decide) (fun h2 => ?_) (fun h2 => ?_)
    · refine lv_aload_n hx hb dLa_putPool_62 rfl (lv_at hl 0 rfl) ?_
      refine va_get (D := D) (ci := 1) (v := .int ta) (C := RLa) (T := TLa) (N := 12) hx hb hw pinLa hown hE.1 hP 0 rfl rfl 8 (by decide) (hw _ wd_95) (fun _ h9 => h9) rfl dLa_putPool_63 ?_
      refine lv_iconst (v := 4) hx hb dLa_putPool_66 (by first | rfl | decide) ?_
      refine lv_irem hx hb dLa_putPool_67 (by decide) ?_
      refine lv_if_eq (tgt := 78) hx hb dLa_putPool_68 (by decide) (fun h3 => ?_) (fun h3 => ?_)
      · refine lv_aload_n hx hb dLa_putPool_78 rfl (lv_at hl 0 rfl) ?_
        refine va_get (D := D) (ci := 1) (v := .int to) (C := RLa) (T := TLa) (N := 12) hx hb hw pinLa hown hE.1 hP 0 rfl rfl 7 (by decide) (hw _ wd_126) (fun _ h9 => h9) rfl dLa_putPool_79 ?_
        refine lv_istore_n (lv' := [(2, .int to), (0, .ref (ad 3)), (1, .int xn)]) hx hb dLa_putPool_82 rfl hl (by decide) rfl (fun ls hl => ?_)
        refine qLa_putPool_83 D ad cI cS hx hb hml hw hown hE hA xn xn.toInt.toNat (pq_nat hxn0) (pq_nat_le hxn1) (xn.toInt.toNat + 1) to.toInt.toNat tn to ta tp tk tw tl tc ts tv sn sK sA sB sC sL gn gp gh ls s.heap [] (pq_nat_lt _) (by omega) (by rw [← pq_nat (pq_in0 hto)]; exact lv_sub hl [1, 2, 0] rfl) hP hD hS (fun ls H locs hl hP hD hS => ?_)
        have hP : va_P D vwCl (wL ad cI cS tn to ta tp tk tw tl ((LLa_putPool_83 (xn.toInt.toNat + 1) xn ta ts sK to.toInt.toNat tc).2) ts tv sn sK sA sB sC sL gn gp gh) H := hP
        have hD : va_D _ (wL ad cI cS tn to ta tp tk tw tl ((LLa_putPool_83 (xn.toInt.toNat + 1) xn ta ts sK to.toInt.toNat tc).2) ts tv sn sK sA sB sC sL gn gp gh) := hD
        refine lv_iconst (v := 0) hx hb dLa_putPool_127 (by first | rfl | decide) ?_
        refine lv_istore_n (lv' := [(2, .int 0), (0, .ref (ad 3)), (1, .int xn)]) hx hb dLa_putPool_128 rfl hl (by decide) rfl (fun ls hl => ?_)
        obtain ⟨g2, hg2⟩ : ∃ g9, LLa_putPool_129 (tn.toInt.toNat + 1) tn tw tv 0 ta gh = g9 := ⟨_, rfl⟩
        refine qLa_putPool_129 D ad cI cS hx hb hml hw hown hE hA ⟨Nat.le_of_ble_eq_true rfl, Nat.le_of_ble_eq_true rfl⟩ tn.toInt.toNat (tn.toInt.toNat + 1) 0 tn to ta tp tk tw tl ((LLa_putPool_83 (xn.toInt.toNat + 1) xn ta ts sK to.toInt.toNat tc).2) ts tv sn sK sA sB sC sL gn gp gh ls H locs (pq_nat htn0) (pq_nat_le htn1) (Nat.zero_le _) (by omega) (lv_sub hl [1, 0] rfl) hP hD hS (fun ls H locs hl hP hD hS => ?_)
        try rw [hg2] at hl
        try rw [hg2] at hP
        try rw [hg2] at hD
        have hP : va_P D vwCl (wL ad cI cS tn to g2.2.1 tp tk tw tl ((LLa_putPool_83 (xn.toInt.toNat + 1) xn ta ts sK to.toInt.toNat tc).2) ts tv sn sK sA sB sC sL gn gp g2.2.2) H := hP
        have hD : va_D _ (wL ad cI cS tn to g2.2.1 tp tk tw tl ((LLa_putPool_83 (xn.toInt.toNat + 1) xn ta ts sK to.toInt.toNat tc).2) ts tv sn sK sA sB sC sL gn gp g2.2.2) := hD
        refine lv_aload_n hx hb dLa_putPool_166 rfl (lv_at hl 0 rfl) ?_
        refine lv_iconst (v := 0) hx hb dLa_putPool_167 (by first | rfl | decide) ?_
        refine va_put (D := D) (ci := 1) (v := .int 0) (ty := .int) (C := RLa) (T := TLa) (N := 12) hx hb hw pinLa tyLa tyLa_ok nmLa hown hE.1 hP hD hS 0 rfl rfl 6 (by decide) (hw _ wd_123) (fun _ h9 => h9) rfl (by decide +kernel) rfl rfl (Nat.le_of_ble_eq_true rfl) dLa_putPool_168 (fun H locs hP hD hS => ?_)
        have hP : va_P D vwCl (wL ad cI cS 0 to g2.2.1 tp tk tw tl ((LLa_putPool_83 (xn.toInt.toNat + 1) xn ta ts sK to.toInt.toNat tc).2) ts tv sn sK sA sB sC sL gn gp g2.2.2) H := hP
        have hD : va_D _ (wL ad cI cS 0 to g2.2.1 tp tk tw tl ((LLa_putPool_83 (xn.toInt.toNat + 1) xn ta ts sK to.toInt.toNat tc).2) ts tv sn sK sA sB sC sL gn gp g2.2.2) := hD
        refine lv_aload_n hx hb dLa_putPool_171 rfl (lv_at hl 0 rfl) ?_
        refine lv_dup hx hb dLa_putPool_172 rfl ?_
        refine va_get (D := D) (ci := 1) (v := .int tp) (C := RLa) (T := TLa) (N := 12) hx hb hw pinLa hown hE.1 hP 0 rfl rfl 9 (by decide) (hw _ wd_137) (fun _ h9 => h9) rfl dLa_putPool_173 ?_
        refine lv_iconst (v := 1) hx hb dLa_putPool_176 (by first | rfl | decide) ?_
        refine lv_iadd hx hb dLa_putPool_177 ?_
        refine va_put (D := D) (ci := 1) (v := .int (tp + 1)) (ty := .int) (C := RLa) (T := TLa) (N := 12) hx hb hw pinLa tyLa tyLa_ok nmLa hown hE.1 hP hD hS 0 rfl rfl 9 (by decide) (hw _ wd_137) (fun _ h9 => h9) rfl (by decide +kernel) rfl rfl (Nat.le_of_ble_eq_true rfl) dLa_putPool_178 (fun H locs hP hD hS => ?_)
        have hP : va_P D vwCl (wL ad cI cS 0 to g2.2.1 (tp + 1) tk tw tl ((LLa_putPool_83 (xn.toInt.toNat + 1) xn ta ts sK to.toInt.toNat tc).2) ts tv sn sK sA sB sC sL gn gp g2.2.2) H := hP
        have hD : va_D _ (wL ad cI cS 0 to g2.2.1 (tp + 1) tk tw tl ((LLa_putPool_83 (xn.toInt.toNat + 1) xn ta ts sK to.toInt.toNat tc).2) ts tv sn sK sA sB sC sL gn gp g2.2.2) := hD
        have e9 : FLa_putPool xn tn to ta tp tk tw tc ts tv sK gh = (g2.2.1, g2.2.2, (LLa_putPool_83 (xn.toInt.toNat + 1) xn ta ts sK to.toInt.toNat tc).2, 0, tp + 1) := by simp only [FLa_putPool, hg2, if_neg h1, if_pos h2, if_pos h3]
        have p9 : (¬ (0 : Int32) < 0) ∧ ((0 : Int32).toInt ≤ 160) := ⟨by first | assumption | decide, by first | assumption | decide⟩
        exact W.vret hx hb hr (fun t ht hW => ⟨⟨(), rfl, by rw [e9]; exact p9, by rw [e9, ht]; exact hP, by rw [e9]; exact hD⟩, hS.F ht⟩) hS.2.2 dLa_putPool_181
      · refine lv_aload_n hx hb dLa_putPool_71 rfl (lv_at hl 0 rfl) ?_
        refine lv_sipush (v := 18112) hx hb dLa_putPool_72 (by first | rfl | decide) ?_
        refine pq_callv (wc := (wL ad cI cS tn to ta tp tk tw tl tc ts tv sn sK sA sB sC sL gn gp gh)) (wr := ([] : List Nat).filterMap (fun i => (wL ad cI cS tn to ta tp tk tw tl tc ts tv sn sK sA sB sC sL gn gp gh)[i]?)) hP hD hS hA [0, 1, 2, 3, 4, 5, 6, 7, 8, 9, 10, 11, 12] [] rfl rfl (by decide) (by decide) (va_runV (own := RLa) (C := RLa) (As := [.int 18112]) (rest := []) ⟨hx, hb, hml, hown, hw⟩ (k_La_putHalf l D ad cI cS 18112 tn to ta tp tk tw tl tc ts tv sn sK sA sB sC sL gn gp gh s.heap.size) ⟨pq_cwB 1 hw wd_133 wd_108 wd_132 rfl rfl (by decide +kernel) ⟨Nat.le_of_ble_eq_true rfl, Nat.le_of_ble_eq_true rfl⟩, hw _ wd_134, hw _ wd_135⟩ (pq_preV (ci := 1) (C := RLa) (T := TLa) (N := 12) hE (hP.sub [0, 1, 2, 3, 4, 5, 6, 7, 8, 9, 10, 11, 12] rfl) (hD.sub [0, 1, 2, 3, 4, 5, 6, 7, 8, 9, 10, 11, 12] (by decide) rfl) rfl 0 rfl) rfl rfl hl.1 rfl (lv_room (Nat.le_of_ble_eq_true rfl)) dLa_putPool_75 ⟨Nat.zero_le _, Nat.zero_le _⟩) (fun _ H locs hP hD hS => ?_)
        have hP : va_P D vwCl (wL ad cI cS tn to ((FLa_putHalf 18112 ta tw gh).1) tp tk tw tl tc ts tv sn sK sA sB sC sL gn gp ((FLa_putHalf 18112 ta tw gh).2)) H := hP.sub [0, 1, 2, 3, 4, 5, 6, 7, 8, 9, 10, 11, 12] rfl
        have hD : va_D _ (wL ad cI cS tn to ((FLa_putHalf 18112 ta tw gh).1) tp tk tw tl tc ts tv sn sK sA sB sC sL gn gp ((FLa_putHalf 18112 ta tw gh).2)) := hD.sub [0, 1, 2, 3, 4, 5, 6, 7, 8, 9, 10, 11, 12] (by decide) rfl
        refine lv_aload_n hx hb dLa_putPool_78 rfl (lv_at hl 0 rfl) ?_
        refine va_get (D := D) (ci := 1) (v := .int to) (C := RLa) (T := TLa) (N := 12) hx hb hw pinLa hown hE.1 hP 0 rfl rfl 7 (by decide) (hw _ wd_126) (fun _ h9 => h9) rfl dLa_putPool_79 ?_
        refine lv_istore_n (lv' := [(2, .int to), (0, .ref (ad 3)), (1, .int xn)]) hx hb dLa_putPool_82 rfl hl (by decide) rfl (fun ls hl => ?_)
        refine qLa_putPool_83 D ad cI cS hx hb hml hw hown hE hA xn xn.toInt.toNat (pq_nat hxn0) (pq_nat_le hxn1) (xn.toInt.toNat + 1) to.toInt.toNat tn to ((FLa_putHalf 18112 ta tw gh).1) tp tk tw tl tc ts tv sn sK sA sB sC sL gn gp ((FLa_putHalf 18112 ta tw gh).2) ls H locs (pq_nat_lt _) (by omega) (by rw [← pq_nat (pq_in0 hto)]; exact lv_sub hl [1, 2, 0] rfl) hP hD hS (fun ls H locs hl hP hD hS => ?_)
        have hP : va_P D vwCl (wL ad cI cS tn to ((FLa_putHalf 18112 ta tw gh).1) tp tk tw tl ((LLa_putPool_83 (xn.toInt.toNat + 1) xn ((FLa_putHalf 18112 ta tw gh).1) ts sK to.toInt.toNat tc).2) ts tv sn sK sA sB sC sL gn gp ((FLa_putHalf 18112 ta tw gh).2)) H := hP
        have hD : va_D _ (wL ad cI cS tn to ((FLa_putHalf 18112 ta tw gh).1) tp tk tw tl ((LLa_putPool_83 (xn.toInt.toNat + 1) xn ((FLa_putHalf 18112 ta tw gh).1) ts sK to.toInt.toNat tc).2) ts tv sn sK sA sB sC sL gn gp ((FLa_putHalf 18112 ta tw gh).2)) := hD
        refine lv_iconst (v := 0) hx hb dLa_putPool_127 (by first | rfl | decide) ?_
        refine lv_istore_n (lv' := [(2, .int 0), (0, .ref (ad 3)), (1, .int xn)]) hx hb dLa_putPool_128 rfl hl (by decide) rfl (fun ls hl => ?_)
        obtain ⟨g3, hg3⟩ : ∃ g9, LLa_putPool_129 (tn.toInt.toNat + 1) tn tw tv 0 ((FLa_putHalf 18112 ta tw gh).1) ((FLa_putHalf 18112 ta tw gh).2) = g9 := ⟨_, rfl⟩
        refine qLa_putPool_129 D ad cI cS hx hb hml hw hown hE hA ⟨Nat.le_of_ble_eq_true rfl, Nat.le_of_ble_eq_true rfl⟩ tn.toInt.toNat (tn.toInt.toNat + 1) 0 tn to ((FLa_putHalf 18112 ta tw gh).1) tp tk tw tl ((LLa_putPool_83 (xn.toInt.toNat + 1) xn ((FLa_putHalf 18112 ta tw gh).1) ts sK to.toInt.toNat tc).2) ts tv sn sK sA sB sC sL gn gp ((FLa_putHalf 18112 ta tw gh).2) ls H locs (pq_nat htn0) (pq_nat_le htn1) (Nat.zero_le _) (by omega) (lv_sub hl [1, 0] rfl) hP hD hS (fun ls H locs hl hP hD hS => ?_)
        try rw [hg3] at hl
        try rw [hg3] at hP
        try rw [hg3] at hD
        have hP : va_P D vwCl (wL ad cI cS tn to g3.2.1 tp tk tw tl ((LLa_putPool_83 (xn.toInt.toNat + 1) xn ((FLa_putHalf 18112 ta tw gh).1) ts sK to.toInt.toNat tc).2) ts tv sn sK sA sB sC sL gn gp g3.2.2) H := hP
        have hD : va_D _ (wL ad cI cS tn to g3.2.1 tp tk tw tl ((LLa_putPool_83 (xn.toInt.toNat + 1) xn ((FLa_putHalf 18112 ta tw gh).1) ts sK to.toInt.toNat tc).2) ts tv sn sK sA sB sC sL gn gp g3.2.2) := hD
        refine lv_aload_n hx hb dLa_putPool_166 rfl (lv_at hl 0 rfl) ?_
        refine lv_iconst (v := 0) hx hb dLa_putPool_167 (by first | rfl | decide) ?_
        refine va_put (D := D) (ci := 1) (v := .int 0) (ty := .int) (C := RLa) (T := TLa) (N := 12) hx hb hw pinLa tyLa tyLa_ok nmLa hown hE.1 hP hD hS 0 rfl rfl 6 (by decide) (hw _ wd_123) (fun _ h9 => h9) rfl (by decide +kernel) rfl rfl (Nat.le_of_ble_eq_true rfl) dLa_putPool_168 (fun H locs hP hD hS => ?_)
        have hP : va_P D vwCl (wL ad cI cS 0 to g3.2.1 tp tk tw tl ((LLa_putPool_83 (xn.toInt.toNat + 1) xn ((FLa_putHalf 18112 ta tw gh).1) ts sK to.toInt.toNat tc).2) ts tv sn sK sA sB sC sL gn gp g3.2.2) H := hP
        have hD : va_D _ (wL ad cI cS 0 to g3.2.1 tp tk tw tl ((LLa_putPool_83 (xn.toInt.toNat + 1) xn ((FLa_putHalf 18112 ta tw gh).1) ts sK to.toInt.toNat tc).2) ts tv sn sK sA sB sC sL gn gp g3.2.2) := hD
        refine lv_aload_n hx hb dLa_putPool_171 rfl (lv_at hl 0 rfl) ?_
        refine lv_dup hx hb dLa_putPool_172 rfl ?_
        refine va_get (D := D) (ci := 1) (v := .int tp) (C := RLa) (T := TLa) (N := 12) hx hb hw pinLa hown hE.1 hP 0 rfl rfl 9 (by decide) (hw _ wd_137) (fun _ h9 => h9) rfl dLa_putPool_173 ?_
        refine lv_iconst (v := 1) hx hb dLa_putPool_176 (by first | rfl | decide) ?_
        refine lv_iadd hx hb dLa_putPool_177 ?_
        refine va_put (D := D) (ci := 1) (v := .int (tp + 1)) (ty := .int) (C := RLa) (T := TLa) (N := 12) hx hb hw pinLa tyLa tyLa_ok nmLa hown hE.1 hP hD hS 0 rfl rfl 9 (by decide) (hw _ wd_137) (fun _ h9 => h9) rfl (by decide +kernel) rfl rfl (Nat.le_of_ble_eq_true rfl) dLa_putPool_178 (fun H locs hP hD hS => ?_)
        have hP : va_P D vwCl (wL ad cI cS 0 to g3.2.1 (tp + 1) tk tw tl ((LLa_putPool_83 (xn.toInt.toNat + 1) xn ((FLa_putHalf 18112 ta tw gh).1) ts sK to.toInt.toNat tc).2) ts tv sn sK sA sB sC sL gn gp g3.2.2) H := hP
        have hD : va_D _ (wL ad cI cS 0 to g3.2.1 (tp + 1) tk tw tl ((LLa_putPool_83 (xn.toInt.toNat + 1) xn ((FLa_putHalf 18112 ta tw gh).1) ts sK to.toInt.toNat tc).2) ts tv sn sK sA sB sC sL gn gp g3.2.2) := hD
        have e9 : FLa_putPool xn tn to ta tp tk tw tc ts tv sK gh = (g3.2.1, g3.2.2, (LLa_putPool_83 (xn.toInt.toNat + 1) xn ((FLa_putHalf 18112 ta tw gh).1) ts sK to.toInt.toNat tc).2, 0, tp + 1) := by simp only [FLa_putPool, hg3, if_neg h1, if_pos h2, if_neg h3]
        have p9 : (¬ (0 : Int32) < 0) ∧ ((0 : Int32).toInt ≤ 160) := ⟨by first | assumption | decide, by first | assumption | decide⟩
        exact W.vret hx hb hr (fun t ht hW => ⟨⟨(), rfl, by rw [e9]; exact p9, by rw [e9, ht]; exact hP, by rw [e9]; exact hD⟩, hS.F ht⟩) hS.2.2 dLa_putPool_181
    · refine lv_aload_n hx hb dLa_putPool_17 rfl (lv_at hl 0 rfl) ?_
      refine va_get (D := D) (ci := 1) (v := .int tk) (C := RLa) (T := TLa) (N := 12) hx hb hw pinLa hown hE.1 hP 0 rfl rfl 10 (by decide) (hw _ wd_136) (fun _ h9 => h9) rfl dLa_putPool_18 ?_
      refine lv_bipush (v := 15) hx hb dLa_putPool_21 (by first | rfl | decide) ?_
      refine lv_icmp_eq (tgt := 62) hx hb dLa_putPool_23 (by decide) (fun h4 => ?_) (fun h4 => ?_)
      · refine lv_aload_n hx hb dLa_putPool_62 rfl (lv_at hl 0 rfl) ?_
        refine va_get (D := D) (ci := 1) (v := .int ta) (C := RLa) (T := TLa) (N := 12) hx hb hw pinLa hown hE.1 hP 0 rfl rfl 8 (by decide) (hw _ wd_95) (fun _ h9 => h9) rfl dLa_putPool_63 ?_
        refine lv_iconst (v := 4) hx hb dLa_putPool_66 (by first | rfl | decide) ?_
        refine lv_irem hx hb dLa_putPool_67 (by decide) ?_
        refine lv_if_eq (tgt := 78) hx hb dLa_putPool_68 (by decide) (fun h5 => ?_) (fun h5 => ?_)
        · refine lv_aload_n hx hb dLa_putPool_78 rfl (lv_at hl 0 rfl) ?_
          refine va_get (D := D) (ci := 1) (v := .int to) (C := RLa) (T := TLa) (N := 12) hx hb hw pinLa hown hE.1 hP 0 rfl rfl 7 (by decide) (hw _ wd_126) (fun _ h9 => h9) rfl dLa_putPool_79 ?_
          refine lv_istore_n (lv' := [(2, .int to), (0, .ref (ad 3)), (1, .int xn)]) hx hb dLa_putPool_82 rfl hl (by decide) rfl (fun ls hl => ?_)
          refine qLa_putPool_83 D ad cI cS hx hb hml hw hown hE hA xn xn.toInt.toNat (pq_nat hxn0) (pq_nat_le hxn1) (xn.toInt.toNat + 1) to.toInt.toNat tn to ta tp tk tw tl tc ts tv sn sK sA sB sC sL gn gp gh ls s.heap [] (pq_nat_lt _) (by omega) (by rw [← pq_nat (pq_in0 hto)]; exact lv_sub hl [1, 2, 0] rfl) hP hD hS (fun ls H locs hl hP hD hS => ?_)
          have hP : va_P D vwCl (wL ad cI cS tn to ta tp tk tw tl ((LLa_putPool_83 (xn.toInt.toNat + 1) xn ta ts sK to.toInt.toNat tc).2) ts tv sn sK sA sB sC sL gn gp gh) H := hP
          have hD : va_D _ (wL ad cI cS tn to ta tp tk tw tl ((LLa_putPool_83 (xn.toInt.toNat + 1) xn ta ts sK to.toInt.toNat tc).2) ts tv sn sK sA sB sC sL gn gp gh) := hD
          refine lv_iconst (v := 0) hx hb dLa_putPool_127 (by first | rfl | decide) ?_
          refine lv_istore_n (lv' := [(2, .int 0), (0, .ref (ad 3)), (1, .int xn)]) hx hb dLa_putPool_128 rfl hl (by decide) rfl (fun ls hl => ?_)
          obtain ⟨g4, hg4⟩ : ∃ g9, LLa_putPool_129 (tn.toInt.toNat + 1) tn tw tv 0 ta gh = g9 := ⟨_, rfl⟩
          refine qLa_putPool_129 D ad cI cS hx hb hml hw hown hE hA ⟨Nat.le_of_ble_eq_true rfl, Nat.le_of_ble_eq_true rfl⟩ tn.toInt.toNat (tn.toInt.toNat + 1) 0 tn to ta tp tk tw tl ((LLa_putPool_83 (xn.toInt.toNat + 1) xn ta ts sK to.toInt.toNat tc).2) ts tv sn sK sA sB sC sL gn gp gh ls H locs (pq_nat htn0) (pq_nat_le htn1) (Nat.zero_le _) (by omega) (lv_sub hl [1, 0] rfl) hP hD hS (fun ls H locs hl hP hD hS => ?_)
          try rw [hg4] at hl
          try rw [hg4] at hP
          try rw [hg4] at hD
          have hP : va_P D vwCl (wL ad cI cS tn to g4.2.1 tp tk tw tl ((LLa_putPool_83 (xn.toInt.toNat + 1) xn ta ts sK to.toInt.toNat tc).2) ts tv sn sK sA sB sC sL gn gp g4.2.2) H := hP
          have hD : va_D _ (wL ad cI cS tn to g4.2.1 tp tk tw tl ((LLa_putPool_83 (xn.toInt.toNat + 1) xn ta ts sK to.toInt.toNat tc).2) ts tv sn sK sA sB sC sL gn gp g4.2.2) := hD
          refine lv_aload_n hx hb dLa_putPool_166 rfl (lv_at hl 0 rfl) ?_
          refine lv_iconst (v := 0) hx hb dLa_putPool_167 (by first | rfl | decide) ?_
          refine va_put (D := D) (ci := 1) (v := .int 0) (ty := .int) (C := RLa) (T := TLa) (N := 12) hx hb hw pinLa tyLa tyLa_ok nmLa hown hE.1 hP hD hS 0 rfl rfl 6 (by decide) (hw _ wd_123) (fun _ h9 => h9) rfl (by decide +kernel) rfl rfl (Nat.le_of_ble_eq_true rfl) dLa_putPool_168 (fun H locs hP hD hS => ?_)
          have hP : va_P D vwCl (wL ad cI cS 0 to g4.2.1 tp tk tw tl ((LLa_putPool_83 (xn.toInt.toNat + 1) xn ta ts sK to.toInt.toNat tc).2) ts tv sn sK sA sB sC sL gn gp g4.2.2) H := hP
          have hD : va_D _ (wL ad cI cS 0 to g4.2.1 tp tk tw tl ((LLa_putPool_83 (xn.toInt.toNat + 1) xn ta ts sK to.toInt.toNat tc).2) ts tv sn sK sA sB sC sL gn gp g4.2.2) := hD
          refine lv_aload_n hx hb dLa_putPool_171 rfl (lv_at hl 0 rfl) ?_
          refine lv_dup hx hb dLa_putPool_172 rfl ?_
          refine va_get (D := D) (ci := 1) (v := .int tp) (C := RLa) (T := TLa) (N := 12) hx hb hw pinLa hown hE.1 hP 0 rfl rfl 9 (by decide) (hw _ wd_137) (fun _ h9 => h9) rfl dLa_putPool_173 ?_
          refine lv_iconst (v := 1) hx hb dLa_putPool_176 (by first | rfl | decide) ?_
          refine lv_iadd hx hb dLa_putPool_177 ?_
          refine va_put (D := D) (ci := 1) (v := .int (tp + 1)) (ty := .int) (C := RLa) (T := TLa) (N := 12) hx hb hw pinLa tyLa tyLa_ok nmLa hown hE.1 hP hD hS 0 rfl rfl 9 (by decide) (hw _ wd_137) (fun _ h9 => h9) rfl (by decide +kernel) rfl rfl (Nat.le_of_ble_eq_true rfl) dLa_putPool_178 (fun H locs hP hD hS => ?_)
          have hP : va_P D vwCl (wL ad cI cS 0 to g4.2.1 (tp + 1) tk tw tl ((LLa_putPool_83 (xn.toInt.toNat + 1) xn ta ts sK to.toInt.toNat tc).2) ts tv sn sK sA sB sC sL gn gp g4.2.2) H := hP
          have hD : va_D _ (wL ad cI cS 0 to g4.2.1 (tp + 1) tk tw tl ((LLa_putPool_83 (xn.toInt.toNat + 1) xn ta ts sK to.toInt.toNat tc).2) ts tv sn sK sA sB sC sL gn gp g4.2.2) := hD
          have e9 : FLa_putPool xn tn to ta tp tk tw tc ts tv sK gh = (g4.2.1, g4.2.2, (LLa_putPool_83 (xn.toInt.toNat + 1) xn ta ts sK to.toInt.toNat tc).2, 0, tp + 1) := by simp only [FLa_putPool, hg4, if_neg h1, if_neg h2, if_pos h4, if_pos h5]
          have p9 : (¬ (0 : Int32) < 0) ∧ ((0 : Int32).toInt ≤ 160) := ⟨by first | assumption | decide, by first | assumption | decide⟩
          exact W.vret hx hb hr (fun t ht hW => ⟨⟨(), rfl, by rw [e9]; exact p9, by rw [e9, ht]; exact hP, by rw [e9]; exact hD⟩, hS.F ht⟩) hS.2.2 dLa_putPool_181
        · refine lv_aload_n hx hb dLa_putPool_71 rfl (lv_at hl 0 rfl) ?_
          refine lv_sipush (v := 18112) hx hb dLa_putPool_72 (by first | rfl | decide) ?_
          refine pq_callv (wc := (wL ad cI cS tn to ta tp tk tw tl tc ts tv sn sK sA sB sC sL gn gp gh)) (wr := ([] : List Nat).filterMap (fun i => (wL ad cI cS tn to ta tp tk tw tl tc ts tv sn sK sA sB sC sL gn gp gh)[i]?)) hP hD hS hA [0, 1, 2, 3, 4, 5, 6, 7, 8, 9, 10, 11, 12] [] rfl rfl (by decide) (by decide) (va_runV (own := RLa) (C := RLa) (As := [.int 18112]) (rest := []) ⟨hx, hb, hml, hown, hw⟩ (k_La_putHalf l D ad cI cS 18112 tn to ta tp tk tw tl tc ts tv sn sK sA sB sC sL gn gp gh s.heap.size) ⟨pq_cwB 1 hw wd_133 wd_108 wd_132 rfl rfl (by decide +kernel) ⟨Nat.le_of_ble_eq_true rfl, Nat.le_of_ble_eq_true rfl⟩, hw _ wd_134, hw _ wd_135⟩ (pq_preV (ci := 1) (C := RLa) (T := TLa) (N := 12) hE (hP.sub [0, 1, 2, 3, 4, 5, 6, 7, 8, 9, 10, 11, 12] rfl) (hD.sub [0, 1, 2, 3, 4, 5, 6, 7, 8, 9, 10, 11, 12] (by decide) rfl) rfl 0 rfl) rfl rfl hl.1 rfl (lv_room (Nat.le_of_ble_eq_true rfl)) dLa_putPool_75 ⟨Nat.zero_le _, Nat.zero_le _⟩) (fun _ H locs hP hD hS => ?_)
          have hP : va_P D vwCl (wL ad cI cS tn to ((FLa_putHalf 18112 ta tw gh).1) tp tk tw tl tc ts tv sn sK sA sB sC sL gn gp ((FLa_putHalf 18112 ta tw gh).2)) H := hP.sub [0, 1, 2, 3, 4, 5, 6, 7, 8, 9, 10, 11, 12] rfl
          have hD : va_D _ (wL ad cI cS tn to ((FLa_putHalf 18112 ta tw gh).1) tp tk tw tl tc ts tv sn sK sA sB sC sL gn gp ((FLa_putHalf 18112 ta tw gh).2)) := hD.sub [0, 1, 2, 3, 4, 5, 6, 7, 8, 9, 10, 11, 12] (by decide) rfl
          refine lv_aload_n hx hb dLa_putPool_78 rfl (lv_at hl 0 rfl) ?_
          refine va_get (D := D) (ci := 1) (v := .int to) (C := RLa) (T := TLa) (N := 12) hx hb hw pinLa hown hE.1 hP 0 rfl rfl 7 (by decide) (hw _ wd_126) (fun _ h9 => h9) rfl dLa_putPool_79 ?_
          refine lv_istore_n (lv' := [(2, .int to), (0, .ref (ad 3)), (1, .int xn)]) hx hb dLa_putPool_82 rfl hl (by decide) rfl (fun ls hl => ?_)
          refine qLa_putPool_83 D ad cI cS hx hb hml hw hown hE hA xn xn.toInt.toNat (pq_nat hxn0) (pq_nat_le hxn1) (xn.toInt.toNat + 1) to.toInt.toNat tn to ((FLa_putHalf 18112 ta tw gh).1) tp tk tw tl tc ts tv sn sK sA sB sC sL gn gp ((FLa_putHalf 18112 ta tw gh).2) ls H locs (pq_nat_lt _) (by omega) (by rw [← pq_nat (pq_in0 hto)]; exact lv_sub hl [1, 2, 0] rfl) hP hD hS (fun ls H locs hl hP hD hS => ?_)
          have hP : va_P D vwCl (wL ad cI cS tn to ((FLa_putHalf 18112 ta tw gh).1) tp tk tw tl ((LLa_putPool_83 (xn.toInt.toNat + 1) xn ((FLa_putHalf 18112 ta tw gh).1) ts sK to.toInt.toNat tc).2) ts tv sn sK sA sB sC sL gn gp ((FLa_putHalf 18112 ta tw gh).2)) H := hP
          have hD : va_D _ (wL ad cI cS tn to ((FLa_putHalf 18112 ta tw gh).1) tp tk tw tl ((LLa_putPool_83 (xn.toInt.toNat + 1) xn ((FLa_putHalf 18112 ta tw gh).1) ts sK to.toInt.toNat tc).2) ts tv sn sK sA sB sC sL gn gp ((FLa_putHalf 18112 ta tw gh).2)) := hD
          refine lv_iconst (v := 0) hx hb dLa_putPool_127 (by first | rfl | decide) ?_
          refine lv_istore_n (lv' := [(2, .int 0), (0, .ref (ad 3)), (1, .int xn)]) hx hb dLa_putPool_128 rfl hl (by decide) rfl (fun ls hl => ?_)
          obtain ⟨g5, hg5⟩ : ∃ g9, LLa_putPool_129 (tn.toInt.toNat + 1) tn tw tv 0 ((FLa_putHalf 18112 ta tw gh).1) ((FLa_putHalf 18112 ta tw gh).2) = g9 := ⟨_, rfl⟩
          refine qLa_putPool_129 D ad cI cS hx hb hml hw hown hE hA ⟨Nat.le_of_ble_eq_true rfl, Nat.le_of_ble_eq_true rfl⟩ tn.toInt.toNat (tn.toInt.toNat + 1) 0 tn to ((FLa_putHalf 18112 ta tw gh).1) tp tk tw tl ((LLa_putPool_83 (xn.toInt.toNat + 1) xn ((FLa_putHalf 18112 ta tw gh).1) ts sK to.toInt.toNat tc).2) ts tv sn sK sA sB sC sL gn gp ((FLa_putHalf 18112 ta tw gh).2) ls H locs (pq_nat htn0) (pq_nat_le htn1) (Nat.zero_le _) (by omega) (lv_sub hl [1, 0] rfl) hP hD hS (fun ls H locs hl hP hD hS => ?_)
          try rw [hg5] at hl
          try rw [hg5] at hP
          try rw [hg5] at hD
          have hP : va_P D vwCl (wL ad cI cS tn to g5.2.1 tp tk tw tl ((LLa_putPool_83 (xn.toInt.toNat + 1) xn ((FLa_putHalf 18112 ta tw gh).1) ts sK to.toInt.toNat tc).2) ts tv sn sK sA sB sC sL gn gp g5.2.2) H := hP
          have hD : va_D _ (wL ad cI cS tn to g5.2.1 tp tk tw tl ((LLa_putPool_83 (xn.toInt.toNat + 1) xn ((FLa_putHalf 18112 ta tw gh).1) ts sK to.toInt.toNat tc).2) ts tv sn sK sA sB sC sL gn gp g5.2.2) := hD
          refine lv_aload_n hx hb dLa_putPool_166 rfl (lv_at hl 0 rfl) ?_
          refine lv_iconst (v := 0) hx hb dLa_putPool_167 (by first | rfl | decide) ?_
          refine va_put (D := D) (ci := 1) (v := .int 0) (ty := .int) (C := RLa) (T := TLa) (N := 12) hx hb hw pinLa tyLa tyLa_ok nmLa hown hE.1 hP hD hS 0 rfl rfl 6 (by decide) (hw _ wd_123) (fun _ h9 => h9) rfl (by decide +kernel) rfl rfl (Nat.le_of_ble_eq_true rfl) dLa_putPool_168 (fun H locs hP hD hS => ?_)
          have hP : va_P D vwCl (wL ad cI cS 0 to g5.2.1 tp tk tw tl ((LLa_putPool_83 (xn.toInt.toNat + 1) xn ((FLa_putHalf 18112 ta tw gh).1) ts sK to.toInt.toNat tc).2) ts tv sn sK sA sB sC sL gn gp g5.2.2) H := hP
          have hD : va_D _ (wL ad cI cS 0 to g5.2.1 tp tk tw tl ((LLa_putPool_83 (xn.toInt.toNat + 1) xn ((FLa_putHalf 18112 ta tw gh).1) ts sK to.toInt.toNat tc).2) ts tv sn sK sA sB sC sL gn gp g5.2.2) := hD
          refine lv_aload_n hx hb dLa_putPool_171 rfl (lv_at hl 0 rfl) ?_
          refine lv_dup hx hb dLa_putPool_172 rfl ?_
          refine va_get (D := D) (ci := 1) (v := .int tp) (C := RLa) (T := TLa) (N := 12) hx hb hw pinLa hown hE.1 hP 0 rfl rfl 9 (by decide) (hw _ wd_137) (fun _ h9 => h9) rfl dLa_putPool_173 ?_
          refine lv_iconst (v := 1) hx hb dLa_putPool_176 (by first | rfl | decide) ?_
          refine lv_iadd hx hb dLa_putPool_177 ?_
          refine va_put (D := D) (ci := 1) (v := .int (tp + 1)) (ty := .int) (C := RLa) (T := TLa) (N := 12) hx hb hw pinLa tyLa tyLa_ok nmLa hown hE.1 hP hD hS 0 rfl rfl 9 (by decide) (hw _ wd_137) (fun _ h9 => h9) rfl (by decide +kernel) rfl rfl (Nat.le_of_ble_eq_true rfl) dLa_putPool_178 (fun H locs hP hD hS => ?_)
          have hP : va_P D vwCl (wL ad cI cS 0 to g5.2.1 (tp + 1) tk tw tl ((LLa_putPool_83 (xn.toInt.toNat + 1) xn ((FLa_putHalf 18112 ta tw gh).1) ts sK to.toInt.toNat tc).2) ts tv sn sK sA sB sC sL gn gp g5.2.2) H := hP
          have hD : va_D _ (wL ad cI cS 0 to g5.2.1 (tp + 1) tk tw tl ((LLa_putPool_83 (xn.toInt.toNat + 1) xn ((FLa_putHalf 18112 ta tw gh).1) ts sK to.toInt.toNat tc).2) ts tv sn sK sA sB sC sL gn gp g5.2.2) := hD
          have e9 : FLa_putPool xn tn to ta tp tk tw tc ts tv sK gh = (g5.2.1, g5.2.2, (LLa_putPool_83 (xn.toInt.toNat + 1) xn ((FLa_putHalf 18112 ta tw gh).1) ts sK to.toInt.toNat tc).2, 0, tp + 1) := by simp only [FLa_putPool, hg5, if_neg h1, if_neg h2, if_pos h4, if_neg h5]
          have p9 : (¬ (0 : Int32) < 0) ∧ ((0 : Int32).toInt ≤ 160) := ⟨by first | assumption | decide, by first | assumption | decide⟩
          exact W.vret hx hb hr (fun t ht hW => ⟨⟨(), rfl, by rw [e9]; exact p9, by rw [e9, ht]; exact hP, by rw [e9]; exact hD⟩, hS.F ht⟩) hS.2.2 dLa_putPool_181
      · refine lv_aload_n hx hb dLa_putPool_26 rfl (lv_at hl 0 rfl) ?_
        refine va_get (D := D) (ci := 1) (v := .int ta) (C := RLa) (T := TLa) (N := 12) hx hb hw pinLa hown hE.1 hP 0 rfl rfl 8 (by decide) (hw _ wd_95) (fun _ h9 => h9) rfl dLa_putPool_27 ?_
        refine lv_iconst (v := 2) hx hb dLa_putPool_30 (by first | rfl | decide) ?_
        refine lv_iadd hx hb dLa_putPool_31 ?_
        refine pq_calli (fr := (FFo_upToFour (ta + 2))) (wc := (wN ad cI cS)) (wr := ([0, 1, 2, 3, 4, 5, 6, 7, 8, 9, 10, 11, 12] : List Nat).filterMap (fun i => (wL ad cI cS tn to ta tp tk tw tl tc ts tv sn sK sA sB sC sL gn gp gh)[i]?)) hP hD hS hA [] [0, 1, 2, 3, 4, 5, 6, 7, 8, 9, 10, 11, 12] rfl rfl (by decide) (by decide) (va_runSN (own := RLa) (As := [.int (ta + 2)]) (rest := []) ⟨hx, hb, hml, hown, hw⟩ (k_Fo_upToFour l D ad cI cS (ta + 2) s.heap.size) ⟨pq_cnB 1 hw (hE.2 _ nw_9) wd_1 wd_124 rfl rfl (by decide +kernel) ⟨Nat.le_of_ble_eq_true rfl, Nat.le_of_ble_eq_true rfl⟩, hw _ wd_125, trivial⟩ (pq_preS hE (hP.sub [] rfl) (hD.sub [] (by decide) rfl)) rfl rfl hl.1 rfl (lv_room (Nat.le_of_ble_eq_true rfl)) dLa_putPool_32 ⟨Nat.zero_le _, Nat.zero_le _⟩) (fun H locs hP hD hS => ?_)
        have hP : va_P D vwCl (wL ad cI cS tn to ta tp tk tw tl tc ts tv sn sK sA sB sC sL gn gp gh) H := hP.sub [0, 1, 2, 3, 4, 5, 6, 7, 8, 9, 10, 11, 12] rfl
        have hD : va_D _ (wL ad cI cS tn to ta tp tk tw tl tc ts tv sn sK sA sB sC sL gn gp gh) := hD.sub [0, 1, 2, 3, 4, 5, 6, 7, 8, 9, 10, 11, 12] (by decide) rfl
        refine lv_iconst (v := 4) hx hb dLa_putPool_35 (by first | rfl | decide) ?_
        refine lv_aload_n hx hb dLa_putPool_36 rfl (lv_at hl 0 rfl) ?_
        refine va_get (D := D) (ci := 1) (v := .int tn) (C := RLa) (T := TLa) (N := 12) hx hb hw pinLa hown hE.1 hP 0 rfl rfl 6 (by decide) (hw _ wd_123) (fun _ h9 => h9) rfl dLa_putPool_37 ?_
        refine lv_imul hx hb dLa_putPool_40 ?_
        refine lv_iadd hx hb dLa_putPool_41 ?_
        refine lv_istore_n (lv' := [(2, .int ((FFo_upToFour (ta + 2)) + (4 * tn))), (0, .ref (ad 3)), (1, .int xn)]) hx hb dLa_putPool_42 rfl hl (by decide) rfl (fun ls hl => ?_)
        refine lv_aload_n hx hb dLa_putPool_43 rfl (lv_at hl 1 rfl) ?_
        refine lv_ldc hx hb hown (hw _ wd_127) dLa_putPool_44 ?_
        refine lv_aload_n hx hb dLa_putPool_46 rfl (lv_at hl 1 rfl) ?_
        refine va_get (D := D) (ci := 1) (v := .int ta) (C := RLa) (T := TLa) (N := 12) hx hb hw pinLa hown hE.1 hP 0 rfl rfl 8 (by decide) (hw _ wd_95) (fun _ h9 => h9) rfl dLa_putPool_47 ?_
        refine lv_iload_n hx hb dLa_putPool_50 rfl (lv_at hl 0 rfl) ?_
        refine pq_calli (fr := (FLa_stepsFrom ta ((FFo_upToFour (ta + 2)) + (4 * tn)))) (wc := (wN ad cI cS)) (wr := ([0, 1, 2, 3, 4, 5, 6, 7, 8, 9, 10, 11, 12] : List Nat).filterMap (fun i => (wL ad cI cS tn to ta tp tk tw tl tc ts tv sn sK sA sB sC sL gn gp gh)[i]?)) hP hD hS hA [] [0, 1, 2, 3, 4, 5, 6, 7, 8, 9, 10, 11, 12] rfl rfl (by decide) (by decide) (va_runS (own := RLa) (As := [.int ta, .int ((FFo_upToFour (ta + 2)) + (4 * tn))]) (rest := [.int 57344, .ref (ad 3)]) ⟨hx, hb, hml, hown, hw⟩ (k_La_stepsFrom l D ad cI cS ta ((FFo_upToFour (ta + 2)) + (4 * tn)) H.size) ⟨pq_cwB 2 hw wd_109 wd_108 wd_107 rfl rfl (by decide +kernel) ⟨Nat.le_of_ble_eq_true rfl, Nat.le_of_ble_eq_true rfl⟩, hw _ wd_110⟩ (pq_preS hE (hP.sub [] rfl) (hD.sub [] (by decide) rfl)) rfl rfl hl.1 rfl (lv_room (Nat.le_of_ble_eq_true rfl)) dLa_putPool_51 ⟨Nat.zero_le _, Nat.zero_le _⟩) (fun H locs hP hD hS => ?_)
        have hP : va_P D vwCl (wL ad cI cS tn to ta tp tk tw tl tc ts tv sn sK sA sB sC sL gn gp gh) H := hP.sub [0, 1, 2, 3, 4, 5, 6, 7, 8, 9, 10, 11, 12] rfl
        have hD : va_D _ (wL ad cI cS tn to ta tp tk tw tl tc ts tv sn sK sA sB sC sL gn gp gh) := hD.sub [0, 1, 2, 3, 4, 5, 6, 7, 8, 9, 10, 11, 12] (by decide) rfl
        refine lv_sipush (v := 2047) hx hb dLa_putPool_54 (by first | rfl | decide) ?_
        refine lv_iand hx hb dLa_putPool_57 ?_
        refine lv_iadd hx hb dLa_putPool_58 ?_
        obtain ⟨g6, hg6⟩ : ∃ g9, FLa_putHalf (57344 + ((FLa_stepsFrom ta ((FFo_upToFour (ta + 2)) + (4 * tn))) &&& (2047 : Int32))) ta tw gh = g9 := ⟨_, rfl⟩
        have cg6 := k_La_putHalf l D ad cI cS (57344 + ((FLa_stepsFrom ta ((FFo_upToFour (ta + 2)) + (4 * tn))) &&& (2047 : Int32))) tn to ta tp tk tw tl tc ts tv sn sK sA sB sC sL gn gp gh
        rw [hg6] at cg6
        refine pq_callv (wc := (wL ad cI cS tn to ta tp tk tw tl tc ts tv sn sK sA sB sC sL gn gp gh)) (wr := ([] : List Nat).filterMap (fun i => (wL ad cI cS tn to ta tp tk tw tl tc ts tv sn sK sA sB sC sL gn gp gh)[i]?)) hP hD hS hA [0, 1, 2, 3, 4, 5, 6, 7, 8, 9, 10, 11, 12] [] rfl rfl (by decide) (by decide) (va_runV (own := RLa) (C := RLa) (As := [.int (57344 + ((FLa_stepsFrom ta ((FFo_upToFour (ta + 2)) + (4 * tn))) &&& (2047 : Int32)))]) (rest := []) ⟨hx, hb, hml, hown, hw⟩ (cg6 H.size) ⟨pq_cwB 1 hw wd_133 wd_108 wd_132 rfl rfl (by decide +kernel) ⟨Nat.le_of_ble_eq_true rfl, Nat.le_of_ble_eq_true rfl⟩, hw _ wd_134, hw _ wd_135⟩ (pq_preV (ci := 1) (C := RLa) (T := TLa) (N := 12) hE (hP.sub [0, 1, 2, 3, 4, 5, 6, 7, 8, 9, 10, 11, 12] rfl) (hD.sub [0, 1, 2, 3, 4, 5, 6, 7, 8, 9, 10, 11, 12] (by decide) rfl) rfl 0 rfl) rfl rfl hl.1 rfl (lv_room (Nat.le_of_ble_eq_true rfl)) dLa_putPool_59 ⟨Nat.zero_le _, Nat.zero_le _⟩) (fun _ H locs hP hD hS => ?_)
        have hP : va_P D vwCl (wL ad cI cS tn to g6.1 tp tk tw tl tc ts tv sn sK sA sB sC sL gn gp g6.2) H := hP.sub [0, 1, 2, 3, 4, 5, 6, 7, 8, 9, 10, 11, 12] rfl
        have hD : va_D _ (wL ad cI cS tn to g6.1 tp tk tw tl tc ts tv sn sK sA sB sC sL gn gp g6.2) := hD.sub [0, 1, 2, 3, 4, 5, 6, 7, 8, 9, 10, 11, 12] (by decide) rfl
        refine lv_aload_n hx hb dLa_putPool_62 rfl (lv_at hl 1 rfl) ?_
        refine va_get (D := D) (ci := 1) (v := .int g6.1) (C := RLa) (T := TLa) (N := 12) hx hb hw pinLa hown hE.1 hP 0 rfl rfl 8 (by decide) (hw _ wd_95) (fun _ h9 => h9) rfl dLa_putPool_63 ?_
        refine lv_iconst (v := 4) hx hb dLa_putPool_66 (by first | rfl | decide) ?_
        refine lv_irem hx hb dLa_putPool_67 (by decide) ?_
        refine lv_if_eq (tgt := 78) hx hb dLa_putPool_68 (by decide) (fun h6 => ?_) (fun h6 => ?_)
        · refine lv_aload_n hx hb dLa_putPool_78 rfl (lv_at hl 1 rfl) ?_
          refine va_get (D := D) (ci := 1) (v := .int to) (C := RLa) (T := TLa) (N := 12) hx hb hw pinLa hown hE.1 hP 0 rfl rfl 7 (by decide) (hw _ wd_126) (fun _ h9 => h9) rfl dLa_putPool_79 ?_
          refine lv_istore_n (lv' := [(2, .int to), (0, .ref (ad 3)), (1, .int xn)]) hx hb dLa_putPool_82 rfl hl (by decide) rfl (fun ls hl => ?_)
          refine qLa_putPool_83 D ad cI cS hx hb hml hw hown hE hA xn xn.toInt.toNat (pq_nat hxn0) (pq_nat_le hxn1) (xn.toInt.toNat + 1) to.toInt.toNat tn to g6.1 tp tk tw tl tc ts tv sn sK sA sB sC sL gn gp g6.2 ls H locs (pq_nat_lt _) (by omega) (by rw [← pq_nat (pq_in0 hto)]; exact lv_sub hl [1, 2, 0] rfl) hP hD hS (fun ls H locs hl hP hD hS => ?_)
          have hP : va_P D vwCl (wL ad cI cS tn to g6.1 tp tk tw tl ((LLa_putPool_83 (xn.toInt.toNat + 1) xn g6.1 ts sK to.toInt.toNat tc).2) ts tv sn sK sA sB sC sL gn gp g6.2) H := hP
          have hD : va_D _ (wL ad cI cS tn to g6.1 tp tk tw tl ((LLa_putPool_83 (xn.toInt.toNat + 1) xn g6.1 ts sK to.toInt.toNat tc).2) ts tv sn sK sA sB sC sL gn gp g6.2) := hD
          refine lv_iconst (v := 0) hx hb dLa_putPool_127 (by first | rfl | decide) ?_
          refine lv_istore_n (lv' := [(2, .int 0), (0, .ref (ad 3)), (1, .int xn)]) hx hb dLa_putPool_128 rfl hl (by decide) rfl (fun ls hl => ?_)
          obtain ⟨g7, hg7⟩ : ∃ g9, LLa_putPool_129 (tn.toInt.toNat + 1) tn tw tv 0 g6.1 g6.2 = g9 := ⟨_, rfl⟩
          refine qLa_putPool_129 D ad cI cS hx hb hml hw hown hE hA ⟨Nat.le_of_ble_eq_true rfl, Nat.le_of_ble_eq_true rfl⟩ tn.toInt.toNat (tn.toInt.toNat + 1) 0 tn to g6.1 tp tk tw tl ((LLa_putPool_83 (xn.toInt.toNat + 1) xn g6.1 ts sK to.toInt.toNat tc).2) ts tv sn sK sA sB sC sL gn gp g6.2 ls H locs (pq_nat htn0) (pq_nat_le htn1) (Nat.zero_le _) (by omega) (lv_sub hl [1, 0] rfl) hP hD hS (fun ls H locs hl hP hD hS => ?_)
          try rw [hg7] at hl
          try rw [hg7] at hP
          try rw [hg7] at hD
          have hP : va_P D vwCl (wL ad cI cS tn to g7.2.1 tp tk tw tl ((LLa_putPool_83 (xn.toInt.toNat + 1) xn g6.1 ts sK to.toInt.toNat tc).2) ts tv sn sK sA sB sC sL gn gp g7.2.2) H := hP
          have hD : va_D _ (wL ad cI cS tn to g7.2.1 tp tk tw tl ((LLa_putPool_83 (xn.toInt.toNat + 1) xn g6.1 ts sK to.toInt.toNat tc).2) ts tv sn sK sA sB sC sL gn gp g7.2.2) := hD
          refine lv_aload_n hx hb dLa_putPool_166 rfl (lv_at hl 0 rfl) ?_
          refine lv_iconst (v := 0) hx hb dLa_putPool_167 (by first | rfl | decide) ?_
          refine va_put (D := D) (ci := 1) (v := .int 0) (ty := .int) (C := RLa) (T := TLa) (N := 12) hx hb hw pinLa tyLa tyLa_ok nmLa hown hE.1 hP hD hS 0 rfl rfl 6 (by decide) (hw _ wd_123) (fun _ h9 => h9) rfl (by decide +kernel) rfl rfl (Nat.le_of_ble_eq_true rfl) dLa_putPool_168 (fun H locs hP hD hS => ?_)
          have hP : va_P D vwCl (wL ad cI cS 0 to g7.2.1 tp tk tw tl ((LLa_putPool_83 (xn.toInt.toNat + 1) xn g6.1 ts sK to.toInt.toNat tc).2) ts tv sn sK sA sB sC sL gn gp g7.2.2) H := hP
          have hD : va_D _ (wL ad cI cS 0 to g7.2.1 tp tk tw tl ((LLa_putPool_83 (xn.toInt.toNat + 1) xn g6.1 ts sK to.toInt.toNat tc).2) ts tv sn sK sA sB sC sL gn gp g7.2.2) := hD
          refine lv_aload_n hx hb dLa_putPool_171 rfl (lv_at hl 0 rfl) ?_
          refine lv_dup hx hb dLa_putPool_172 rfl ?_
          refine va_get (D := D) (ci := 1) (v := .int tp) (C := RLa) (T := TLa) (N := 12) hx hb hw pinLa hown hE.1 hP 0 rfl rfl 9 (by decide) (hw _ wd_137) (fun _ h9 => h9) rfl dLa_putPool_173 ?_
          refine lv_iconst (v := 1) hx hb dLa_putPool_176 (by first | rfl | decide) ?_
          refine lv_iadd hx hb dLa_putPool_177 ?_
          refine va_put (D := D) (ci := 1) (v := .int (tp + 1)) (ty := .int) (C := RLa) (T := TLa) (N := 12) hx hb hw pinLa tyLa tyLa_ok nmLa hown hE.1 hP hD hS 0 rfl rfl 9 (by decide) (hw _ wd_137) (fun _ h9 => h9) rfl (by decide +kernel) rfl rfl (Nat.le_of_ble_eq_true rfl) dLa_putPool_178 (fun H locs hP hD hS => ?_)
          have hP : va_P D vwCl (wL ad cI cS 0 to g7.2.1 (tp + 1) tk tw tl ((LLa_putPool_83 (xn.toInt.toNat + 1) xn g6.1 ts sK to.toInt.toNat tc).2) ts tv sn sK sA sB sC sL gn gp g7.2.2) H := hP
          have hD : va_D _ (wL ad cI cS 0 to g7.2.1 (tp + 1) tk tw tl ((LLa_putPool_83 (xn.toInt.toNat + 1) xn g6.1 ts sK to.toInt.toNat tc).2) ts tv sn sK sA sB sC sL gn gp g7.2.2) := hD
          have e9 : FLa_putPool xn tn to ta tp tk tw tc ts tv sK gh = (g7.2.1, g7.2.2, (LLa_putPool_83 (xn.toInt.toNat + 1) xn g6.1 ts sK to.toInt.toNat tc).2, 0, tp + 1) := by simp only [FLa_putPool, hg6, hg7, if_neg h1, if_neg h2, if_neg h4, if_pos h6]
          have p9 : (¬ (0 : Int32) < 0) ∧ ((0 : Int32).toInt ≤ 160) := ⟨by first | assumption | decide, by first | assumption | decide⟩
          exact W.vret hx hb hr (fun t ht hW => ⟨⟨(), rfl, by rw [e9]; exact p9, by rw [e9, ht]; exact hP, by rw [e9]; exact hD⟩, hS.F ht⟩) hS.2.2 dLa_putPool_181
        · refine lv_aload_n hx hb dLa_putPool_71 rfl (lv_at hl 1 rfl) ?_
          refine lv_sipush (v := 18112) hx hb dLa_putPool_72 (by first | rfl | decide) ?_
          refine pq_callv (wc := (wL ad cI cS tn to g6.1 tp tk tw tl tc ts tv sn sK sA sB sC sL gn gp g6.2)) (wr := ([] : List Nat).filterMap (fun i => (wL ad cI cS tn to g6.1 tp tk tw tl tc ts tv sn sK sA sB sC sL gn gp g6.2)[i]?)) hP hD hS hA [0, 1, 2, 3, 4, 5, 6, 7, 8, 9, 10, 11, 12] [] rfl rfl (by decide) (by decide) (va_runV (own := RLa) (C := RLa) (As := [.int 18112]) (rest := []) ⟨hx, hb, hml, hown, hw⟩ (k_La_putHalf l D ad cI cS 18112 tn to g6.1 tp tk tw tl tc ts tv sn sK sA sB sC sL gn gp g6.2 H.size) ⟨pq_cwB 1 hw wd_133 wd_108 wd_132 rfl rfl (by decide +kernel) ⟨Nat.le_of_ble_eq_true rfl, Nat.le_of_ble_eq_true rfl⟩, hw _ wd_134, hw _ wd_135⟩ (pq_preV (ci := 1) (C := RLa) (T := TLa) (N := 12) hE (hP.sub [0, 1, 2, 3, 4, 5, 6, 7, 8, 9, 10, 11, 12] rfl) (hD.sub [0, 1, 2, 3, 4, 5, 6, 7, 8, 9, 10, 11, 12] (by decide) rfl) rfl 0 rfl) rfl rfl hl.1 rfl (lv_room (Nat.le_of_ble_eq_true rfl)) dLa_putPool_75 ⟨Nat.zero_le _, Nat.zero_le _⟩) (fun _ H locs hP hD hS => ?_)
          have hP : va_P D vwCl (wL ad cI cS tn to ((FLa_putHalf 18112 g6.1 tw g6.2).1) tp tk tw tl tc ts tv sn sK sA sB sC sL gn gp ((FLa_putHalf 18112 g6.1 tw g6.2).2)) H := hP.sub [0, 1, 2, 3, 4, 5, 6, 7, 8, 9, 10, 11, 12] rfl
          have hD : va_D _ (wL ad cI cS tn to ((FLa_putHalf 18112 g6.1 tw g6.2).1) tp tk tw tl tc ts tv sn sK sA sB sC sL gn gp ((FLa_putHalf 18112 g6.1 tw g6.2).2)) := hD.sub [0, 1, 2, 3, 4, 5, 6, 7, 8, 9, 10, 11, 12] (by decide) rfl
          refine lv_aload_n hx hb dLa_putPool_78 rfl (lv_at hl 1 rfl) ?_
          refine va_get (D := D) (ci := 1) (v := .int to) (C := RLa) (T := TLa) (N := 12) hx hb hw pinLa hown hE.1 hP 0 rfl rfl 7 (by decide) (hw _ wd_126) (fun _ h9 => h9) rfl dLa_putPool_79 ?_
          refine lv_istore_n (lv' := [(2, .int to), (0, .ref (ad 3)), (1, .int xn)]) hx hb dLa_putPool_82 rfl hl (by decide) rfl (fun ls hl => ?_)
          refine qLa_putPool_83 D ad cI cS hx hb hml hw hown hE hA xn xn.toInt.toNat (pq_nat hxn0) (pq_nat_le hxn1) (xn.toInt.toNat + 1) to.toInt.toNat tn to ((FLa_putHalf 18112 g6.1 tw g6.2).1) tp tk tw tl tc ts tv sn sK sA sB sC sL gn gp ((FLa_putHalf 18112 g6.1 tw g6.2).2) ls H locs (pq_nat_lt _) (by omega) (by rw [← pq_nat (pq_in0 hto)]; exact lv_sub hl [1, 2, 0] rfl) hP hD hS (fun ls H locs hl hP hD hS => ?_)
          have hP : va_P D vwCl (wL ad cI cS tn to ((FLa_putHalf 18112 g6.1 tw g6.2).1) tp tk tw tl ((LLa_putPool_83 (xn.toInt.toNat + 1) xn ((FLa_putHalf 18112 g6.1 tw g6.2).1) ts sK to.toInt.toNat tc).2) ts tv sn sK sA sB sC sL gn gp ((FLa_putHalf 18112 g6.1 tw g6.2).2)) H := hP
          have hD : va_D _ (wL ad cI cS tn to ((FLa_putHalf 18112 g6.1 tw g6.2).1) tp tk tw tl ((LLa_putPool_83 (xn.toInt.toNat + 1) xn ((FLa_putHalf 18112 g6.1 tw g6.2).1) ts sK to.toInt.toNat tc).2) ts tv sn sK sA sB sC sL gn gp ((FLa_putHalf 18112 g6.1 tw g6.2).2)) := hD
          refine lv_iconst (v := 0) hx hb dLa_putPool_127 (by first | rfl | decide) ?_
          refine lv_istore_n (lv' := [(2, .int 0), (0, .ref (ad 3)), (1, .int xn)]) hx hb dLa_putPool_128 rfl hl (by decide) rfl (fun ls hl => ?_)
          obtain ⟨g8, hg8⟩ : ∃ g9, LLa_putPool_129 (tn.toInt.toNat + 1) tn tw tv 0 ((FLa_putHalf 18112 g6.1 tw g6.2).1) ((FLa_putHalf 18112 g6.1 tw g6.2).2) = g9 := ⟨_, rfl⟩
          refine qLa_putPool_129 D ad cI cS hx hb hml hw hown hE hA ⟨Nat.le_of_ble_eq_true rfl, Nat.le_of_ble_eq_true rfl⟩ tn.toInt.toNat (tn.toInt.toNat + 1) 0 tn to ((FLa_putHalf 18112 g6.1 tw g6.2).1) tp tk tw tl ((LLa_putPool_83 (xn.toInt.toNat + 1) xn ((FLa_putHalf 18112 g6.1 tw g6.2).1) ts sK to.toInt.toNat tc).2) ts tv sn sK sA sB sC sL gn gp ((FLa_putHalf 18112 g6.1 tw g6.2).2) ls H locs (pq_nat htn0) (pq_nat_le htn1) (Nat.zero_le _) (by omega) (lv_sub hl [1, 0] rfl) hP hD hS (fun ls H locs hl hP hD hS => ?_)
          try rw [hg8] at hl
          try rw [hg8] at hP
          try rw [hg8] at hD
          have hP : va_P D vwCl (wL ad cI cS tn to g8.2.1 tp tk tw tl ((LLa_putPool_83 (xn.toInt.toNat + 1) xn ((FLa_putHalf 18112 g6.1 tw g6.2).1) ts sK to.toInt.toNat tc).2) ts tv sn sK sA sB sC sL gn gp g8.2.2) H := hP
          have hD : va_D _ (wL ad cI cS tn to g8.2.1 tp tk tw tl ((LLa_putPool_83 (xn.toInt.toNat + 1) xn ((FLa_putHalf 18112 g6.1 tw g6.2).1) ts sK to.toInt.toNat tc).2) ts tv sn sK sA sB sC sL gn gp g8.2.2) := hD
          refine lv_aload_n hx hb dLa_putPool_166 rfl (lv_at hl 0 rfl) ?_
          refine lv_iconst (v := 0) hx hb dLa_putPool_167 (by first | rfl | decide) ?_
          refine va_put (D := D) (ci := 1) (v := .int 0) (ty := .int) (C := RLa) (T := TLa) (N := 12) hx hb hw pinLa tyLa tyLa_ok nmLa hown hE.1 hP hD hS 0 rfl rfl 6 (by decide) (hw _ wd_123) (fun _ h9 => h9) rfl (by decide +kernel) rfl rfl (Nat.le_of_ble_eq_true rfl) dLa_putPool_168 (fun H locs hP hD hS => ?_)
          have hP : va_P D vwCl (wL ad cI cS 0 to g8.2.1 tp tk tw tl ((LLa_putPool_83 (xn.toInt.toNat + 1) xn ((FLa_putHalf 18112 g6.1 tw g6.2).1) ts sK to.toInt.toNat tc).2) ts tv sn sK sA sB sC sL gn gp g8.2.2) H := hP
          have hD : va_D _ (wL ad cI cS 0 to g8.2.1 tp tk tw tl ((LLa_putPool_83 (xn.toInt.toNat + 1) xn ((FLa_putHalf 18112 g6.1 tw g6.2).1) ts sK to.toInt.toNat tc).2) ts tv sn sK sA sB sC sL gn gp g8.2.2) := hD
          refine lv_aload_n hx hb dLa_putPool_171 rfl (lv_at hl 0 rfl) ?_
          refine lv_dup hx hb dLa_putPool_172 rfl ?_
          refine va_get (D := D) (ci := 1) (v := .int tp) (C := RLa) (T := TLa) (N := 12) hx hb hw pinLa hown hE.1 hP 0 rfl rfl 9 (by decide) (hw _ wd_137) (fun _ h9 => h9) rfl dLa_putPool_173 ?_
          refine lv_iconst (v := 1) hx hb dLa_putPool_176 (by first | rfl | decide) ?_
          refine lv_iadd hx hb dLa_putPool_177 ?_
          refine va_put (D := D) (ci := 1) (v := .int (tp + 1)) (ty := .int) (C := RLa) (T := TLa) (N := 12) hx hb hw pinLa tyLa tyLa_ok nmLa hown hE.1 hP hD hS 0 rfl rfl 9 (by decide) (hw _ wd_137) (fun _ h9 => h9) rfl (by decide +kernel) rfl rfl (Nat.le_of_ble_eq_true rfl) dLa_putPool_178 (fun H locs hP hD hS => ?_)
          have hP : va_P D vwCl (wL ad cI cS 0 to g8.2.1 (tp + 1) tk tw tl ((LLa_putPool_83 (xn.toInt.toNat + 1) xn ((FLa_putHalf 18112 g6.1 tw g6.2).1) ts sK to.toInt.toNat tc).2) ts tv sn sK sA sB sC sL gn gp g8.2.2) H := hP
          have hD : va_D _ (wL ad cI cS 0 to g8.2.1 (tp + 1) tk tw tl ((LLa_putPool_83 (xn.toInt.toNat + 1) xn ((FLa_putHalf 18112 g6.1 tw g6.2).1) ts sK to.toInt.toNat tc).2) ts tv sn sK sA sB sC sL gn gp g8.2.2) := hD
          have e9 : FLa_putPool xn tn to ta tp tk tw tc ts tv sK gh = (g8.2.1, g8.2.2, (LLa_putPool_83 (xn.toInt.toNat + 1) xn ((FLa_putHalf 18112 g6.1 tw g6.2).1) ts sK to.toInt.toNat tc).2, 0, tp + 1) := by simp only [FLa_putPool, hg6, hg8, if_neg h1, if_neg h2, if_neg h4, if_neg h6]
          have p9 : (¬ (0 : Int32) < 0) ∧ ((0 : Int32).toInt ≤ 160) := ⟨by first | assumption | decide, by first | assumption | decide⟩
          exact W.vret hx hb hr (fun t ht hW => ⟨⟨(), rfl, by rw [e9]; exact p9, by rw [e9, ht]; exact hP, by rw [e9]; exact hD⟩, hS.F ht⟩) hS.2.2 dLa_putPool_181
  · have e9 : FLa_putPool xn tn to ta tp tk tw tc ts tv sK gh = (ta, gh, tc, tn, tp) := by simp only [FLa_putPool, if_pos h1]
    have p9 : (¬ tn < 0) ∧ (tn.toInt ≤ 160) := ⟨by first | assumption | decide, by first | assumption | decide⟩
    exact W.vret hx hb hr (fun t ht hW => ⟨⟨(), rfl, by rw [e9]; exact p9, by rw [e9, ht]; exact hP, by rw [e9]; exact hD⟩, hS.F ht⟩) hS.2.2 dLa_putPool_7
def LLa_layLine_22 : Nat → (Int32) → (Int32) → (Int32) → (Nat → Int32) → (Nat → Int32) → (Nat → Int32) → (Nat → Int32) → (Nat → Int32) → (Nat → Int32) → (Nat → Int32) → (Int32) → (Int32) → (Nat) → (Nat → Int32) → (Nat → Int32) → (Int32) → (Int32) → (Int32) → (Int32) → (Nat → Int32) → Nat × (Nat → Int32) × (Nat → Int32) × Int32 × Int32 × Int32 × Int32 × (Nat → Int32)
  | 0, _, _, _, _, _, _, _, _, _, _, _, _, j, tl, tc, tn, tp, ta, tk, gh => (j, tl, tc, tn, tp, ta, tk, gh)
  | n + 1, xl, to, tw, ts, tv, sK, sA, sB, sC, sL, v, w, j, tl, tc, tn, tp, ta, tk, gh => if w ≤ (nI j) then (j, tl, tc, tn, tp, ta, tk, gh) else if (FLa_isPoolDue tn to ta tl) = 0 then if (nI j) = 0 then if tw = 0 then LLa_layLine_22 n xl to tw ts tv sK sA sB sC sL v w (j + 1) (upd tl xl.toNatClampNeg ta) tc tn tp ((FLa_putHalf 0 ta tw gh).1) v ((FLa_putHalf 0 ta tw gh).2) else LLa_layLine_22 n xl to tw ts tv sK sA sB sC sL v w (j + 1) (upd tl xl.toNatClampNeg ta) tc tn tp ((FLa_putHalf (FLa_halfOf xl (upd tl xl.toNatClampNeg ta) tc sK sA sB sC sL) ta tw gh).1) v ((FLa_putHalf (FLa_halfOf xl (upd tl xl.toNatClampNeg ta) tc sK sA sB sC sL) ta tw gh).2) else if tw = 0 then LLa_layLine_22 n xl to tw ts tv sK sA sB sC sL v w (j + 1) tl tc tn tp ((FLa_putHalf 0 ta tw gh).1) v ((FLa_putHalf 0 ta tw gh).2) else LLa_layLine_22 n xl to tw ts tv sK sA sB sC sL v w (j + 1) tl tc tn tp ((FLa_putHalf (FLa_halfOf xl tl tc sK sA sB sC sL) ta tw gh).1) v ((FLa_putHalf (FLa_halfOf xl tl tc sK sA sB sC sL) ta tw gh).2) else if (nI j) = 0 then if tw = 0 then LLa_layLine_22 n xl to tw ts tv sK sA sB sC sL v w (j + 1) (upd tl xl.toNatClampNeg (FLa_putPool xl tn to ta tp tk tw tc ts tv sK gh).1) ((FLa_putPool xl tn to ta tp tk tw tc ts tv sK gh).2.2.1) ((FLa_putPool xl tn to ta tp tk tw tc ts tv sK gh).2.2.2.1) ((FLa_putPool xl tn to ta tp tk tw tc ts tv sK gh).2.2.2.2) ((FLa_putHalf 0 (FLa_putPool xl tn to ta tp tk tw tc ts tv sK gh).1 tw (FLa_putPool xl tn to ta tp tk tw tc ts tv sK gh).2.1).1) v ((FLa_putHalf 0 (FLa_putPool xl tn to ta tp tk tw tc ts tv sK gh).1 tw (FLa_putPool xl tn to ta tp tk tw tc ts tv sK gh).2.1).2) else LLa_layLine_22 n xl to tw ts tv sK sA sB sC sL v w (j + 1) (upd tl xl.toNatClampNeg (FLa_putPool xl tn to ta tp tk tw tc ts tv sK gh).1) ((FLa_putPool xl tn to ta tp tk tw tc ts tv sK gh).2.2.1) ((FLa_putPool xl tn to ta tp tk tw tc ts tv sK gh).2.2.2.1) ((FLa_putPool xl tn to ta tp tk tw tc ts tv sK gh).2.2.2.2) ((FLa_putHalf (FLa_halfOf xl (upd tl xl.toNatClampNeg (FLa_putPool xl tn to ta tp tk tw tc ts tv sK gh).1) (FLa_putPool xl tn to ta tp tk tw tc ts tv sK gh).2.2.1 sK sA sB sC sL) (FLa_putPool xl tn to ta tp tk tw tc ts tv sK gh).1 tw (FLa_putPool xl tn to ta tp tk tw tc ts tv sK gh).2.1).1) v ((FLa_putHalf (FLa_halfOf xl (upd tl xl.toNatClampNeg (FLa_putPool xl tn to ta tp tk tw tc ts tv sK gh).1) (FLa_putPool xl tn to ta tp tk tw tc ts tv sK gh).2.2.1 sK sA sB sC sL) (FLa_putPool xl tn to ta tp tk tw tc ts tv sK gh).1 tw (FLa_putPool xl tn to ta tp tk tw tc ts tv sK gh).2.1).2) else if tw = 0 then LLa_layLine_22 n xl to tw ts tv sK sA sB sC sL v w (j + 1) tl ((FLa_putPool xl tn to ta tp tk tw tc ts tv sK gh).2.2.1) ((FLa_putPool xl tn to ta tp tk tw tc ts tv sK gh).2.2.2.1) ((FLa_putPool xl tn to ta tp tk tw tc ts tv sK gh).2.2.2.2) ((FLa_putHalf 0 (FLa_putPool xl tn to ta tp tk tw tc ts tv sK gh).1 tw (FLa_putPool xl tn to ta tp tk tw tc ts tv sK gh).2.1).1) v ((FLa_putHalf 0 (FLa_putPool xl tn to ta tp tk tw tc ts tv sK gh).1 tw (FLa_putPool xl tn to ta tp tk tw tc ts tv sK gh).2.1).2) else LLa_layLine_22 n xl to tw ts tv sK sA sB sC sL v w (j + 1) tl ((FLa_putPool xl tn to ta tp tk tw tc ts tv sK gh).2.2.1) ((FLa_putPool xl tn to ta tp tk tw tc ts tv sK gh).2.2.2.1) ((FLa_putPool xl tn to ta tp tk tw tc ts tv sK gh).2.2.2.2) ((FLa_putHalf (FLa_halfOf xl tl (FLa_putPool xl tn to ta tp tk tw tc ts tv sK gh).2.2.1 sK sA sB sC sL) (FLa_putPool xl tn to ta tp tk tw tc ts tv sK gh).1 tw (FLa_putPool xl tn to ta tp tk tw tc ts tv sK gh).2.1).1) v ((FLa_putHalf (FLa_halfOf xl tl (FLa_putPool xl tn to ta tp tk tw tc ts tv sK gh).2.2.1 sK sA sB sC sL) (FLa_putPool xl tn to ta tp tk tw tc ts tv sK gh).1 tw (FLa_putPool xl tn to ta tp tk tw tc ts tv sK gh).2.1).2)
set_option maxHeartbeats 4000000 in
set_option maxRecDepth 100000 in
theorem qLa_layLine_22 {p : Program} {l : Launch} {e : Env} {R : Room} {s : State} {m : MethodId} {args : Array Value} {below : List Frame} {meth : Method} {c : Code} {Q : State → Prop} {A : Nat → Prop} (D : va_G) (ad : Nat → Nat) (cI cS : ClassId) (hx : p.tables.exec = Jvm.exec) (hb : c.code = cLa_layLine) (hml : c.maxLocals = 5) (hw : ∀ w ∈ pq_ws, w.before args s = true) (hown : s.vm.findClass RLa = some m.cls) (hE : pq_E D cI cS s) (hA : ∀ q : Nat, s.heap.size ≤ q → A q) (hR : 3 ≤ R.frames ∧ 68 ≤ R.locals) (xl : Int32) (v : Int32) (w : Int32) (hxl : vp_in xl 160) : ∀ (n : Nat) (j : Nat) (tn : Int32) (to : Int32) (ta : Int32) (tp : Int32) (tk : Int32) (tw : Int32) (tl : Nat → Int32) (tc : Nat → Int32) (ts : Nat → Int32) (tv : Nat → Int32) (sn : Int32) (sK : Nat → Int32) (sA : Nat → Int32) (sB : Nat → Int32) (sC : Nat → Int32) (sL : Nat → Int32) (gn : Int32) (gp : Int32) (gh : Nat → Int32) (ls : Array Slot) (H : Heap) (locs : List Loc), (¬ tn < 0) → (tn.toInt ≤ 160) → (vp_in to 160) → (∀ j : Nat, j < 16 → ¬ sL j = (-1) → vp_in (sL j) 160) → (j < 2 ^ 31) → (w.toInt.toNat - j) < n → lv_has ls 5 [(0, .ref (ad 3)), (1, .int xl), (2, .int v), (3, .int w), (4, .int (nI j))] → va_P D vwCl (wL ad cI cS tn to ta tp tk tw tl tc ts tv sn sK sA sB sC sL gn gp gh) H → va_D A (wL ad cI cS tn to ta tp tk tw tl tc ts tv sn sK sA sB sC sL gn gp gh) → va_S A s.heap H locs → (∀ (ls : Array Slot) (H : Heap) (locs : List Loc), (¬ ((LLa_layLine_22 n xl to tw ts tv sK sA sB sC sL v w j tl tc tn tp ta tk gh).2.2.2.1) < 0) → (((LLa_layLine_22 n xl to tw ts tv sK sA sB sC sL v w j tl tc tn tp ta tk gh).2.2.2.1).toInt ≤ 160) → lv_has ls 5 [(0, .ref (ad 3)), (1, .int xl), (2, .int v), (3, .int w), (4, .int (nI ((LLa_layLine_22 n xl to tw ts tv sK sA sB sC sL v w j tl tc tn tp ta tk gh).1)))] → va_P D vwCl (wL ad cI cS ((LLa_layLine_22 n xl to tw ts tv sK sA sB sC sL v w j tl tc tn tp ta tk gh).2.2.2.1) to ((LLa_layLine_22 n xl to tw ts tv sK sA sB sC sL v w j tl tc tn tp ta tk gh).2.2.2.2.2.1) ((LLa_layLine_22 n xl to tw ts tv sK sA sB sC sL v w j tl tc tn tp ta tk gh).2.2.2.2.1) ((LLa_layLine_22 n xl to tw ts tv sK sA sB sC sL v w j tl tc tn tp ta tk gh).2.2.2.2.2.2.1) tw ((LLa_layLine_22 n xl to tw ts tv sK sA sB sC sL v w j tl tc tn tp ta tk gh).2.1) ((LLa_layLine_22 n xl to tw ts tv sK sA sB sC sL v w j tl tc tn tp ta tk gh).2.2.1) ts tv sn sK sA sB sC sL gn gp ((LLa_layLine_22 n xl to tw ts tv sK sA sB sC sL v w j tl tc tn tp ta tk gh).2.2.2.2.2.2.2)) H → va_D A (wL ad cI cS ((LLa_layLine_22 n xl to tw ts tv sK sA sB sC sL v w j tl tc tn tp ta tk gh).2.2.2.1) to ((LLa_layLine_22 n xl to tw ts tv sK sA sB sC sL v w j tl tc tn tp ta tk gh).2.2.2.2.2.1) ((LLa_layLine_22 n xl to tw ts tv sK sA sB sC sL v w j tl tc tn tp ta tk gh).2.2.2.2.1) ((LLa_layLine_22 n xl to tw ts tv sK sA sB sC sL v w j tl tc tn tp ta tk gh).2.2.2.2.2.2.1) tw ((LLa_layLine_22 n xl to tw ts tv sK sA sB sC sL v w j tl tc tn tp ta tk gh).2.1) ((LLa_layLine_22 n xl to tw ts tv sK sA sB sC sL v w j tl tc tn tp ta tk gh).2.2.1) ts tv sn sK sA sB sC sL gn gp ((LLa_layLine_22 n xl to tw ts tv sK sA sB sC sL v w j tl tc tn tp ta tk gh).2.2.2.2.2.2.2)) → va_S A s.heap H locs → W p l e R s m args below meth c H locs 0 0 Q (F0 m 86 ls [])) → W p l e R s m args below meth c H locs 0 0 Q (F0 m 22 ls []) := by
  intro n
  induction n with
  | zero =>
    intro j tn to ta tp tk tw tl tc ts tv sn sK sA sB sC sL gn gp gh ls H locs htn0 htn1 hto hsl hj hm hl hP hD hS kk
    exact absurd hm (Nat.not_lt_zero _)
  | succ n ih =>
    intro j tn to ta tp tk tw tl tc ts tv sn sK sA sB sC sL gn gp gh ls H locs htn0 htn1 hto hsl hj hm hl hP hD hS kk
    refine lv_iload hx hb dLa_layLine_22 (lv_at hl 4 rfl) ?_
    refine lv_iload_n hx hb dLa_layLine_24 rfl (lv_at hl 3 rfl) ?_
    refine lv_icmp_ge (tgt := 86) hx hb dLa_layLine_25 (by decide) (fun h1 => ?_) (fun h1 => ?_)
    · have e9 : LLa_layLine_22 (n + 1) xl to tw ts tv sK sA sB sC sL v w j tl tc tn tp ta tk gh = (j, tl, tc, tn, tp, ta, tk, gh) := by simp only [LLa_layLine_22, if_pos h1]
      rw [e9] at kk
      exact kk ls H locs htn0 htn1 (lv_sub hl [0, 1, 2, 3, 4] rfl) hP hD hS
    · refine lv_aload_n hx hb dLa_layLine_28 rfl (lv_at hl 0 rfl) ?_
      refine pq_calli (fr := (FLa_isPoolDue tn to ta tl)) (wc := (wL ad cI cS tn to ta tp tk tw tl tc ts tv sn sK sA sB sC sL gn gp gh)) (wr := ([] : List Nat).filterMap (fun i => (wL ad cI cS tn to ta tp tk tw tl tc ts tv sn sK sA sB sC sL gn gp gh)[i]?)) hP hD hS hA [0, 1, 2, 3, 4, 5, 6, 7, 8, 9, 10, 11, 12] [] rfl rfl (by decide) (by decide) (va_runV (own := RLa) (C := RLa) (As := []) (rest := []) ⟨hx, hb, hml, hown, hw⟩ (k_La_isPoolDue l D ad cI cS tn to ta tp tk tw tl tc ts tv sn sK sA sB sC sL gn gp gh htn0 htn1 hto H.size) ⟨pq_cwB 0 hw wd_139 wd_108 wd_138 rfl rfl (by decide +kernel) ⟨Nat.le_trans (by decide) hR.1, Nat.le_trans (by decide) hR.2⟩, hw _ wd_140, hw _ wd_141⟩ (pq_preV (ci := 1) (C := RLa) (T := TLa) (N := 12) hE (hP.sub [0, 1, 2, 3, 4, 5, 6, 7, 8, 9, 10, 11, 12] rfl) (hD.sub [0, 1, 2, 3, 4, 5, 6, 7, 8, 9, 10, 11, 12] (by decide) rfl) rfl 0 rfl) rfl rfl hl.1 rfl (lv_room (Nat.le_of_ble_eq_true rfl)) dLa_layLine_29 ⟨Nat.zero_le _, Nat.zero_le _⟩) (fun H locs hP hD hS => ?_)
      have hP : va_P D vwCl (wL ad cI cS tn to ta tp tk tw tl tc ts tv sn sK sA sB sC sL gn gp gh) H := hP.sub [0, 1, 2, 3, 4, 5, 6, 7, 8, 9, 10, 11, 12] rfl
      have hD : va_D _ (wL ad cI cS tn to ta tp tk tw tl tc ts tv sn sK sA sB sC sL gn gp gh) := hD.sub [0, 1, 2, 3, 4, 5, 6, 7, 8, 9, 10, 11, 12] (by decide) rfl
      refine lv_if_eq (tgt := 40) hx hb dLa_layLine_32 (by decide) (fun h2 => ?_) (fun h2 => ?_)
      · refine lv_iload hx hb dLa_layLine_40 (lv_at hl 4 rfl) ?_
        refine lv_if_ne (tgt := 55) hx hb dLa_layLine_42 (by decide) (fun h3 => ?_) (fun h3 => ?_)
        · refine lv_aload_n hx hb dLa_layLine_55 rfl (lv_at hl 0 rfl) ?_
          refine lv_aload_n hx hb dLa_layLine_56 rfl (lv_at hl 0 rfl) ?_
          refine va_get (D := D) (ci := 1) (v := .int tw) (C := RLa) (T := TLa) (N := 12) hx hb hw pinLa hown hE.1 hP 0 rfl rfl 11 (by decide) (hw _ wd_94) (fun _ h9 => h9) rfl dLa_layLine_57 ?_
          refine lv_if_eq (tgt := 71) hx hb dLa_layLine_60 (by decide) (fun h4 => ?_) (fun h4 => ?_)
          · refine lv_iconst (v := 0) hx hb dLa_layLine_71 (by first | rfl | decide) ?_
            refine pq_callv (wc := (wL ad cI cS tn to ta tp tk tw tl tc ts tv sn sK sA sB sC sL gn gp gh)) (wr := ([] : List Nat).filterMap (fun i => (wL ad cI cS tn to ta tp tk tw tl tc ts tv sn sK sA sB sC sL gn gp gh)[i]?)) hP hD hS hA [0, 1, 2, 3, 4, 5, 6, 7, 8, 9, 10, 11, 12] [] rfl rfl (by decide) (by decide) (va_runV (own := RLa) (C := RLa) (As := [.int 0]) (rest := []) ⟨hx, hb, hml, hown, hw⟩ (k_La_putHalf l D ad cI cS 0 tn to ta tp tk tw tl tc ts tv sn sK sA sB sC sL gn gp gh H.size) ⟨pq_cwB 1 hw wd_133 wd_108 wd_132 rfl rfl (by decide +kernel) ⟨Nat.le_trans (by decide) hR.1, Nat.le_trans (by decide) hR.2⟩, hw _ wd_134, hw _ wd_135⟩ (pq_preV (ci := 1) (C := RLa) (T := TLa) (N := 12) hE (hP.sub [0, 1, 2, 3, 4, 5, 6, 7, 8, 9, 10, 11, 12] rfl) (hD.sub [0, 1, 2, 3, 4, 5, 6, 7, 8, 9, 10, 11, 12] (by decide) rfl) rfl 0 rfl) rfl rfl hl.1 rfl (lv_room (Nat.le_of_ble_eq_true rfl)) dLa_layLine_72 ⟨Nat.zero_le _, Nat.zero_le _⟩) (fun _ H locs hP hD hS => ?_)
            have hP : va_P D vwCl (wL ad cI cS tn to ((FLa_putHalf 0 ta tw gh).1) tp tk tw tl tc ts tv sn sK sA sB sC sL gn gp ((FLa_putHalf 0 ta tw gh).2)) H := hP.sub [0, 1, 2, 3, 4, 5, 6, 7, 8, 9, 10, 11, 12] rfl
            have hD : va_D _ (wL ad cI cS tn to ((FLa_putHalf 0 ta tw gh).1) tp tk tw tl tc ts tv sn sK sA sB sC sL gn gp ((FLa_putHalf 0 ta tw gh).2)) := hD.sub [0, 1, 2, 3, 4, 5, 6, 7, 8, 9, 10, 11, 12] (by decide) rfl
            refine lv_aload_n hx hb dLa_layLine_75 rfl (lv_at hl 0 rfl) ?_
            refine lv_iload_n hx hb dLa_layLine_76 rfl (lv_at hl 2 rfl) ?_
            refine va_put (D := D) (ci := 1) (v := .int v) (ty := .int) (C := RLa) (T := TLa) (N := 12) hx hb hw pinLa tyLa tyLa_ok nmLa hown hE.1 hP hD hS 0 rfl rfl 10 (by decide) (hw _ wd_136) (fun _ h9 => h9) rfl (by decide +kernel) rfl rfl (Nat.le_of_ble_eq_true rfl) dLa_layLine_77 (fun H locs hP hD hS => ?_)
            have hP : va_P D vwCl (wL ad cI cS tn to ((FLa_putHalf 0 ta tw gh).1) tp v tw tl tc ts tv sn sK sA sB sC sL gn gp ((FLa_putHalf 0 ta tw gh).2)) H := hP
            have hD : va_D _ (wL ad cI cS tn to ((FLa_putHalf 0 ta tw gh).1) tp v tw tl tc ts tv sn sK sA sB sC sL gn gp ((FLa_putHalf 0 ta tw gh).2)) := hD
            refine lv_iinc (k := 4) (v := (nI j) + 1) (lv' := [(4, .int ((nI j) + 1)), (0, .ref (ad 3)), (1, .int xl), (2, .int v), (3, .int w)]) hx hb dLa_layLine_80 hl rfl (by first | rfl | decide) (by decide) rfl (fun ls hl => ?_)
            refine lv_goto (tgt := 22) hx hb dLa_layLine_83 (by decide) ?_
            have e9 : LLa_layLine_22 (n + 1) xl to tw ts tv sK sA sB sC sL v w j tl tc tn tp ta tk gh = LLa_layLine_22 n xl to tw ts tv sK sA sB sC sL v w (j + 1) tl tc tn tp ((FLa_putHalf 0 ta tw gh).1) v ((FLa_putHalf 0 ta tw gh).2) := by simp only [LLa_layLine_22, if_neg h1, if_pos h2, if_neg h3, if_pos h4]
            rw [e9] at kk
            rw [nI_1] at hl
            exact ih (j + 1) tn to ((FLa_putHalf 0 ta tw gh).1) tp v tw tl tc ts tv sn sK sA sB sC sL gn gp ((FLa_putHalf 0 ta tw gh).2) ls H locs htn0 htn1 hto hsl (by have := pq_up (j := j) hj (by assumption); have := Int32.toInt_lt w; omega) (by have := pq_up (j := j) hj (by assumption); omega) (lv_sub hl [1, 2, 3, 4, 0] rfl) hP hD hS kk
          · refine lv_aload_n hx hb dLa_layLine_63 rfl (lv_at hl 0 rfl) ?_
            refine lv_iload_n hx hb dLa_layLine_64 rfl (lv_at hl 1 rfl) ?_
            refine pq_calli (fr := (FLa_halfOf xl tl tc sK sA sB sC sL)) (wc := (wL ad cI cS tn to ta tp tk tw tl tc ts tv sn sK sA sB sC sL gn gp gh)) (wr := ([] : List Nat).filterMap (fun i => (wL ad cI cS tn to ta tp tk tw tl tc ts tv sn sK sA sB sC sL gn gp gh)[i]?)) hP hD hS hA [0, 1, 2, 3, 4, 5, 6, 7, 8, 9, 10, 11, 12] [] rfl rfl (by decide) (by decide) (va_runV (own := RLa) (C := RLa) (As := [.int xl]) (rest := [.ref (ad 3)]) ⟨hx, hb, hml, hown, hw⟩ (k_La_halfOf l D ad cI cS xl tn to ta tp tk tw tl tc ts tv sn sK sA sB sC sL gn gp gh hxl hsl H.size) ⟨pq_cwB 1 hw wd_143 wd_108 wd_142 rfl rfl (by decide +kernel) ⟨Nat.le_trans (by decide) hR.1, Nat.le_trans (by decide) hR.2⟩, hw _ wd_144, hw _ wd_145⟩ (pq_preV (ci := 1) (C := RLa) (T := TLa) (N := 12) hE (hP.sub [0, 1, 2, 3, 4, 5, 6, 7, 8, 9, 10, 11, 12] rfl) (hD.sub [0, 1, 2, 3, 4, 5, 6, 7, 8, 9, 10, 11, 12] (by decide) rfl) rfl 0 rfl) rfl rfl hl.1 rfl (lv_room (Nat.le_of_ble_eq_true rfl)) dLa_layLine_65 ⟨Nat.zero_le _, Nat.zero_le _⟩) (fun H locs hP hD hS => ?_)
            have hP : va_P D vwCl (wL ad cI cS tn to ta tp tk tw tl tc ts tv sn sK sA sB sC sL gn gp gh) H := hP.sub [0, 1, 2, 3, 4, 5, 6, 7, 8, 9, 10, 11, 12] rfl
            have hD : va_D _ (wL ad cI cS tn to ta tp tk tw tl tc ts tv sn sK sA sB sC sL gn gp gh) := hD.sub [0, 1, 2, 3, 4, 5, 6, 7, 8, 9, 10, 11, 12] (by decide) rfl
            refine lv_goto (tgt := 72) hx hb dLa_layLine_68 (by decide) ?_
            refine pq_callv (wc := (wL ad cI cS tn to ta tp tk tw tl tc ts tv sn sK sA sB sC sL gn gp gh)) (wr := ([] : List Nat).filterMap (fun i => (wL ad cI cS tn to ta tp tk tw tl tc ts tv sn sK sA sB sC sL gn gp gh)[i]?)) hP hD hS hA [0, 1, 2, 3, 4, 5, 6, 7, 8, 9, 10, 11, 12] [] rfl rfl (by decide) (by decide) (va_runV (own := RLa) (C := RLa) (As := [.int (FLa_halfOf xl tl tc sK sA sB sC sL)]) (rest := []) ⟨hx, hb, hml, hown, hw⟩ (k_La_putHalf l D ad cI cS (FLa_halfOf xl tl tc sK sA sB sC sL) tn to ta tp tk tw tl tc ts tv sn sK sA sB sC sL gn gp gh H.size) ⟨pq_cwB 1 hw wd_133 wd_108 wd_132 rfl rfl (by decide +kernel) ⟨Nat.le_trans (by decide) hR.1, Nat.le_trans (by decide) hR.2⟩, hw _ wd_134, hw _ wd_135⟩ (pq_preV (ci := 1) (C := RLa) (T := TLa) (N := 12) hE (hP.sub [0, 1, 2, 3, 4, 5, 6, 7, 8, 9, 10, 11, 12] rfl) (hD.sub [0, 1, 2, 3, 4, 5, 6, 7, 8, 9, 10, 11, 12] (by decide) rfl) rfl 0 rfl) rfl rfl hl.1 rfl (lv_room (Nat.le_of_ble_eq_true rfl)) dLa_layLine_72 ⟨Nat.zero_le _, Nat.zero_le _⟩) (fun _ H locs hP hD hS => ?_)
            have hP : va_P D vwCl (wL ad cI cS tn to ((FLa_putHalf (FLa_halfOf xl tl tc sK sA sB sC sL) ta tw gh).1) tp tk tw tl tc ts tv sn sK sA sB sC sL gn gp ((FLa_putHalf (FLa_halfOf xl tl tc sK sA sB sC sL) ta tw gh).2)) H := hP.sub [0, 1, 2, 3, 4, 5, 6, 7, 8, 9, 10, 11, 12] rfl
            have hD : va_D _ (wL ad cI cS tn to ((FLa_putHalf (FLa_halfOf xl tl tc sK sA sB sC sL) ta tw gh).1) tp tk tw tl tc ts tv sn sK sA sB sC sL gn gp ((FLa_putHalf (FLa_halfOf xl tl tc sK sA sB sC sL) ta tw gh).2)) := hD.sub [0, 1, 2, 3, 4, 5, 6, 7, 8, 9, 10, 11, 12] (by decide) rfl
            refine lv_aload_n hx hb dLa_layLine_75 rfl (lv_at hl 0 rfl) ?_
            refine lv_iload_n hx hb dLa_layLine_76 rfl (lv_at hl 2 rfl) ?_
            refine va_put (D := D) (ci := 1) (v := .int v) (ty := .int) (C := RLa) (T := TLa) (N := 12) hx hb hw pinLa tyLa tyLa_ok nmLa hown hE.1 hP hD hS 0 rfl rfl 10 (by decide) (hw _ wd_136) (fun _ h9 => h9) rfl (by decide +kernel) rfl rfl (Nat.le_of_ble_eq_true rfl) dLa_layLine_77 (fun H locs hP hD hS => ?_)
            have hP : va_P D vwCl (wL ad cI cS tn to ((FLa_putHalf (FLa_halfOf xl tl tc sK sA sB sC sL) ta tw gh).1) tp v tw tl tc ts tv sn sK sA sB sC sL gn gp ((FLa_putHalf (FLa_halfOf xl tl tc sK sA sB sC sL) ta tw gh).2)) H := hP
            have hD : va_D _ (wL ad cI cS tn to ((FLa_putHalf (FLa_halfOf xl tl tc sK sA sB sC sL) ta tw gh).1) tp v tw tl tc ts tv sn sK sA sB sC sL gn gp ((FLa_putHalf (FLa_halfOf xl tl tc sK sA sB sC sL) ta tw gh).2)) := hD
            refine lv_iinc (k := 4) (v := (nI j) + 1) (lv' := [(4, .int ((nI j) + 1)), (0, .ref (ad 3)), (1, .int xl), (2, .int v), (3, .int w)]) hx hb dLa_layLine_80 hl rfl (by first | rfl | decide) (by decide) rfl (fun ls hl => ?_)
            refine lv_goto (tgt := 22) hx hb dLa_layLine_83 (by decide) ?_
            have e9 : LLa_layLine_22 (n + 1) xl to tw ts tv sK sA sB sC sL v w j tl tc tn tp ta tk gh = LLa_layLine_22 n xl to tw ts tv sK sA sB sC sL v w (j + 1) tl tc tn tp ((FLa_putHalf (FLa_halfOf xl tl tc sK sA sB sC sL) ta tw gh).1) v ((FLa_putHalf (FLa_halfOf xl tl tc sK sA sB sC sL) ta tw gh).2) := by simp only [LLa_layLine_22, if_neg h1, if_pos h2, if_neg h3, if_neg h4]
            rw [e9] at kk
            rw [nI_1] at hl
            exact ih (j + 1) tn to ((FLa_putHalf (FLa_halfOf xl tl tc sK sA sB sC sL) ta tw gh).1) tp v tw tl tc ts tv sn sK sA sB sC sL gn gp ((FLa_putHalf (FLa_halfOf xl tl tc sK sA sB sC sL) ta tw gh).2) ls H locs htn0 htn1 hto hsl (by have := pq_up (j := j) hj (by assumption); have := Int32.toInt_lt w; omega) (by have := pq_up (j := j) hj (by assumption); omega) (lv_sub hl [1, 2, 3, 4, 0] rfl) hP hD hS kk
        · refine lv_aload_n hx hb dLa_layLine_45 rfl (lv_at hl 0 rfl) ?_
          refine va_get (D := D) (ci := 1) (v := .ref (ad 11)) (C := RLa) (T := TLa) (N := 12) hx hb hw pinLa hown hE.1 hP 0 rfl rfl 2 (by decide) (hw _ wd_106) (fun _ h9 => h9) rfl dLa_layLine_46 ?_
          refine lv_iload_n hx hb dLa_layLine_49 rfl (lv_at hl 1 rfl) ?_
          refine lv_aload_n hx hb dLa_layLine_50 rfl (lv_at hl 0 rfl) ?_
          refine va_get (D := D) (ci := 1) (v := .int ta) (C := RLa) (T := TLa) (N := 12) hx hb hw pinLa hown hE.1 hP 0 rfl rfl 8 (by decide) (hw _ wd_95) (fun _ h9 => h9) rfl dLa_layLine_51 ?_
          refine va_iast hx hb hE.1 hP hD hS 1 0 rfl rfl hxl dLa_layLine_54 (fun H locs hP hD hS => ?_)
          have hP : va_P D vwCl (wL ad cI cS tn to ta tp tk tw (upd tl xl.toNatClampNeg ta) tc ts tv sn sK sA sB sC sL gn gp gh) H := hP
          have hD : va_D _ (wL ad cI cS tn to ta tp tk tw (upd tl xl.toNatClampNeg ta) tc ts tv sn sK sA sB sC sL gn gp gh) := hD
          refine lv_aload_n hx hb dLa_layLine_55 rfl (lv_at hl 0 rfl) ?_
          refine lv_aload_n hx hb dLa_layLine_56 rfl (lv_at hl 0 rfl) ?_
          refine va_get (D := D) (ci := 1) (v := .int tw) (C := RLa) (T := TLa) (N := 12) hx hb hw pinLa hown hE.1 hP 0 rfl rfl 11 (by decide) (hw _ wd_94) (fun _ h9 => h9) rfl dLa_layLine_57 ?_
          refine lv_if_eq (tgt := 71) hx hb dLa_layLine_60 (by decide) (fun h5 => ?_) (fun h5 => ?_)
          · refine lv_iconst (v := 0) hx hb dLa_layLine_71 (by first | rfl | decide) ?_
            refine pq_callv (wc := (wL ad cI cS tn to ta tp tk tw (upd tl xl.toNatClampNeg ta) tc ts tv sn sK sA sB sC sL gn gp gh)) (wr := ([] : List Nat).filterMap (fun i => (wL ad cI cS tn to ta tp tk tw (upd tl xl.toNatClampNeg ta) tc ts tv sn sK sA sB sC sL gn gp gh)[i]?)) hP hD hS hA [0, 1, 2, 3, 4, 5, 6, 7, 8, 9, 10, 11, 12] [] rfl rfl (by decide) (by decide) (va_runV (own := RLa) (C := RLa) (As := [.int 0]) (rest := []) ⟨hx, hb, hml, hown, hw⟩ (k_La_putHalf l D ad cI cS 0 tn to ta tp tk tw (upd tl xl.toNatClampNeg ta) tc ts tv sn sK sA sB sC sL gn gp gh H.size) ⟨pq_cwB 1 hw wd_133 wd_108 wd_132 rfl rfl (by decide +kernel) ⟨Nat.le_trans (by decide) hR.1, Nat.le_trans (by decide) hR.2⟩, hw _ wd_134, hw _ wd_135⟩ (pq_preV (ci := 1) (C := RLa) (T := TLa) (N := 12) hE (hP.sub [0, 1, 2, 3, 4, 5, 6, 7, 8, 9, 10, 11, 12] rfl) (hD.sub [0, 1, 2, 3, 4, 5, 6, 7, 8, 9, 10, 11, 12] (by decide) rfl) rfl 0 rfl) rfl rfl hl.1 rfl (lv_room (Nat.le_of_ble_eq_true rfl)) dLa_layLine_72 ⟨Nat.zero_le _, Nat.zero_le _⟩) (fun _ H locs hP hD hS => ?_)
            have hP : va_P D vwCl (wL ad cI cS tn to ((FLa_putHalf 0 ta tw gh).1) tp tk tw (upd tl xl.toNatClampNeg ta) tc ts tv sn sK sA sB sC sL gn gp ((FLa_putHalf 0 ta tw gh).2)) H := hP.sub [0, 1, 2, 3, 4, 5, 6, 7, 8, 9, 10, 11, 12] rfl
            have hD : va_D _ (wL ad cI cS tn to ((FLa_putHalf 0 ta tw gh).1) tp tk tw (upd tl xl.toNatClampNeg ta) tc ts tv sn sK sA sB sC sL gn gp ((FLa_putHalf 0 ta tw gh).2)) := hD.sub [0, 1, 2, 3, 4, 5, 6, 7, 8, 9, 10, 11, 12] (by decide) rfl
            refine lv_aload_n hx hb dLa_layLine_75 rfl (lv_at hl 0 rfl) ?_
            refine lv_iload_n hx hb dLa_layLine_76 rfl (lv_at hl 2 rfl) ?_
            refine va_put (D := D) (ci := 1) (v := .int v) (ty := .int) (C := RLa) (T := TLa) (N := 12) hx hb hw pinLa tyLa tyLa_ok nmLa hown hE.1 hP hD hS 0 rfl rfl 10 (by decide) (hw _ wd_136) (fun _ h9 => h9) rfl (by decide +kernel) rfl rfl (Nat.le_of_ble_eq_true rfl) dLa_layLine_77 (fun H locs hP hD hS => ?_)
            have hP : va_P D vwCl (wL ad cI cS tn to ((FLa_putHalf 0 ta tw gh).1) tp v tw (upd tl xl.toNatClampNeg ta) tc ts tv sn sK sA sB sC sL gn gp ((FLa_putHalf 0 ta tw gh).2)) H := hP
            have hD : va_D _ (wL ad cI cS tn to ((FLa_putHalf 0 ta tw gh).1) tp v tw (upd tl xl.toNatClampNeg ta) tc ts tv sn sK sA sB sC sL gn gp ((FLa_putHalf 0 ta tw gh).2)) := hD
            refine lv_iinc (k := 4) (v := (nI j) + 1) (lv' := [(4, .int ((nI j) + 1)), (0, .ref (ad 3)), (1, .int xl), (2, .int v), (3, .int w)]) hx hb dLa_layLine_80 hl rfl (by first | rfl | decide) (by decide) rfl (fun ls hl => ?_)
            refine lv_goto (tgt := 22) hx hb dLa_layLine_83 (by decide) ?_
            have e9 : LLa_layLine_22 (n + 1) xl to tw ts tv sK sA sB sC sL v w j tl tc tn tp ta tk gh = LLa_layLine_22 n xl to tw ts tv sK sA sB sC sL v w (j + 1) (upd tl xl.toNatClampNeg ta) tc tn tp ((FLa_putHalf 0 ta tw gh).1) v ((FLa_putHalf 0 ta tw gh).2) := by simp only [LLa_layLine_22, if_neg h1, if_pos h2, if_pos h3, if_pos h5]
            rw [e9] at kk
            rw [nI_1] at hl
            exact ih (j + 1) tn to ((FLa_putHalf 0 ta tw gh).1) tp v tw (upd tl xl.toNatClampNeg ta) tc ts tv sn sK sA sB sC sL gn gp ((FLa_putHalf 0 ta tw gh).2) ls H locs htn0 htn1 hto hsl (by have := pq_up (j := j) hj (by assumption); have := Int32.toInt_lt w; omega) (by have := pq_up (j := j) hj (by assumption); omega) (lv_sub hl [1, 2, 3, 4, 0] rfl) hP hD hS kk
          · refine lv_aload_n hx hb dLa_layLine_63 rfl (lv_at hl 0 rfl) ?_
            refine lv_iload_n hx hb dLa_layLine_64 rfl (lv_at hl 1 rfl) ?_
            refine pq_calli (fr := (FLa_halfOf xl (upd tl xl.toNatClampNeg ta) tc sK sA sB sC sL)) (wc := (wL ad cI cS tn to ta tp tk tw (upd tl xl.toNatClampNeg ta) tc ts tv sn sK sA sB sC sL gn gp gh)) (wr := ([] : List Nat).filterMap (fun i => (wL ad cI cS tn to ta tp tk tw (upd tl xl.toNatClampNeg ta) tc ts tv sn sK sA sB sC sL gn gp gh)[i]?)) hP hD hS hA [0, 1, 2, 3, 4, 5, 6, 7, 8, 9, 10, 11, 12] [] rfl rfl (by decide) (by decide) (va_runV (own := RLa) (C := RLa) (As := [.int xl]) (rest := [.ref (ad 3)]) ⟨hx, hb, hml, hown, hw⟩ (k_La_halfOf l D ad cI cS xl tn to ta tp tk tw (upd tl xl.toNatClampNeg ta) tc ts tv sn sK sA sB sC sL gn gp gh hxl hsl H.size) ⟨pq_cwB 1 hw wd_143 wd_108 wd_142 rfl rfl (by decide +kernel) ⟨Nat.le_trans (by decide) hR.1, Nat.le_trans (by decide) hR.2⟩, hw _ wd_144, hw _ wd_145⟩ (pq_preV (ci := 1) (C := RLa) (T := TLa) (N := 12) hE (hP.sub [0, 1, 2, 3, 4, 5, 6, 7, 8, 9, 10, 11, 12] rfl) (hD.sub [0, 1, 2, 3, 4, 5, 6, 7, 8, 9, 10, 11, 12] (by decide) rfl) rfl 0 rfl) rfl rfl hl.1 rfl (lv_room (Nat.le_of_ble_eq_true rfl)) dLa_layLine_65 ⟨Nat.zero_le _, Nat.zero_le _⟩) (fun H locs hP hD hS => ?_)
            have hP : va_P D vwCl (wL ad cI cS tn to ta tp tk tw (upd tl xl.toNatClampNeg ta) tc ts tv sn sK sA sB sC sL gn gp gh) H := hP.sub [0, 1, 2, 3, 4, 5, 6, 7, 8, 9, 10, 11, 12] rfl
            have hD : va_D _ (wL ad cI cS tn to ta tp tk tw (upd tl xl.toNatClampNeg ta) tc ts tv sn sK sA sB sC sL gn gp gh) := hD.sub [0, 1, 2, 3, 4, 5, 6, 7, 8, 9, 10, 11, 12] (by decide) rfl
            refine lv_goto (tgt := 72) hx hb dLa_layLine_68 (by decide) ?_
            refine pq_callv (wc := (wL ad cI cS tn to ta tp tk tw (upd tl xl.toNatClampNeg ta) tc ts tv sn sK sA sB sC sL gn gp gh)) (wr := ([] : List Nat).filterMap (fun i => (wL ad cI cS tn to ta tp tk tw (upd tl xl.toNatClampNeg ta) tc ts tv sn sK sA sB sC sL gn gp gh)[i]?)) hP hD hS hA [0, 1, 2, 3, 4, 5, 6, 7, 8, 9, 10, 11, 12] [] rfl rfl (by decide) (by decide) (va_runV (own := RLa) (C := RLa) (As := [.int (FLa_halfOf xl (upd tl xl.toNatClampNeg ta) tc sK sA sB sC sL)]) (rest := []) ⟨hx, hb, hml, hown, hw⟩ (k_La_putHalf l D ad cI cS (FLa_halfOf xl (upd tl xl.toNatClampNeg ta) tc sK sA sB sC sL) tn to ta tp tk tw (upd tl xl.toNatClampNeg ta) tc ts tv sn sK sA sB sC sL gn gp gh H.size) ⟨pq_cwB 1 hw wd_133 wd_108 wd_132 rfl rfl (by decide +kernel) ⟨Nat.le_trans (by decide) hR.1, Nat.le_trans (by decide) hR.2⟩, hw _ wd_134, hw _ wd_135⟩ (pq_preV (ci := 1) (C := RLa) (T := TLa) (N := 12) hE (hP.sub [0, 1, 2, 3, 4, 5, 6, 7, 8, 9, 10, 11, 12] rfl) (hD.sub [0, 1, 2, 3, 4, 5, 6, 7, 8, 9, 10, 11, 12] (by decide) rfl) rfl 0 rfl) rfl rfl hl.1 rfl (lv_room (Nat.le_of_ble_eq_true rfl)) dLa_layLine_72 ⟨Nat.zero_le _, Nat.zero_le _⟩) (fun _ H locs hP hD hS => ?_)
            have hP : va_P D vwCl (wL ad cI cS tn to ((FLa_putHalf (FLa_halfOf xl (upd tl xl.toNatClampNeg ta) tc sK sA sB sC sL) ta tw gh).1) tp tk tw (upd tl xl.toNatClampNeg ta) tc ts tv sn sK sA sB sC sL gn gp ((FLa_putHalf (FLa_halfOf xl (upd tl xl.toNatClampNeg ta) tc sK sA sB sC sL) ta tw gh).2)) H := hP.sub [0, 1, 2, 3, 4, 5, 6, 7, 8, 9, 10, 11, 12] rfl
            have hD : va_D _ (wL ad cI cS tn to ((FLa_putHalf (FLa_halfOf xl (upd tl xl.toNatClampNeg ta) tc sK sA sB sC sL) ta tw gh).1) tp tk tw (upd tl xl.toNatClampNeg ta) tc ts tv sn sK sA sB sC sL gn gp ((FLa_putHalf (FLa_halfOf xl (upd tl xl.toNatClampNeg ta) tc sK sA sB sC sL) ta tw gh).2)) := hD.sub [0, 1, 2, 3, 4, 5, 6, 7, 8, 9, 10, 11, 12] (by decide) rfl
            refine lv_aload_n hx hb dLa_layLine_75 rfl (lv_at hl 0 rfl) ?_
            refine lv_iload_n hx hb dLa_layLine_76 rfl (lv_at hl 2 rfl) ?_
            refine va_put (D := D) (ci := 1) (v := .int v) (ty := .int) (C := RLa) (T := TLa) (N := 12) hx hb hw pinLa tyLa tyLa_ok nmLa hown hE.1 hP hD hS 0 rfl rfl 10 (by decide) (hw _ wd_136) (fun _ h9 => h9) rfl (by decide +kernel) rfl rfl (Nat.le_of_ble_eq_true rfl) dLa_layLine_77 (fun H locs hP hD hS => ?_)
            have hP : va_P D vwCl (wL ad cI cS tn to ((FLa_putHalf (FLa_halfOf xl (upd tl xl.toNatClampNeg ta) tc sK sA sB sC sL) ta tw gh).1) tp v tw (upd tl xl.toNatClampNeg ta) tc ts tv sn sK sA sB sC sL gn gp ((FLa_putHalf (FLa_halfOf xl (upd tl xl.toNatClampNeg ta) tc sK sA sB sC sL) ta tw gh).2)) H := hP
            have hD : va_D _ (wL ad cI cS tn to ((FLa_putHalf (FLa_halfOf xl (upd tl xl.toNatClampNeg ta) tc sK sA sB sC sL) ta tw gh).1) tp v tw (upd tl xl.toNatClampNeg ta) tc ts tv sn sK sA sB sC sL gn gp ((FLa_putHalf (FLa_halfOf xl (upd tl xl.toNatClampNeg ta) tc sK sA sB sC sL) ta tw gh).2)) := hD
            refine lv_iinc (k := 4) (v := (nI j) + 1) (lv' := [(4, .int ((nI j) + 1)), (0, .ref (ad 3)), (1, .int xl), (2, .int v), (3, .int w)]) hx hb dLa_layLine_80 hl rfl (by first | rfl | decide) (by decide) rfl (fun ls hl => ?_)
            refine lv_goto (tgt := 22) hx hb dLa_layLine_83 (by decide) ?_
            have e9 : LLa_layLine_22 (n + 1) xl to tw ts tv sK sA sB sC sL v w j tl tc tn tp ta tk gh = LLa_layLine_22 n xl to tw ts tv sK sA sB sC sL v w (j + 1) (upd tl xl.toNatClampNeg ta) tc tn tp ((FLa_putHalf (FLa_halfOf xl (upd tl xl.toNatClampNeg ta) tc sK sA sB sC sL) ta tw gh).1) v ((FLa_putHalf (FLa_halfOf xl (upd tl xl.toNatClampNeg ta) tc sK sA sB sC sL) ta tw gh).2) := by simp only [LLa_layLine_22, if_neg h1, if_pos h2, if_pos h3, if_neg h5]
            rw [e9] at kk
            rw [nI_1] at hl
            exact ih (j + 1) tn to ((FLa_putHalf (FLa_halfOf xl (upd tl xl.toNatClampNeg ta) tc sK sA sB sC sL) ta tw gh).1) tp v tw (upd tl xl.toNatClampNeg ta) tc ts tv sn sK sA sB sC sL gn gp ((FLa_putHalf (FLa_halfOf xl (upd tl xl.toNatClampNeg ta) tc sK sA sB sC sL) ta tw gh).2) ls H locs htn0 htn1 hto hsl (by have := pq_up (j := j) hj (by assumption); have := Int32.toInt_lt w; omega) (by have := pq_up (j := j) hj (by assumption); omega) (lv_sub hl [1, 2, 3, 4, 0] rfl) hP hD hS kk
      · refine lv_aload_n hx hb dLa_layLine_35 rfl (lv_at hl 0 rfl) ?_
        refine lv_iload_n hx hb dLa_layLine_36 rfl (lv_at hl 1 rfl) ?_
        obtain ⟨g1, hg1⟩ : ∃ g9, FLa_putPool xl tn to ta tp tk tw tc ts tv sK gh = g9 := ⟨_, rfl⟩
        have cg1 := k_La_putPool l D ad cI cS xl tn to ta tp tk tw tl tc ts tv sn sK sA sB sC sL gn gp gh htn0 htn1 hto (pq_in0 hxl) (pq_in1 hxl)
        rw [hg1] at cg1
        refine pq_callvp (wc := (wL ad cI cS tn to ta tp tk tw tl tc ts tv sn sK sA sB sC sL gn gp gh)) (wr := ([] : List Nat).filterMap (fun i => (wL ad cI cS tn to ta tp tk tw tl tc ts tv sn sK sA sB sC sL gn gp gh)[i]?)) hP hD hS hA [0, 1, 2, 3, 4, 5, 6, 7, 8, 9, 10, 11, 12] [] rfl rfl (by decide) (by decide) (va_runV (own := RLa) (C := RLa) (As := [.int xl]) (rest := []) ⟨hx, hb, hml, hown, hw⟩ (cg1 H.size) ⟨pq_cwB 1 hw wd_147 wd_108 wd_146 rfl rfl (by decide +kernel) ⟨Nat.le_trans (by decide) hR.1, Nat.le_trans (by decide) hR.2⟩, hw _ wd_148, hw _ wd_149⟩ (pq_preV (ci := 1) (C := RLa) (T := TLa) (N := 12) hE (hP.sub [0, 1, 2, 3, 4, 5, 6, 7, 8, 9, 10, 11, 12] rfl) (hD.sub [0, 1, 2, 3, 4, 5, 6, 7, 8, 9, 10, 11, 12] (by decide) rfl) rfl 0 rfl) rfl rfl hl.1 rfl (lv_room (Nat.le_of_ble_eq_true rfl)) dLa_layLine_37 ⟨Nat.zero_le _, Nat.zero_le _⟩) (fun hq9 H locs hP hD hS => ?_)
        obtain ⟨htn0, htn1⟩ := hq9
        have hP : va_P D vwCl (wL ad cI cS g1.2.2.2.1 to g1.1 g1.2.2.2.2 tk tw tl g1.2.2.1 ts tv sn sK sA sB sC sL gn gp g1.2.1) H := hP.sub [0, 1, 2, 3, 4, 5, 6, 7, 8, 9, 10, 11, 12] rfl
        have hD : va_D _ (wL ad cI cS g1.2.2.2.1 to g1.1 g1.2.2.2.2 tk tw tl g1.2.2.1 ts tv sn sK sA sB sC sL gn gp g1.2.1) := hD.sub [0, 1, 2, 3, 4, 5, 6, 7, 8, 9, 10, 11, 12] (by decide) rfl
        refine lv_iload hx hb dLa_layLine_40 (lv_at hl 4 rfl) ?_
        refine lv_if_ne (tgt := 55) hx hb dLa_layLine_42 (by decide) (fun h6 => ?_) (fun h6 => ?_)
        · refine lv_aload_n hx hb dLa_layLine_55 rfl (lv_at hl 0 rfl) ?_
          refine lv_aload_n hx hb dLa_layLine_56 rfl (lv_at hl 0 rfl) ?_
          refine va_get (D := D) (ci := 1) (v := .int tw) (C := RLa) (T := TLa) (N := 12) hx hb hw pinLa hown hE.1 hP 0 rfl rfl 11 (by decide) (hw _ wd_94) (fun _ h9 => h9) rfl dLa_layLine_57 ?_
          refine lv_if_eq (tgt := 71) hx hb dLa_layLine_60 (by decide) (fun h7 => ?_) (fun h7 => ?_)
          · refine lv_iconst (v := 0) hx hb dLa_layLine_71 (by first | rfl | decide) ?_
            refine pq_callv (wc := (wL ad cI cS g1.2.2.2.1 to g1.1 g1.2.2.2.2 tk tw tl g1.2.2.1 ts tv sn sK sA sB sC sL gn gp g1.2.1)) (wr := ([] : List Nat).filterMap (fun i => (wL ad cI cS g1.2.2.2.1 to g1.1 g1.2.2.2.2 tk tw tl g1.2.2.1 ts tv sn sK sA sB sC sL gn gp g1.2.1)[i]?)) hP hD hS hA [0, 1, 2, 3, 4, 5, 6, 7, 8, 9, 10, 11, 12] [] rfl rfl (by decide) (by decide) (va_runV (own := RLa) (C := RLa) (As := [.int 0]) (rest := []) ⟨hx, hb, hml, hown, hw⟩ (k_La_putHalf l D ad cI cS 0 g1.2.2.2.1 to g1.1 g1.2.2.2.2 tk tw tl g1.2.2.1 ts tv sn sK sA sB sC sL gn gp g1.2.1 H.size) ⟨pq_cwB 1 hw wd_133 wd_108 wd_132 rfl rfl (by decide +kernel) ⟨Nat.le_trans (by decide) hR.1, Nat.le_trans (by decide) hR.2⟩, hw _ wd_134, hw _ wd_135⟩ (pq_preV (ci := 1) (C := RLa) (T := TLa) (N := 12) hE (hP.sub [0, 1, 2, 3, 4, 5, 6, 7, 8, 9, 10, 11, 12] rfl) (hD.sub [0, 1, 2, 3, 4, 5, 6, 7, 8, 9, 10, 11, 12] (by decide) rfl) rfl 0 rfl) rfl rfl hl.1 rfl (lv_room (Nat.le_of_ble_eq_true rfl)) dLa_layLine_72 ⟨Nat.zero_le _, Nat.zero_le _⟩) (fun _ H locs hP hD hS => ?_)
            have hP : va_P D vwCl (wL ad cI cS g1.2.2.2.1 to ((FLa_putHalf 0 g1.1 tw g1.2.1).1) g1.2.2.2.2 tk tw tl g1.2.2.1 ts tv sn sK sA sB sC sL gn gp ((FLa_putHalf 0 g1.1 tw g1.2.1).2)) H := hP.sub [0, 1, 2, 3, 4, 5, 6, 7, 8, 9, 10, 11, 12] rfl
            have hD : va_D _ (wL ad cI cS g1.2.2.2.1 to ((FLa_putHalf 0 g1.1 tw g1.2.1).1) g1.2.2.2.2 tk tw tl g1.2.2.1 ts tv sn sK sA sB sC sL gn gp ((FLa_putHalf 0 g1.1 tw g1.2.1).2)) := hD.sub [0, 1, 2, 3, 4, 5, 6, 7, 8, 9, 10, 11, 12] (by decide) rfl
            refine lv_aload_n hx hb dLa_layLine_75 rfl (lv_at hl 0 rfl) ?_
            refine lv_iload_n hx hb dLa_layLine_76 rfl (lv_at hl 2 rfl) ?_
            refine va_put (D := D) (ci := 1) (v := .int v) (ty := .int) (C := RLa) (T := TLa) (N := 12) hx hb hw pinLa tyLa tyLa_ok nmLa hown hE.1 hP hD hS 0 rfl rfl 10 (by decide) (hw _ wd_136) (fun _ h9 => h9) rfl (by decide +kernel) rfl rfl (Nat.le_of_ble_eq_true rfl) dLa_layLine_77 (fun H locs hP hD hS => ?_)
            have hP : va_P D vwCl (wL ad cI cS g1.2.2.2.1 to ((FLa_putHalf 0 g1.1 tw g1.2.1).1) g1.2.2.2.2 v tw tl g1.2.2.1 ts tv sn sK sA sB sC sL gn gp ((FLa_putHalf 0 g1.1 tw g1.2.1).2)) H := hP
            have hD : va_D _ (wL ad cI cS g1.2.2.2.1 to ((FLa_putHalf 0 g1.1 tw g1.2.1).1) g1.2.2.2.2 v tw tl g1.2.2.1 ts tv sn sK sA sB sC sL gn gp ((FLa_putHalf 0 g1.1 tw g1.2.1).2)) := hD
            refine lv_iinc (k := 4) (v := (nI j) + 1) (lv' := [(4, .int ((nI j) + 1)), (0, .ref (ad 3)), (1, .int xl), (2, .int v), (3, .int w)]) hx hb dLa_layLine_80 hl rfl (by first | rfl | decide) (by decide) rfl (fun ls hl => ?_)
            refine lv_goto (tgt := 22) hx hb dLa_layLine_83 (by decide) ?_
            have e9 : LLa_layLine_22 (n + 1) xl to tw ts tv sK sA sB sC sL v w j tl tc tn tp ta tk gh = LLa_layLine_22 n xl to tw ts tv sK sA sB sC sL v w (j + 1) tl g1.2.2.1 g1.2.2.2.1 g1.2.2.2.2 ((FLa_putHalf 0 g1.1 tw g1.2.1).1) v ((FLa_putHalf 0 g1.1 tw g1.2.1).2) := by simp only [LLa_layLine_22, hg1, if_neg h1, if_neg h2, if_neg h6, if_pos h7]
            rw [e9] at kk
            rw [nI_1] at hl
            exact ih (j + 1) g1.2.2.2.1 to ((FLa_putHalf 0 g1.1 tw g1.2.1).1) g1.2.2.2.2 v tw tl g1.2.2.1 ts tv sn sK sA sB sC sL gn gp ((FLa_putHalf 0 g1.1 tw g1.2.1).2) ls H locs htn0 htn1 hto hsl (by have := pq_up (j := j) hj (by assumption); have := Int32.toInt_lt w; omega) (by have := pq_up (j := j) hj (by assumption); omega) (lv_sub hl [1, 2, 3, 4, 0] rfl) hP hD hS kk
          · refine lv_aload_n hx hb dLa_layLine_63 rfl (lv_at hl 0 rfl) ?_
            refine lv_iload_n hx hb dLa_layLine_64 rfl (lv_at hl 1 rfl) ?_
            refine pq_calli (fr := (FLa_halfOf xl tl g1.2.2.1 sK sA sB sC sL)) (wc := (wL ad cI cS g1.2.2.2.1 to g1.1 g1.2.2.2.2 tk tw tl g1.2.2.1 ts tv sn sK sA sB sC sL gn gp g1.2.1)) (wr := ([] : List Nat).filterMap (fun i => (wL ad cI cS g1.2.2.2.1 to g1.1 g1.2.2.2.2 tk tw tl g1.2.2.1 ts tv sn sK sA sB sC sL gn gp g1.2.1)[i]?)) hP hD hS hA [0, 1, 2, 3, 4, 5, 6, 7, 8, 9, 10, 11, 12] [] rfl rfl (by decide) (by decide) (va_runV (own := RLa) (C := RLa) (As := [.int xl]) (rest := [.ref (ad 3)]) ⟨hx, hb, hml, hown, hw⟩ (k_La_halfOf l D ad cI cS xl g1.2.2.2.1 to g1.1 g1.2.2.2.2 tk tw tl g1.2.2.1 ts tv sn sK sA sB sC sL gn gp g1.2.1 hxl hsl H.size) ⟨pq_cwB 1 hw wd_143 wd_108 wd_142 rfl rfl (by decide +kernel) ⟨Nat.le_trans (by decide) hR.1, Nat.le_trans (by decide) hR.2⟩, hw _ wd_144, hw _ wd_145⟩ (pq_preV (ci := 1) (C := RLa) (T := TLa) (N := 12) hE (hP.sub [0, 1, 2, 3, 4, 5, 6, 7, 8, 9, 10, 11, 12] rfl) (hD.sub [0, 1, 2, 3, 4, 5, 6, 7, 8, 9, 10, 11, 12] (by decide) rfl) rfl 0 rfl) rfl rfl hl.1 rfl (lv_room (Nat.le_of_ble_eq_true rfl)) dLa_layLine_65 ⟨Nat.zero_le _, Nat.zero_le _⟩) (fun H locs hP hD hS => ?_)
            have hP : va_P D vwCl (wL ad cI cS g1.2.2.2.1 to g1.1 g1.2.2.2.2 tk tw tl g1.2.2.1 ts tv sn sK sA sB sC sL gn gp g1.2.1) H := hP.sub [0, 1, 2, 3, 4, 5, 6, 7, 8, 9, 10, 11, 12] rfl
            have hD : va_D _ (wL ad cI cS g1.2.2.2.1 to g1.1 g1.2.2.2.2 tk tw tl g1.2.2.1 ts tv sn sK sA sB sC sL gn gp g1.2.1) := hD.sub [0, 1, 2, 3, 4, 5, 6, 7, 8, 9, 10, 11, 12] (by decide) rfl
            refine lv_goto (tgt := 72) hx hb dLa_layLine_68 (by decide) ?_
            refine pq_callv (wc := (wL ad cI cS g1.2.2.2.1 to g1.1 g1.2.2.2.2 tk tw tl g1.2.2.1 ts tv sn sK sA sB sC sL gn gp g1.2.1)) (wr := ([] : List Nat).filterMap (fun i => (wL ad cI cS g1.2.2.2.1 to g1.1 g1.2.2.2.2 tk tw tl g1.2.2.1 ts tv sn sK sA sB sC sL gn gp g1.2.1)[i]?)) hP hD hS hA [0, 1, 2, 3, 4, 5, 6, 7, 8, 9, 10, 11, 12] [] rfl rfl (by decide) (by decide) (va_runV (own := RLa) (C := RLa) (As := [.int (FLa_halfOf xl tl g1.2.2.1 sK sA sB sC sL)]) (rest := []) ⟨hx, hb, hml, hown, hw⟩ (k_La_putHalf l D ad cI cS (FLa_halfOf xl tl g1.2.2.1 sK sA sB sC sL) g1.2.2.2.1 to g1.1 g1.2.2.2.2 tk tw tl g1.2.2.1 ts tv sn sK sA sB sC sL gn gp g1.2.1 H.size) ⟨pq_cwB 1 hw wd_133 wd_108 wd_132 rfl rfl (by decide +kernel) ⟨Nat.le_trans (by decide) hR.1, Nat.le_trans (by decide) hR.2⟩, hw _ wd_134, hw _ wd_135⟩ (pq_preV (ci := 1) (C := RLa) (T := TLa) (N := 12) hE (hP.sub [0, 1, 2, 3, 4, 5, 6, 7, 8, 9, 10, 11, 12] rfl) (hD.sub [0, 1, 2, 3, 4, 5, 6, 7, 8, 9, 10, 11, 12] (by decide) rfl) rfl 0 rfl) rfl rfl hl.1 rfl (lv_room (Nat.le_of_ble_eq_true rfl)) dLa_layLine_72 ⟨Nat.zero_le _, Nat.zero_le _⟩) (fun _ H locs hP hD hS => ?_)
            have hP : va_P D vwCl (wL ad cI cS g1.2.2.2.1 to ((FLa_putHalf (FLa_halfOf xl tl g1.2.2.1 sK sA sB sC sL) g1.1 tw g1.2.1).1) g1.2.2.2.2 tk tw tl g1.2.2.1 ts tv sn sK sA sB sC sL gn gp ((FLa_putHalf (FLa_halfOf xl tl g1.2.2.1 sK sA sB sC sL) g1.1 tw g1.2.1).2)) H := hP.sub [0, 1, 2, 3, 4, 5, 6, 7, 8, 9, 10, 11, 12] rfl
            have hD : va_D _ (wL ad cI cS g1.2.2.2.1 to ((FLa_putHalf (FLa_halfOf xl tl g1.2.2.1 sK sA sB sC sL) g1.1 tw g1.2.1).1) g1.2.2.2.2 tk tw tl g1.2.2.1 ts tv sn sK sA sB sC sL gn gp ((FLa_putHalf (FLa_halfOf xl tl g1.2.2.1 sK sA sB sC sL) g1.1 tw g1.2.1).2)) := hD.sub [0, 1, 2, 3, 4, 5, 6, 7, 8, 9, 10, 11, 12] (by decide) rfl
            refine lv_aload_n hx hb dLa_layLine_75 rfl (lv_at hl 0 rfl) ?_
            refine lv_iload_n hx hb dLa_layLine_76 rfl (lv_at hl 2 rfl) ?_
            refine va_put (D := D) (ci := 1) (v := .int v) (ty := .int) (C := RLa) (T := TLa) (N := 12) hx hb hw pinLa tyLa tyLa_ok nmLa hown hE.1 hP hD hS 0 rfl rfl 10 (by decide) (hw _ wd_136) (fun _ h9 => h9) rfl (by decide +kernel) rfl rfl (Nat.le_of_ble_eq_true rfl) dLa_layLine_77 (fun H locs hP hD hS => ?_)
            have hP : va_P D vwCl (wL ad cI cS g1.2.2.2.1 to ((FLa_putHalf (FLa_halfOf xl tl g1.2.2.1 sK sA sB sC sL) g1.1 tw g1.2.1).1) g1.2.2.2.2 v tw tl g1.2.2.1 ts tv sn sK sA sB sC sL gn gp ((FLa_putHalf (FLa_halfOf xl tl g1.2.2.1 sK sA sB sC sL) g1.1 tw g1.2.1).2)) H := hP
            have hD : va_D _ (wL ad cI cS g1.2.2.2.1 to ((FLa_putHalf (FLa_halfOf xl tl g1.2.2.1 sK sA sB sC sL) g1.1 tw g1.2.1).1) g1.2.2.2.2 v tw tl g1.2.2.1 ts tv sn sK sA sB sC sL gn gp ((FLa_putHalf (FLa_halfOf xl tl g1.2.2.1 sK sA sB sC sL) g1.1 tw g1.2.1).2)) := hD
            refine lv_iinc (k := 4) (v := (nI j) + 1) (lv' := [(4, .int ((nI j) + 1)), (0, .ref (ad 3)), (1, .int xl), (2, .int v), (3, .int w)]) hx hb dLa_layLine_80 hl rfl (by first | rfl | decide) (by decide) rfl (fun ls hl => ?_)
            refine lv_goto (tgt := 22) hx hb dLa_layLine_83 (by decide) ?_
            have e9 : LLa_layLine_22 (n + 1) xl to tw ts tv sK sA sB sC sL v w j tl tc tn tp ta tk gh = LLa_layLine_22 n xl to tw ts tv sK sA sB sC sL v w (j + 1) tl g1.2.2.1 g1.2.2.2.1 g1.2.2.2.2 ((FLa_putHalf (FLa_halfOf xl tl g1.2.2.1 sK sA sB sC sL) g1.1 tw g1.2.1).1) v ((FLa_putHalf (FLa_halfOf xl tl g1.2.2.1 sK sA sB sC sL) g1.1 tw g1.2.1).2) := by simp only [LLa_layLine_22, hg1, if_neg h1, if_neg h2, if_neg h6, if_neg h7]
            rw [e9] at kk
            rw [nI_1] at hl
            exact ih (j + 1) g1.2.2.2.1 to ((FLa_putHalf (FLa_halfOf xl tl g1.2.2.1 sK sA sB sC sL) g1.1 tw g1.2.1).1) g1.2.2.2.2 v tw tl g1.2.2.1 ts tv sn sK sA sB sC sL gn gp ((FLa_putHalf (FLa_halfOf xl tl g1.2.2.1 sK sA sB sC sL) g1.1 tw g1.2.1).2) ls H locs htn0 htn1 hto hsl (by have := pq_up (j := j) hj (by assumption); have := Int32.toInt_lt w; omega) (by have := pq_up (j := j) hj (by assumption); omega) (lv_sub hl [1, 2, 3, 4, 0] rfl) hP hD hS kk
        · refine lv_aload_n hx hb dLa_layLine_45 rfl (lv_at hl 0 rfl) ?_
          refine va_get (D := D) (ci := 1) (v := .ref (ad 11)) (C := RLa) (T := TLa) (N := 12) hx hb hw pinLa hown hE.1 hP 0 rfl rfl 2 (by decide) (hw _ wd_106) (fun _ h9 => h9) rfl dLa_layLine_46 ?_
          refine lv_iload_n hx hb dLa_layLine_49 rfl (lv_at hl 1 rfl) ?_
          refine lv_aload_n hx hb dLa_layLine_50 rfl (lv_at hl 0 rfl) ?_
          refine va_get (D := D) (ci := 1) (v := .int g1.1) (C := RLa) (T := TLa) (N := 12) hx hb hw pinLa hown hE.1 hP 0 rfl rfl 8 (by decide) (hw _ wd_95) (fun _ h9 => h9) rfl dLa_layLine_51 ?_
          refine va_iast hx hb hE.1 hP hD hS 1 0 rfl rfl hxl dLa_layLine_54 (fun H locs hP hD hS => ?_)
          have hP : va_P D vwCl (wL ad cI cS g1.2.2.2.1 to g1.1 g1.2.2.2.2 tk tw (upd tl xl.toNatClampNeg g1.1) g1.2.2.1 ts tv sn sK sA sB sC sL gn gp g1.2.1) H := hP
          have hD : va_D _ (wL ad cI cS g1.2.2.2.1 to g1.1 g1.2.2.2.2 tk tw (upd tl xl.toNatClampNeg g1.1) g1.2.2.1 ts tv sn sK sA sB sC sL gn gp g1.2.1) := hD
          refine lv_aload_n hx hb dLa_layLine_55 rfl (lv_at hl 0 rfl) ?_
          refine lv_aload_n hx hb dLa_layLine_56 rfl (lv_at hl 0 rfl) ?_
          refine va_get (D := D) (ci := 1) (v := .int tw) (C := RLa) (T := TLa) (N := 12) hx hb hw pinLa hown hE.1 hP 0 rfl rfl 11 (by decide) (hw _ wd_94) (fun _ h9 => h9) rfl dLa_layLine_57 ?_
          refine lv_if_eq (tgt := 71) hx hb dLa_layLine_60 (by decide) (fun h8 => ?_) (fun h8 => ?_)
          · refine lv_iconst (v := 0) hx hb dLa_layLine_71 (by first | rfl | decide) ?_
            refine pq_callv (wc := (wL ad cI cS g1.2.2.2.1 to g1.1 g1.2.2.2.2 tk tw (upd tl xl.toNatClampNeg g1.1) g1.2.2.1 ts tv sn sK sA sB sC sL gn gp g1.2.1)) (wr := ([] : List Nat).filterMap (fun i => (wL ad cI cS g1.2.2.2.1 to g1.1 g1.2.2.2.2 tk tw (upd tl xl.toNatClampNeg g1.1) g1.2.2.1 ts tv sn sK sA sB sC sL gn gp g1.2.1)[i]?)) hP hD hS hA [0, 1, 2, 3, 4, 5, 6, 7, 8, 9, 10, 11, 12] [] rfl rfl (by decide) (by decide) (va_runV (own := RLa) (C := RLa) (As := [.int 0]) (rest := []) ⟨hx, hb, hml, hown, hw⟩ (k_La_putHalf l D ad cI cS 0 g1.2.2.2.1 to g1.1 g1.2.2.2.2 tk tw (upd tl xl.toNatClampNeg g1.1) g1.2.2.1 ts tv sn sK sA sB sC sL gn gp g1.2.1 H.size) ⟨pq_cwB 1 hw wd_133 wd_108 wd_132 rfl rfl (by decide +kernel) ⟨Nat.le_trans (by decide) hR.1, Nat.le_trans (by decide) hR.2⟩, hw _ wd_134, hw _ wd_135⟩ (pq_preV (ci := 1) (C := RLa) (T := TLa) (N := 12) hE (hP.sub [0, 1, 2, 3, 4, 5, 6, 7, 8, 9, 10, 11, 12] rfl) (hD.sub [0, 1, 2, 3, 4, 5, 6, 7, 8, 9, 10, 11, 12] (by decide) rfl) rfl 0 rfl) rfl rfl hl.1 rfl (lv_room (Nat.le_of_ble_eq_true rfl)) dLa_layLine_72 ⟨Nat.zero_le _, Nat.zero_le _⟩) (fun _ H locs hP hD hS => ?_)
            have hP : va_P D vwCl (wL ad cI cS g1.2.2.2.1 to ((FLa_putHalf 0 g1.1 tw g1.2.1).1) g1.2.2.2.2 tk tw (upd tl xl.toNatClampNeg g1.1) g1.2.2.1 ts tv sn sK sA sB sC sL gn gp ((FLa_putHalf 0 g1.1 tw g1.2.1).2)) H := hP.sub [0, 1, 2, 3, 4, 5, 6, 7, 8, 9, 10, 11, 12] rfl
            have hD : va_D _ (wL ad cI cS g1.2.2.2.1 to ((FLa_putHalf 0 g1.1 tw g1.2.1).1) g1.2.2.2.2 tk tw (upd tl xl.toNatClampNeg g1.1) g1.2.2.1 ts tv sn sK sA sB sC sL gn gp ((FLa_putHalf 0 g1.1 tw g1.2.1).2)) := hD.sub [0, 1, 2, 3, 4, 5, 6, 7, 8, 9, 10, 11, 12] (by decide) rfl
            refine lv_aload_n hx hb dLa_layLine_75 rfl (lv_at hl 0 rfl) ?_
            refine lv_iload_n hx hb dLa_layLine_76 rfl (lv_at hl 2 rfl) ?_
            refine va_put (D := D) (ci := 1) (v := .int v) (ty := .int) (C := RLa) (T := TLa) (N := 12) hx hb hw pinLa tyLa tyLa_ok nmLa hown hE.1 hP hD hS 0 rfl rfl 10 (by decide) (hw _ wd_136) (fun _ h9 => h9) rfl (by decide +kernel) rfl rfl (Nat.le_of_ble_eq_true rfl) dLa_layLine_77 (fun H locs hP hD hS => ?_)
            have hP : va_P D vwCl (wL ad cI cS g1.2.2.2.1 to ((FLa_putHalf 0 g1.1 tw g1.2.1).1) g1.2.2.2.2 v tw (upd tl xl.toNatClampNeg g1.1) g1.2.2.1 ts tv sn sK sA sB sC sL gn gp ((FLa_putHalf 0 g1.1 tw g1.2.1).2)) H := hP
            have hD : va_D _ (wL ad cI cS g1.2.2.2.1 to ((FLa_putHalf 0 g1.1 tw g1.2.1).1) g1.2.2.2.2 v tw (upd tl xl.toNatClampNeg g1.1) g1.2.2.1 ts tv sn sK sA sB sC sL gn gp ((FLa_putHalf 0 g1.1 tw g1.2.1).2)) := hD
            refine lv_iinc (k := 4) (v := (nI j) + 1) (lv' := [(4, .int ((nI j) + 1)), (0, .ref (ad 3)), (1, .int xl), (2, .int v), (3, .int w)]) hx hb dLa_layLine_80 hl rfl (by first | rfl | decide) (by decide) rfl (fun ls hl => ?_)
            refine lv_goto (tgt := 22) hx hb dLa_layLine_83 (by decide) ?_
            have e9 : LLa_layLine_22 (n + 1) xl to tw ts tv sK sA sB sC sL v w j tl tc tn tp ta tk gh = LLa_layLine_22 n xl to tw ts tv sK sA sB sC sL v w (j + 1) (upd tl xl.toNatClampNeg g1.1) g1.2.2.1 g1.2.2.2.1 g1.2.2.2.2 ((FLa_putHalf 0 g1.1 tw g1.2.1).1) v ((FLa_putHalf 0 g1.1 tw g1.2.1).2) := by simp only [LLa_layLine_22, hg1, if_neg h1, if_neg h2, if_pos h6, if_pos h8]
            rw [e9] at kk
            rw [nI_1] at hl
            exact ih (j + 1) g1.2.2.2.1 to ((FLa_putHalf 0 g1.1 tw g1.2.1).1) g1.2.2.2.2 v tw (upd tl xl.toNatClampNeg g1.1) g1.2.2.1 ts tv sn sK sA sB sC sL gn gp ((FLa_putHalf 0 g1.1 tw g1.2.1).2) ls H locs htn0 htn1 hto hsl (by have := pq_up (j := j) hj (by assumption); have := Int32.toInt_lt w; omega) (by have := pq_up (j := j) hj (by assumption); omega) (lv_sub hl [1, 2, 3, 4, 0] rfl) hP hD hS kk
          · refine lv_aload_n hx hb dLa_layLine_63 rfl (lv_at hl 0 rfl) ?_
            refine lv_iload_n hx hb dLa_layLine_64 rfl (lv_at hl 1 rfl) ?_
            refine pq_calli (fr := (FLa_halfOf xl (upd tl xl.toNatClampNeg g1.1) g1.2.2.1 sK sA sB sC sL)) (wc := (wL ad cI cS g1.2.2.2.1 to g1.1 g1.2.2.2.2 tk tw (upd tl xl.toNatClampNeg g1.1) g1.2.2.1 ts tv sn sK sA sB sC sL gn gp g1.2.1)) (wr := ([] : List Nat).filterMap (fun i => (wL ad cI cS g1.2.2.2.1 to g1.1 g1.2.2.2.2 tk tw (upd tl xl.toNatClampNeg g1.1) g1.2.2.1 ts tv sn sK sA sB sC sL gn gp g1.2.1)[i]?)) hP hD hS hA [0, 1, 2, 3, 4, 5, 6, 7, 8, 9, 10, 11, 12] [] rfl rfl (by decide) (by decide) (va_runV (own := RLa) (C := RLa) (As := [.int xl]) (rest := [.ref (ad 3)]) ⟨hx, hb, hml, hown, hw⟩ (k_La_halfOf l D ad cI cS xl g1.2.2.2.1 to g1.1 g1.2.2.2.2 tk tw (upd tl xl.toNatClampNeg g1.1) g1.2.2.1 ts tv sn sK sA sB sC sL gn gp g1.2.1 hxl hsl H.size) ⟨pq_cwB 1 hw wd_143 wd_108 wd_142 rfl rfl (by decide +kernel) ⟨Nat.le_trans (by decide) hR.1, Nat.le_trans (by decide) hR.2⟩, hw _ wd_144, hw _ wd_145⟩ (pq_preV (ci := 1) (C := RLa) (T := TLa) (N := 12) hE (hP.sub [0, 1, 2, 3, 4, 5, 6, 7, 8, 9, 10, 11, 12] rfl) (hD.sub [0, 1, 2, 3, 4, 5, 6, 7, 8, 9, 10, 11, 12] (by decide) rfl) rfl 0 rfl) rfl rfl hl.1 rfl (lv_room (Nat.le_of_ble_eq_true rfl)) dLa_layLine_65 ⟨Nat.zero_le _, Nat.zero_le _⟩) (fun H locs hP hD hS => ?_)
            have hP : va_P D vwCl (wL ad cI cS g1.2.2.2.1 to g1.1 g1.2.2.2.2 tk tw (upd tl xl.toNatClampNeg g1.1) g1.2.2.1 ts tv sn sK sA sB sC sL gn gp g1.2.1) H := hP.sub [0, 1, 2, 3, 4, 5, 6, 7, 8, 9, 10, 11, 12] rfl
            have hD : va_D _ (wL ad cI cS g1.2.2.2.1 to g1.1 g1.2.2.2.2 tk tw (upd tl xl.toNatClampNeg g1.1) g1.2.2.1 ts tv sn sK sA sB sC sL gn gp g1.2.1) := hD.sub [0, 1, 2, 3, 4, 5, 6, 7, 8, 9, 10, 11, 12] (by decide) rfl
            refine lv_goto (tgt := 72) hx hb dLa_layLine_68 (by decide) ?_
            obtain ⟨g2, hg2⟩ : ∃ g9, FLa_putHalf (FLa_halfOf xl (upd tl xl.toNatClampNeg g1.1) g1.2.2.1 sK sA sB sC sL) g1.1 tw g1.2.1 = g9 := ⟨_, rfl⟩
            have cg2 := k_La_putHalf l D ad cI cS (FLa_halfOf xl (upd tl xl.toNatClampNeg g1.1) g1.2.2.1 sK sA sB sC sL) g1.2.2.2.1 to g1.1 g1.2.2.2.2 tk tw (upd tl xl.toNatClampNeg g1.1) g1.2.2.1 ts tv sn sK sA sB sC sL gn gp g1.2.1
            rw [hg2] at cg2
            refine pq_callv (wc := (wL ad cI cS g1.2.2.2.1 to g1.1 g1.2.2.2.2 tk tw (upd tl xl.toNatClampNeg g1.1) g1.2.2.1 ts tv sn sK sA sB sC sL gn gp g1.2.1)) (wr := ([] : List Nat).filterMap (fun i => (wL ad cI cS g1.2.2.2.1 to g1.1 g1.2.2.2.2 tk tw (upd tl xl.toNatClampNeg g1.1) g1.2.2.1 ts tv sn sK sA sB sC sL gn gp g1.2.1)[i]?)) hP hD hS hA [0, 1, 2, 3, 4, 5, 6, 7, 8, 9, 10, 11, 12] [] rfl rfl (by decide) (by decide) (va_runV (own := RLa) (C := RLa) (As := [.int (FLa_halfOf xl (upd tl xl.toNatClampNeg g1.1) g1.2.2.1 sK sA sB sC sL)]) (rest := []) ⟨hx, hb, hml, hown, hw⟩ (cg2 H.size) ⟨pq_cwB 1 hw wd_133 wd_108 wd_132 rfl rfl (by decide +kernel) ⟨Nat.le_trans (by decide) hR.1, Nat.le_trans (by decide) hR.2⟩, hw _ wd_134, hw _ wd_135⟩ (pq_preV (ci := 1) (C := RLa) (T := TLa) (N := 12) hE (hP.sub [0, 1, 2, 3, 4, 5, 6, 7, 8, 9, 10, 11, 12] rfl) (hD.sub [0, 1, 2, 3, 4, 5, 6, 7, 8, 9, 10, 11, 12] (by decide) rfl) rfl 0 rfl) rfl rfl hl.1 rfl (lv_room (Nat.le_of_ble_eq_true rfl)) dLa_layLine_72 ⟨Nat.zero_le _, Nat.zero_le _⟩) (fun _ H locs hP hD hS => ?_)
            have hP : va_P D vwCl (wL ad cI cS g1.2.2.2.1 to g2.1 g1.2.2.2.2 tk tw (upd tl xl.toNatClampNeg g1.1) g1.2.2.1 ts tv sn sK sA sB sC sL gn gp g2.2) H := hP.sub [0, 1, 2, 3, 4, 5, 6, 7, 8, 9, 10, 11, 12] rfl
            have hD : va_D _ (wL ad cI cS g1.2.2.2.1 to g2.1 g1.2.2.2.2 tk tw (upd tl xl.toNatClampNeg g1.1) g1.2.2.1 ts tv sn sK sA sB sC sL gn gp g2.2) := hD.sub [0, 1, 2, 3, 4, 5, 6, 7, 8, 9, 10, 11, 12] (by decide) rfl
            refine lv_aload_n hx hb dLa_layLine_75 rfl (lv_at hl 0 rfl) ?_
            refine lv_iload_n hx hb dLa_layLine_76 rfl (lv_at hl 2 rfl) ?_
            refine va_put (D := D) (ci := 1) (v := .int v) (ty := .int) (C := RLa) (T := TLa) (N := 12) hx hb hw pinLa tyLa tyLa_ok nmLa hown hE.1 hP hD hS 0 rfl rfl 10 (by decide) (hw _ wd_136) (fun _ h9 => h9) rfl (by decide +kernel) rfl rfl (Nat.le_of_ble_eq_true rfl) dLa_layLine_77 (fun H locs hP hD hS => ?_)
            have hP : va_P D vwCl (wL ad cI cS g1.2.2.2.1 to g2.1 g1.2.2.2.2 v tw (upd tl xl.toNatClampNeg g1.1) g1.2.2.1 ts tv sn sK sA sB sC sL gn gp g2.2) H := hP
            have hD : va_D _ (wL ad cI cS g1.2.2.2.1 to g2.1 g1.2.2.2.2 v tw (upd tl xl.toNatClampNeg g1.1) g1.2.2.1 ts tv sn sK sA sB sC sL gn gp g2.2) := hD
            refine lv_iinc (k := 4) (v := (nI j) + 1) (lv' := [(4, .int ((nI j) + 1)), (0, .ref (ad 3)), (1, .int xl), (2, .int v), (3, .int w)]) hx hb dLa_layLine_80 hl rfl (by first | rfl | decide) (by decide) rfl (fun ls hl => ?_)
            refine lv_goto (tgt := 22) hx hb dLa_layLine_83 (by decide) ?_
            have e9 : LLa_layLine_22 (n + 1) xl to tw ts tv sK sA sB sC sL v w j tl tc tn tp ta tk gh = LLa_layLine_22 n xl to tw ts tv sK sA sB sC sL v w (j + 1) (upd tl xl.toNatClampNeg g1.1) g1.2.2.1 g1.2.2.2.1 g1.2.2.2.2 g2.1 v g2.2 := by simp only [LLa_layLine_22, hg1, hg2, if_neg h1, if_neg h2, if_pos h6, if_neg h8]
            rw [e9] at kk
            rw [nI_1] at hl
            exact ih (j + 1) g1.2.2.2.1 to g2.1 g1.2.2.2.2 v tw (upd tl xl.toNatClampNeg g1.1) g1.2.2.1 ts tv sn sK sA sB sC sL gn gp g2.2 ls H locs htn0 htn1 hto hsl (by have := pq_up (j := j) hj (by assumption); have := Int32.toInt_lt w; omega) (by have := pq_up (j := j) hj (by assumption); omega) (lv_sub hl [1, 2, 3, 4, 0] rfl) hP hD hS kk
def FLa_layLine (xl : Int32) (tn : Int32) (to : Int32) (ta : Int32) (tp : Int32) (tk : Int32) (tw : Int32) (tl : Nat → Int32) (tc : Nat → Int32) (ts : Nat → Int32) (tv : Nat → Int32) (sK : Nat → Int32) (sA : Nat → Int32) (sB : Nat → Int32) (sC : Nat → Int32) (sL : Nat → Int32) (gh : Nat → Int32) : (Nat → Int32) × (Nat → Int32) × (Nat → Int32) × (Nat → Int32) × Int32 × Int32 × Int32 × Int32 × Int32 × (Nat → Int32) := if (sK xl.toNatClampNeg) = 10 then ((LLa_layLine_22 ((FSo_halvesOf xl sK sA).toInt.toNat + 1) xl to tw ts tv sK sA sB sC sL (sK xl.toNatClampNeg) (FSo_halvesOf xl sK sA) 0 tl tc tn tp ta tk gh).2.1, (LLa_layLine_22 ((FSo_halvesOf xl sK sA).toInt.toNat + 1) xl to tw ts tv sK sA sB sC sL (sK xl.toNatClampNeg) (FSo_halvesOf xl sK sA) 0 tl tc tn tp ta tk gh).2.2.1, (FLa_letWait xl (LLa_layLine_22 ((FSo_halvesOf xl sK sA).toInt.toNat + 1) xl to tw ts tv sK sA sB sC sL (sK xl.toNatClampNeg) (FSo_halvesOf xl sK sA) 0 tl tc tn tp ta tk gh).2.2.2.1 to ts tv sB).2.1, (FLa_letWait xl (LLa_layLine_22 ((FSo_halvesOf xl sK sA).toInt.toNat + 1) xl to tw ts tv sK sA sB sC sL (sK xl.toNatClampNeg) (FSo_halvesOf xl sK sA) 0 tl tc tn tp ta tk gh).2.2.2.1 to ts tv sB).2.2.1, (FLa_letWait xl (LLa_layLine_22 ((FSo_halvesOf xl sK sA).toInt.toNat + 1) xl to tw ts tv sK sA sB sC sL (sK xl.toNatClampNeg) (FSo_halvesOf xl sK sA) 0 tl tc tn tp ta tk gh).2.2.2.1 to ts tv sB).2.2.2, (FLa_letWait xl (LLa_layLine_22 ((FSo_halvesOf xl sK sA).toInt.toNat + 1) xl to tw ts tv sK sA sB sC sL (sK xl.toNatClampNeg) (FSo_halvesOf xl sK sA) 0 tl tc tn tp ta tk gh).2.2.2.1 to ts tv sB).1, (LLa_layLine_22 ((FSo_halvesOf xl sK sA).toInt.toNat + 1) xl to tw ts tv sK sA sB sC sL (sK xl.toNatClampNeg) (FSo_halvesOf xl sK sA) 0 tl tc tn tp ta tk gh).2.2.2.2.2.1, (LLa_layLine_22 ((FSo_halvesOf xl sK sA).toInt.toNat + 1) xl to tw ts tv sK sA sB sC sL (sK xl.toNatClampNeg) (FSo_halvesOf xl sK sA) 0 tl tc tn tp ta tk gh).2.2.2.2.1, (LLa_layLine_22 ((FSo_halvesOf xl sK sA).toInt.toNat + 1) xl to tw ts tv sK sA sB sC sL (sK xl.toNatClampNeg) (FSo_halvesOf xl sK sA) 0 tl tc tn tp ta tk gh).2.2.2.2.2.2.1, (LLa_layLine_22 ((FSo_halvesOf xl sK sA).toInt.toNat + 1) xl to tw ts tv sK sA sB sC sL (sK xl.toNatClampNeg) (FSo_halvesOf xl sK sA) 0 tl tc tn tp ta tk gh).2.2.2.2.2.2.2) else if (sK xl.toNatClampNeg) = 14 then ((LLa_layLine_22 ((FSo_halvesOf xl sK sA).toInt.toNat + 1) xl to tw ts tv sK sA sB sC sL (sK xl.toNatClampNeg) (FSo_halvesOf xl sK sA) 0 tl tc tn tp ta tk gh).2.1, (FLa_putPool xl (LLa_layLine_22 ((FSo_halvesOf xl sK sA).toInt.toNat + 1) xl to tw ts tv sK sA sB sC sL (sK xl.toNatClampNeg) (FSo_halvesOf xl sK sA) 0 tl tc tn tp ta tk gh).2.2.2.1 to (LLa_layLine_22 ((FSo_halvesOf xl sK sA).toInt.toNat + 1) xl to tw ts tv sK sA sB sC sL (sK xl.toNatClampNeg) (FSo_halvesOf xl sK sA) 0 tl tc tn tp ta tk gh).2.2.2.2.2.1 (LLa_layLine_22 ((FSo_halvesOf xl sK sA).toInt.toNat + 1) xl to tw ts tv sK sA sB sC sL (sK xl.toNatClampNeg) (FSo_halvesOf xl sK sA) 0 tl tc tn tp ta tk gh).2.2.2.2.1 (LLa_layLine_22 ((FSo_halvesOf xl sK sA).toInt.toNat + 1) xl to tw ts tv sK sA sB sC sL (sK xl.toNatClampNeg) (FSo_halvesOf xl sK sA) 0 tl tc tn tp ta tk gh).2.2.2.2.2.2.1 tw (LLa_layLine_22 ((FSo_halvesOf xl sK sA).toInt.toNat + 1) xl to tw ts tv sK sA sB sC sL (sK xl.toNatClampNeg) (FSo_halvesOf xl sK sA) 0 tl tc tn tp ta tk gh).2.2.1 ts tv sK (LLa_layLine_22 ((FSo_halvesOf xl sK sA).toInt.toNat + 1) xl to tw ts tv sK sA sB sC sL (sK xl.toNatClampNeg) (FSo_halvesOf xl sK sA) 0 tl tc tn tp ta tk gh).2.2.2.2.2.2.2).2.2.1, ts, tv, (FLa_putPool xl (LLa_layLine_22 ((FSo_halvesOf xl sK sA).toInt.toNat + 1) xl to tw ts tv sK sA sB sC sL (sK xl.toNatClampNeg) (FSo_halvesOf xl sK sA) 0 tl tc tn tp ta tk gh).2.2.2.1 to (LLa_layLine_22 ((FSo_halvesOf xl sK sA).toInt.toNat + 1) xl to tw ts tv sK sA sB sC sL (sK xl.toNatClampNeg) (FSo_halvesOf xl sK sA) 0 tl tc tn tp ta tk gh).2.2.2.2.2.1 (LLa_layLine_22 ((FSo_halvesOf xl sK sA).toInt.toNat + 1) xl to tw ts tv sK sA sB sC sL (sK xl.toNatClampNeg) (FSo_halvesOf xl sK sA) 0 tl tc tn tp ta tk gh).2.2.2.2.1 (LLa_layLine_22 ((FSo_halvesOf xl sK sA).toInt.toNat + 1) xl to tw ts tv sK sA sB sC sL (sK xl.toNatClampNeg) (FSo_halvesOf xl sK sA) 0 tl tc tn tp ta tk gh).2.2.2.2.2.2.1 tw (LLa_layLine_22 ((FSo_halvesOf xl sK sA).toInt.toNat + 1) xl to tw ts tv sK sA sB sC sL (sK xl.toNatClampNeg) (FSo_halvesOf xl sK sA) 0 tl tc tn tp ta tk gh).2.2.1 ts tv sK (LLa_layLine_22 ((FSo_halvesOf xl sK sA).toInt.toNat + 1) xl to tw ts tv sK sA sB sC sL (sK xl.toNatClampNeg) (FSo_halvesOf xl sK sA) 0 tl tc tn tp ta tk gh).2.2.2.2.2.2.2).2.2.2.1, to, (FLa_putPool xl (LLa_layLine_22 ((FSo_halvesOf xl sK sA).toInt.toNat + 1) xl to tw ts tv sK sA sB sC sL (sK xl.toNatClampNeg) (FSo_halvesOf xl sK sA) 0 tl tc tn tp ta tk gh).2.2.2.1 to (LLa_layLine_22 ((FSo_halvesOf xl sK sA).toInt.toNat + 1) xl to tw ts tv sK sA sB sC sL (sK xl.toNatClampNeg) (FSo_halvesOf xl sK sA) 0 tl tc tn tp ta tk gh).2.2.2.2.2.1 (LLa_layLine_22 ((FSo_halvesOf xl sK sA).toInt.toNat + 1) xl to tw ts tv sK sA sB sC sL (sK xl.toNatClampNeg) (FSo_halvesOf xl sK sA) 0 tl tc tn tp ta tk gh).2.2.2.2.1 (LLa_layLine_22 ((FSo_halvesOf xl sK sA).toInt.toNat + 1) xl to tw ts tv sK sA sB sC sL (sK xl.toNatClampNeg) (FSo_halvesOf xl sK sA) 0 tl tc tn tp ta tk gh).2.2.2.2.2.2.1 tw (LLa_layLine_22 ((FSo_halvesOf xl sK sA).toInt.toNat + 1) xl to tw ts tv sK sA sB sC sL (sK xl.toNatClampNeg) (FSo_halvesOf xl sK sA) 0 tl tc tn tp ta tk gh).2.2.1 ts tv sK (LLa_layLine_22 ((FSo_halvesOf xl sK sA).toInt.toNat + 1) xl to tw ts tv sK sA sB sC sL (sK xl.toNatClampNeg) (FSo_halvesOf xl sK sA) 0 tl tc tn tp ta tk gh).2.2.2.2.2.2.2).1, (FLa_putPool xl (LLa_layLine_22 ((FSo_halvesOf xl sK sA).toInt.toNat + 1) xl to tw ts tv sK sA sB sC sL (sK xl.toNatClampNeg) (FSo_halvesOf xl sK sA) 0 tl tc tn tp ta tk gh).2.2.2.1 to (LLa_layLine_22 ((FSo_halvesOf xl sK sA).toInt.toNat + 1) xl to tw ts tv sK sA sB sC sL (sK xl.toNatClampNeg) (FSo_halvesOf xl sK sA) 0 tl tc tn tp ta tk gh).2.2.2.2.2.1 (LLa_layLine_22 ((FSo_halvesOf xl sK sA).toInt.toNat + 1) xl to tw ts tv sK sA sB sC sL (sK xl.toNatClampNeg) (FSo_halvesOf xl sK sA) 0 tl tc tn tp ta tk gh).2.2.2.2.1 (LLa_layLine_22 ((FSo_halvesOf xl sK sA).toInt.toNat + 1) xl to tw ts tv sK sA sB sC sL (sK xl.toNatClampNeg) (FSo_halvesOf xl sK sA) 0 tl tc tn tp ta tk gh).2.2.2.2.2.2.1 tw (LLa_layLine_22 ((FSo_halvesOf xl sK sA).toInt.toNat + 1) xl to tw ts tv sK sA sB sC sL (sK xl.toNatClampNeg) (FSo_halvesOf xl sK sA) 0 tl tc tn tp ta tk gh).2.2.1 ts tv sK (LLa_layLine_22 ((FSo_halvesOf xl sK sA).toInt.toNat + 1) xl to tw ts tv sK sA sB sC sL (sK xl.toNatClampNeg) (FSo_halvesOf xl sK sA) 0 tl tc tn tp ta tk gh).2.2.2.2.2.2.2).2.2.2.2, (LLa_layLine_22 ((FSo_halvesOf xl sK sA).toInt.toNat + 1) xl to tw ts tv sK sA sB sC sL (sK xl.toNatClampNeg) (FSo_halvesOf xl sK sA) 0 tl tc tn tp ta tk gh).2.2.2.2.2.2.1, (FLa_putPool xl (LLa_layLine_22 ((FSo_halvesOf xl sK sA).toInt.toNat + 1) xl to tw ts tv sK sA sB sC sL (sK xl.toNatClampNeg) (FSo_halvesOf xl sK sA) 0 tl tc tn tp ta tk gh).2.2.2.1 to (LLa_layLine_22 ((FSo_halvesOf xl sK sA).toInt.toNat + 1) xl to tw ts tv sK sA sB sC sL (sK xl.toNatClampNeg) (FSo_halvesOf xl sK sA) 0 tl tc tn tp ta tk gh).2.2.2.2.2.1 (LLa_layLine_22 ((FSo_halvesOf xl sK sA).toInt.toNat + 1) xl to tw ts tv sK sA sB sC sL (sK xl.toNatClampNeg) (FSo_halvesOf xl sK sA) 0 tl tc tn tp ta tk gh).2.2.2.2.1 (LLa_layLine_22 ((FSo_halvesOf xl sK sA).toInt.toNat + 1) xl to tw ts tv sK sA sB sC sL (sK xl.toNatClampNeg) (FSo_halvesOf xl sK sA) 0 tl tc tn tp ta tk gh).2.2.2.2.2.2.1 tw (LLa_layLine_22 ((FSo_halvesOf xl sK sA).toInt.toNat + 1) xl to tw ts tv sK sA sB sC sL (sK xl.toNatClampNeg) (FSo_halvesOf xl sK sA) 0 tl tc tn tp ta tk gh).2.2.1 ts tv sK (LLa_layLine_22 ((FSo_halvesOf xl sK sA).toInt.toNat + 1) xl to tw ts tv sK sA sB sC sL (sK xl.toNatClampNeg) (FSo_halvesOf xl sK sA) 0 tl tc tn tp ta tk gh).2.2.2.2.2.2.2).2.1) else ((LLa_layLine_22 ((FSo_halvesOf xl sK sA).toInt.toNat + 1) xl to tw ts tv sK sA sB sC sL (sK xl.toNatClampNeg) (FSo_halvesOf xl sK sA) 0 tl tc tn tp ta tk gh).2.1, (LLa_layLine_22 ((FSo_halvesOf xl sK sA).toInt.toNat + 1) xl to tw ts tv sK sA sB sC sL (sK xl.toNatClampNeg) (FSo_halvesOf xl sK sA) 0 tl tc tn tp ta tk gh).2.2.1, ts, tv, (LLa_layLine_22 ((FSo_halvesOf xl sK sA).toInt.toNat + 1) xl to tw ts tv sK sA sB sC sL (sK xl.toNatClampNeg) (FSo_halvesOf xl sK sA) 0 tl tc tn tp ta tk gh).2.2.2.1, to, (LLa_layLine_22 ((FSo_halvesOf xl sK sA).toInt.toNat + 1) xl to tw ts tv sK sA sB sC sL (sK xl.toNatClampNeg) (FSo_halvesOf xl sK sA) 0 tl tc tn tp ta tk gh).2.2.2.2.2.1, (LLa_layLine_22 ((FSo_halvesOf xl sK sA).toInt.toNat + 1) xl to tw ts tv sK sA sB sC sL (sK xl.toNatClampNeg) (FSo_halvesOf xl sK sA) 0 tl tc tn tp ta tk gh).2.2.2.2.1, (LLa_layLine_22 ((FSo_halvesOf xl sK sA).toInt.toNat + 1) xl to tw ts tv sK sA sB sC sL (sK xl.toNatClampNeg) (FSo_halvesOf xl sK sA) 0 tl tc tn tp ta tk gh).2.2.2.2.2.2.1, (LLa_layLine_22 ((FSo_halvesOf xl sK sA).toInt.toNat + 1) xl to tw ts tv sK sA sB sC sL (sK xl.toNatClampNeg) (FSo_halvesOf xl sK sA) 0 tl tc tn tp ta tk gh).2.2.2.2.2.2.2)
set_option maxHeartbeats 4000000 in
set_option maxRecDepth 100000 in
theorem k_La_layLine (l : Launch) (D : va_G) (ad : Nat → Nat) (cI cS : ClassId) (xl : Int32) (tn : Int32) (to : Int32) (ta : Int32) (tp : Int32) (tk : Int32) (tw : Int32) (tl : Nat → Int32) (tc : Nat → Int32) (ts : Nat → Int32) (tv : Nat → Int32) (sn : Int32) (sK : Nat → Int32) (sA : Nat → Int32) (sB : Nat → Int32) (sC : Nat → Int32) (sL : Nat → Int32) (gn : Int32) (gp : Int32) (gh : Nat → Int32) (hxl : vp_in xl 160) (htn0 : ¬ tn < 0) (htn1 : tn.toInt ≤ 160) (hto : vp_in to 160) (hsl : ∀ j : Nat, j < 16 → ¬ sL j = (-1) → vp_in (sL j) 160) : pq_VP l yLa_layLine (.code yLa_layLine cLa_layLine 5 none :: pq_ws) { frames := 3, cells := 0, slots := 0, locals := 68 } D cI cS [.ref (ad 3), .int xl] (wL ad cI cS tn to ta tp tk tw tl tc ts tv sn sK sA sB sC sL gn gp gh) ((¬ ((FLa_layLine xl tn to ta tp tk tw tl tc ts tv sK sA sB sC sL gh).2.2.2.2.1) < 0) ∧ (((FLa_layLine xl tn to ta tp tk tw tl tc ts tv sK sA sB sC sL gh).2.2.2.2.1).toInt ≤ 160) ∧ (vp_in ((FLa_layLine xl tn to ta tp tk tw tl tc ts tv sK sA sB sC sL gh).2.2.2.2.2.1) 160)) (wL ad cI cS ((FLa_layLine xl tn to ta tp tk tw tl tc ts tv sK sA sB sC sL gh).2.2.2.2.1) ((FLa_layLine xl tn to ta tp tk tw tl tc ts tv sK sA sB sC sL gh).2.2.2.2.2.1) ((FLa_layLine xl tn to ta tp tk tw tl tc ts tv sK sA sB sC sL gh).2.2.2.2.2.2.1) ((FLa_layLine xl tn to ta tp tk tw tl tc ts tv sK sA sB sC sL gh).2.2.2.2.2.2.2.1) ((FLa_layLine xl tn to ta tp tk tw tl tc ts tv sK sA sB sC sL gh).2.2.2.2.2.2.2.2.1) tw ((FLa_layLine xl tn to ta tp tk tw tl tc ts tv sK sA sB sC sL gh).1) ((FLa_layLine xl tn to ta tp tk tw tl tc ts tv sK sA sB sC sL gh).2.1) ((FLa_layLine xl tn to ta tp tk tw tl tc ts tv sK sA sB sC sL gh).2.2.1) ((FLa_layLine xl tn to ta tp tk tw tl tc ts tv sK sA sB sC sL gh).2.2.2.1) sn sK sA sB sC sL gn gp ((FLa_layLine xl tn to ta tp tk tw tl tc ts tv sK sA sB sC sL gh).2.2.2.2.2.2.2.2.2)) := by
  intro sz
  refine Met.ofW (cc := cLa_layLine) (maxL := 5) (ret := none) (by decide) rfl ?_
  intro p e s m args below meth c s₁ B hml hv
  obtain ⟨rfl, hsz, hP, hD0, hE⟩ := hv
  have hx := B.exec
  have hb := B.bytes
  have hr := B.returns
  have hts := atoms_spec (ws := (.code yLa_layLine cLa_layLine 5 none :: pq_ws : List Cond)) B.pre
  have hw : ∀ w ∈ pq_ws, w.before _ s = true := fun w h => hts w (List.mem_cons_of_mem _ h)
  have hown : s.vm.findClass RLa = some m.cls := findClass_of_methodNamed B.named
  have hlocks := B.notSynchronized
  subst hsz
  have hD := hD0.self (sz := s.heap.size)
  have hA : ∀ q : Nat, s.heap.size ≤ q → va_A (wL ad cI cS tn to ta tp tk tw tl tc ts tv sn sK sA sB sC sL gn gp gh) s.heap.size q := fun q h => Or.inr h
  have hS : va_S (va_A (wL ad cI cS tn to ta tp tk tw tl tc ts tv sn sK sA sB sC sL gn gp gh) s.heap.size) s.heap s.heap [] := va_S.rf
  have hl := lv_entry ([.ref (ad 3), .int xl] : List Value) (n := 5) (Nat.le_of_ble_eq_true rfl)
  rw [lg_entry_eq]
  generalize (lg_sl ([.ref (ad 3), .int xl] : List Value) ++ List.replicate (5 - (lg_sl ([.ref (ad 3), .int xl] : List Value)).length) Slot.unset).toArray = ls at hl ⊢
  have hl : lv_has ls 5 [(0, .ref (ad 3)), (1, .int xl)] := hl
  refine lv_aload_n hx hb dLa_layLine_0 rfl (lv_at hl 0 rfl) ?_
  refine va_get (D := D) (ci := 1) (v := .ref (ad 1)) (C := RLa) (T := TLa) (N := 12) hx hb hw pinLa hown hE.1 hP 0 rfl rfl 0 (by decide) (hw _ wd_100) (fun _ h9 => h9) rfl dLa_layLine_1 ?_
  refine va_getN (D := D) (ci := 3) (v := .ref (ad 5)) (C := RSo) (T := TSo) (N := 6) hx hb hw pinSo hown hE.1 hP 5 rfl rfl 0 (by decide) (va_Nw.use rfl (hE.2 _ nw_8)) (fun _ h9 => h9) rfl dLa_layLine_4 ?_
  refine lv_iload_n hx hb dLa_layLine_7 rfl (lv_at hl 1 rfl) ?_
  refine va_iald hx hb hE.1 hP 6 0 rfl rfl hxl dLa_layLine_8 ?_
  refine lv_istore_n (lv' := [(2, .int (sK xl.toNatClampNeg)), (0, .ref (ad 3)), (1, .int xl)]) hx hb dLa_layLine_9 rfl hl (by decide) rfl (fun ls hl => ?_)
  refine lv_aload_n hx hb dLa_layLine_10 rfl (lv_at hl 1 rfl) ?_
  refine va_get (D := D) (ci := 1) (v := .ref (ad 1)) (C := RLa) (T := TLa) (N := 12) hx hb hw pinLa hown hE.1 hP 0 rfl rfl 0 (by decide) (hw _ wd_100) (fun _ h9 => h9) rfl dLa_layLine_11 ?_
  refine lv_iload_n hx hb dLa_layLine_14 rfl (lv_at hl 2 rfl) ?_
  refine pq_calli (fr := (FSo_halvesOf xl sK sA)) (wc := (wS ad cI cS sn sK sA sB sC sL)) (wr := ([0, 1, 2, 3, 4, 11, 12] : List Nat).filterMap (fun i => (wL ad cI cS tn to ta tp tk tw tl tc ts tv sn sK sA sB sC sL gn gp gh)[i]?)) hP hD hS hA [5, 6, 7, 8, 9, 10] [0, 1, 2, 3, 4, 11, 12] rfl rfl (by decide) (by decide) (va_runVN (own := RLa) (C := RSo) (As := [.int xl]) (rest := []) ⟨hx, hb, hml, hown, hw⟩ (k_So_halvesOf l D ad cI cS xl sn sK sA sB sC sL hxl s.heap.size) ⟨pq_cnB 1 hw (hE.2 _ nw_12) wd_102 wd_150 rfl rfl (by decide +kernel) ⟨Nat.le_of_ble_eq_true rfl, Nat.le_of_ble_eq_true rfl⟩, hw _ wd_151, hw _ wd_152⟩ (pq_preV (ci := 3) (C := RSo) (T := TSo) (N := 6) hE (hP.sub [5, 6, 7, 8, 9, 10] rfl) (hD.sub [5, 6, 7, 8, 9, 10] (by decide) rfl) rfl 0 rfl) rfl rfl hl.1 rfl (lv_room (Nat.le_of_ble_eq_true rfl)) dLa_layLine_15 ⟨Nat.zero_le _, Nat.zero_le _⟩) (fun H locs hP hD hS => ?_)
  have hP : va_P D vwCl (wL ad cI cS tn to ta tp tk tw tl tc ts tv sn sK sA sB sC sL gn gp gh) H := hP.sub [0, 1, 2, 3, 4, 7, 8, 9, 10, 11, 12, 5, 6] rfl
  have hD : va_D _ (wL ad cI cS tn to ta tp tk tw tl tc ts tv sn sK sA sB sC sL gn gp gh) := hD.sub [0, 1, 2, 3, 4, 7, 8, 9, 10, 11, 12, 5, 6] (by decide) rfl
  refine lv_istore_n (lv' := [(3, .int (FSo_halvesOf xl sK sA)), (2, .int (sK xl.toNatClampNeg)), (0, .ref (ad 3)), (1, .int xl)]) hx hb dLa_layLine_18 rfl hl (by decide) rfl (fun ls hl => ?_)
  refine lv_iconst (v := 0) hx hb dLa_layLine_19 (by first | rfl | decide) ?_
  refine lv_istore (lv' := [(4, .int 0), (3, .int (FSo_halvesOf xl sK sA)), (2, .int (sK xl.toNatClampNeg)), (0, .ref (ad 3)), (1, .int xl)]) hx hb dLa_layLine_20 hl (by decide) rfl (fun ls hl => ?_)
  obtain ⟨g3, hg3⟩ : ∃ g9, LLa_layLine_22 ((FSo_halvesOf xl sK sA).toInt.toNat + 1) xl to tw ts tv sK sA sB sC sL (sK xl.toNatClampNeg) (FSo_halvesOf xl sK sA) 0 tl tc tn tp ta tk gh = g9 := ⟨_, rfl⟩
  refine qLa_layLine_22 D ad cI cS hx hb hml hw hown hE hA ⟨Nat.le_of_ble_eq_true rfl, Nat.le_of_ble_eq_true rfl⟩ xl (sK xl.toNatClampNeg) (FSo_halvesOf xl sK sA) hxl ((FSo_halvesOf xl sK sA).toInt.toNat + 1) 0 tn to ta tp tk tw tl tc ts tv sn sK sA sB sC sL gn gp gh ls H locs htn0 htn1 hto hsl (by decide) (by omega) (lv_sub hl [3, 4, 2, 1, 0] rfl) hP hD hS (fun ls H locs htn0 htn1 hl hP hD hS => ?_)
  try rw [hg3] at hl
  try rw [hg3] at hP
  try rw [hg3] at hD
  try rw [hg3] at htn0
  try rw [hg3] at htn1
  have hP : va_P D vwCl (wL ad cI cS g3.2.2.2.1 to g3.2.2.2.2.2.1 g3.2.2.2.2.1 g3.2.2.2.2.2.2.1 tw g3.2.1 g3.2.2.1 ts tv sn sK sA sB sC sL gn gp g3.2.2.2.2.2.2.2) H := hP
  have hD : va_D _ (wL ad cI cS g3.2.2.2.1 to g3.2.2.2.2.2.1 g3.2.2.2.2.1 g3.2.2.2.2.2.2.1 tw g3.2.1 g3.2.2.1 ts tv sn sK sA sB sC sL gn gp g3.2.2.2.2.2.2.2) := hD
  refine lv_iload_n hx hb dLa_layLine_86 rfl (lv_at hl 2 rfl) ?_
  refine lv_bipush (v := 10) hx hb dLa_layLine_87 (by first | rfl | decide) ?_
  refine lv_icmp_ne (tgt := 100) hx hb dLa_layLine_89 (by decide) (fun h1 => ?_) (fun h1 => ?_)
  · refine lv_iload_n hx hb dLa_layLine_100 rfl (lv_at hl 2 rfl) ?_
    refine lv_bipush (v := 14) hx hb dLa_layLine_101 (by first | rfl | decide) ?_
    refine lv_icmp_ne (tgt := 111) hx hb dLa_layLine_103 (by decide) (fun h2 => ?_) (fun h2 => ?_)
    · have e9 : FLa_layLine xl tn to ta tp tk tw tl tc ts tv sK sA sB sC sL gh = (g3.2.1, g3.2.2.1, ts, tv, g3.2.2.2.1, to, g3.2.2.2.2.2.1, g3.2.2.2.2.1, g3.2.2.2.2.2.2.1, g3.2.2.2.2.2.2.2) := by simp only [FLa_layLine, hg3, if_neg h1, if_neg h2]
      have p9 : (¬ g3.2.2.2.1 < 0) ∧ (g3.2.2.2.1.toInt ≤ 160) ∧ (vp_in to 160) := ⟨by assumption, by assumption, by assumption⟩
      exact W.vret hx hb hr (fun t ht hW => ⟨⟨(), rfl, by rw [e9]; exact p9, by rw [e9, ht]; exact hP, by rw [e9]; exact hD⟩, hS.F ht⟩) hS.2.2 dLa_layLine_111
    · refine lv_aload_n hx hb dLa_layLine_106 rfl (lv_at hl 0 rfl) ?_
      refine lv_iload_n hx hb dLa_layLine_107 rfl (lv_at hl 1 rfl) ?_
      obtain ⟨g4, hg4⟩ : ∃ g9, FLa_putPool xl g3.2.2.2.1 to g3.2.2.2.2.2.1 g3.2.2.2.2.1 g3.2.2.2.2.2.2.1 tw g3.2.2.1 ts tv sK g3.2.2.2.2.2.2.2 = g9 := ⟨_, rfl⟩
      have cg4 := k_La_putPool l D ad cI cS xl g3.2.2.2.1 to g3.2.2.2.2.2.1 g3.2.2.2.2.1 g3.2.2.2.2.2.2.1 tw g3.2.1 g3.2.2.1 ts tv sn sK sA sB sC sL gn gp g3.2.2.2.2.2.2.2 htn0 htn1 hto (pq_in0 hxl) (pq_in1 hxl)
      rw [hg4] at cg4
      refine pq_callvp (wc := (wL ad cI cS g3.2.2.2.1 to g3.2.2.2.2.2.1 g3.2.2.2.2.1 g3.2.2.2.2.2.2.1 tw g3.2.1 g3.2.2.1 ts tv sn sK sA sB sC sL gn gp g3.2.2.2.2.2.2.2)) (wr := ([] : List Nat).filterMap (fun i => (wL ad cI cS g3.2.2.2.1 to g3.2.2.2.2.2.1 g3.2.2.2.2.1 g3.2.2.2.2.2.2.1 tw g3.2.1 g3.2.2.1 ts tv sn sK sA sB sC sL gn gp g3.2.2.2.2.2.2.2)[i]?)) hP hD hS hA [0, 1, 2, 3, 4, 5, 6, 7, 8, 9, 10, 11, 12] [] rfl rfl (by decide) (by decide) (va_runV (own := RLa) (C := RLa) (As := [.int xl]) (rest := []) ⟨hx, hb, hml, hown, hw⟩ (cg4 H.size) ⟨pq_cwB 1 hw wd_147 wd_108 wd_146 rfl rfl (by decide +kernel) ⟨Nat.le_of_ble_eq_true rfl, Nat.le_of_ble_eq_true rfl⟩, hw _ wd_148, hw _ wd_149⟩ (pq_preV (ci := 1) (C := RLa) (T := TLa) (N := 12) hE (hP.sub [0, 1, 2, 3, 4, 5, 6, 7, 8, 9, 10, 11, 12] rfl) (hD.sub [0, 1, 2, 3, 4, 5, 6, 7, 8, 9, 10, 11, 12] (by decide) rfl) rfl 0 rfl) rfl rfl hl.1 rfl (lv_room (Nat.le_of_ble_eq_true rfl)) dLa_layLine_108 ⟨Nat.zero_le _, Nat.zero_le _⟩) (fun hq9 H locs hP hD hS => ?_)
      obtain ⟨htn0, htn1⟩ := hq9
      have hP : va_P D vwCl (wL ad cI cS g4.2.2.2.1 to g4.1 g4.2.2.2.2 g3.2.2.2.2.2.2.1 tw g3.2.1 g4.2.2.1 ts tv sn sK sA sB sC sL gn gp g4.2.1) H := hP.sub [0, 1, 2, 3, 4, 5, 6, 7, 8, 9, 10, 11, 12] rfl
      have hD : va_D _ (wL ad cI cS g4.2.2.2.1 to g4.1 g4.2.2.2.2 g3.2.2.2.2.2.2.1 tw g3.2.1 g4.2.2.1 ts tv sn sK sA sB sC sL gn gp g4.2.1) := hD.sub [0, 1, 2, 3, 4, 5, 6, 7, 8, 9, 10, 11, 12] (by decide) rfl
      have e9 : FLa_layLine xl tn to ta tp tk tw tl tc ts tv sK sA sB sC sL gh = (g3.2.1, g4.2.2.1, ts, tv, g4.2.2.2.1, to, g4.1, g4.2.2.2.2, g3.2.2.2.2.2.2.1, g4.2.1) := by simp only [FLa_layLine, hg3, hg4, if_neg h1, if_pos h2]
      have p9 : (¬ g4.2.2.2.1 < 0) ∧ (g4.2.2.2.1.toInt ≤ 160) ∧ (vp_in to 160) := ⟨by assumption, by assumption, by assumption⟩
      exact W.vret hx hb hr (fun t ht hW => ⟨⟨(), rfl, by rw [e9]; exact p9, by rw [e9, ht]; exact hP, by rw [e9]; exact hD⟩, hS.F ht⟩) hS.2.2 dLa_layLine_111
  · refine lv_aload_n hx hb dLa_layLine_92 rfl (lv_at hl 0 rfl) ?_
    refine lv_iload_n hx hb dLa_layLine_93 rfl (lv_at hl 1 rfl) ?_
    obtain ⟨g5, hg5⟩ : ∃ g9, FLa_letWait xl g3.2.2.2.1 to ts tv sB = g9 := ⟨_, rfl⟩
    have cg5 := k_La_letWait l D ad cI cS xl g3.2.2.2.1 to g3.2.2.2.2.2.1 g3.2.2.2.2.1 g3.2.2.2.2.2.2.1 tw g3.2.1 g3.2.2.1 ts tv sn sK sA sB sC sL gn gp g3.2.2.2.2.2.2.2 hxl htn0 htn1 hto
    rw [hg5] at cg5
    refine pq_callvp (wc := (wL ad cI cS g3.2.2.2.1 to g3.2.2.2.2.2.1 g3.2.2.2.2.1 g3.2.2.2.2.2.2.1 tw g3.2.1 g3.2.2.1 ts tv sn sK sA sB sC sL gn gp g3.2.2.2.2.2.2.2)) (wr := ([] : List Nat).filterMap (fun i => (wL ad cI cS g3.2.2.2.1 to g3.2.2.2.2.2.1 g3.2.2.2.2.1 g3.2.2.2.2.2.2.1 tw g3.2.1 g3.2.2.1 ts tv sn sK sA sB sC sL gn gp g3.2.2.2.2.2.2.2)[i]?)) hP hD hS hA [0, 1, 2, 3, 4, 5, 6, 7, 8, 9, 10, 11, 12] [] rfl rfl (by decide) (by decide) (va_runV (own := RLa) (C := RLa) (As := [.int xl]) (rest := []) ⟨hx, hb, hml, hown, hw⟩ (cg5 H.size) ⟨pq_cwB 1 hw wd_154 wd_108 wd_153 rfl rfl (by decide +kernel) ⟨Nat.le_of_ble_eq_true rfl, Nat.le_of_ble_eq_true rfl⟩, hw _ wd_155, hw _ wd_156⟩ (pq_preV (ci := 1) (C := RLa) (T := TLa) (N := 12) hE (hP.sub [0, 1, 2, 3, 4, 5, 6, 7, 8, 9, 10, 11, 12] rfl) (hD.sub [0, 1, 2, 3, 4, 5, 6, 7, 8, 9, 10, 11, 12] (by decide) rfl) rfl 0 rfl) rfl rfl hl.1 rfl (lv_room (Nat.le_of_ble_eq_true rfl)) dLa_layLine_94 ⟨Nat.zero_le _, Nat.zero_le _⟩) (fun hq9 H locs hP hD hS => ?_)
    obtain ⟨htn0, htn1, hto⟩ := hq9
    have hP : va_P D vwCl (wL ad cI cS g5.2.2.2 g5.1 g3.2.2.2.2.2.1 g3.2.2.2.2.1 g3.2.2.2.2.2.2.1 tw g3.2.1 g3.2.2.1 g5.2.1 g5.2.2.1 sn sK sA sB sC sL gn gp g3.2.2.2.2.2.2.2) H := hP.sub [0, 1, 2, 3, 4, 5, 6, 7, 8, 9, 10, 11, 12] rfl
    have hD : va_D _ (wL ad cI cS g5.2.2.2 g5.1 g3.2.2.2.2.2.1 g3.2.2.2.2.1 g3.2.2.2.2.2.2.1 tw g3.2.1 g3.2.2.1 g5.2.1 g5.2.2.1 sn sK sA sB sC sL gn gp g3.2.2.2.2.2.2.2) := hD.sub [0, 1, 2, 3, 4, 5, 6, 7, 8, 9, 10, 11, 12] (by decide) rfl
    refine lv_goto (tgt := 111) hx hb dLa_layLine_97 (by decide) ?_
    have e9 : FLa_layLine xl tn to ta tp tk tw tl tc ts tv sK sA sB sC sL gh = (g3.2.1, g3.2.2.1, g5.2.1, g5.2.2.1, g5.2.2.2, g5.1, g3.2.2.2.2.2.1, g3.2.2.2.2.1, g3.2.2.2.2.2.2.1, g3.2.2.2.2.2.2.2) := by simp only [FLa_layLine, hg3, hg5, if_pos h1]
    have p9 : (¬ g5.2.2.2 < 0) ∧ (g5.2.2.2.toInt ≤ 160) ∧ (vp_in g5.1 160) := ⟨by assumption, by assumption, by assumption⟩
    exact W.vret hx hb hr (fun t ht hW => ⟨⟨(), rfl, by rw [e9]; exact p9, by rw [e9, ht]; exact hP, by rw [e9]; exact hD⟩, hS.F ht⟩) hS.2.2 dLa_layLine_111
def LLa_layAll_22 : Nat → (Int32) → (Int32) → (Nat → Int32) → (Nat → Int32) → (Nat → Int32) → (Nat → Int32) → (Nat → Int32) → (Nat) → (Nat → Int32) → (Nat → Int32) → (Nat → Int32) → (Nat → Int32) → (Int32) → (Int32) → (Int32) → (Int32) → (Int32) → (Nat → Int32) → Nat × (Nat → Int32) × (Nat → Int32) × (Nat → Int32) × (Nat → Int32) × Int32 × Int32 × Int32 × Int32 × Int32 × (Nat → Int32)
  | 0, _, _, _, _, _, _, _, i, tl, tc, ts, tv, tn, to, ta, tp, tk, gh => (i, tl, tc, ts, tv, tn, to, ta, tp, tk, gh)
  | n + 1, tw, sn, sK, sA, sB, sC, sL, i, tl, tc, ts, tv, tn, to, ta, tp, tk, gh => if sn ≤ (nI i) then (i, tl, tc, ts, tv, tn, to, ta, tp, tk, gh) else LLa_layAll_22 n tw sn sK sA sB sC sL (i + 1) ((FLa_layLine (nI i) tn to ta tp tk tw tl tc ts tv sK sA sB sC sL gh).1) ((FLa_layLine (nI i) tn to ta tp tk tw tl tc ts tv sK sA sB sC sL gh).2.1) ((FLa_layLine (nI i) tn to ta tp tk tw tl tc ts tv sK sA sB sC sL gh).2.2.1) ((FLa_layLine (nI i) tn to ta tp tk tw tl tc ts tv sK sA sB sC sL gh).2.2.2.1) ((FLa_layLine (nI i) tn to ta tp tk tw tl tc ts tv sK sA sB sC sL gh).2.2.2.2.1) ((FLa_layLine (nI i) tn to ta tp tk tw tl tc ts tv sK sA sB sC sL gh).2.2.2.2.2.1) ((FLa_layLine (nI i) tn to ta tp tk tw tl tc ts tv sK sA sB sC sL gh).2.2.2.2.2.2.1) ((FLa_layLine (nI i) tn to ta tp tk tw tl tc ts tv sK sA sB sC sL gh).2.2.2.2.2.2.2.1) ((FLa_layLine (nI i) tn to ta tp tk tw tl tc ts tv sK sA sB sC sL gh).2.2.2.2.2.2.2.2.1) ((FLa_layLine (nI i) tn to ta tp tk tw tl tc ts tv sK sA sB sC sL gh).2.2.2.2.2.2.2.2.2)
set_option maxHeartbeats 4000000 in
set_option maxRecDepth 100000 in
theorem qLa_layAll_22 {p : Program} {l : Launch} {e : Env} {R : Room} {s : State} {m : MethodId} {args : Array Value} {below : List Frame} {meth : Method} {c : Code} {Q : State → Prop} {A : Nat → Prop} (D : va_G) (ad : Nat → Nat) (cI cS : ClassId) (hx : p.tables.exec = Jvm.exec) (hb : c.code = cLa_layAll) (hml : c.maxLocals = 2) (hw : ∀ w ∈ pq_ws, w.before args s = true) (hown : s.vm.findClass RLa = some m.cls) (hE : pq_E D cI cS s) (hA : ∀ q : Nat, s.heap.size ≤ q → A q) (hR : 4 ≤ R.frames ∧ 92 ≤ R.locals) (c0 : Nat) : ∀ (n : Nat) (i : Nat) (tn : Int32) (to : Int32) (ta : Int32) (tp : Int32) (tk : Int32) (tw : Int32) (tl : Nat → Int32) (tc : Nat → Int32) (ts : Nat → Int32) (tv : Nat → Int32) (sn : Int32) (sK : Nat → Int32) (sA : Nat → Int32) (sB : Nat → Int32) (sC : Nat → Int32) (sL : Nat → Int32) (gn : Int32) (gp : Int32) (gh : Nat → Int32) (ls : Array Slot) (H : Heap) (locs : List Loc), (sn = nI c0) → (c0 ≤ 160) → (i ≤ c0) → (¬ tn < 0) → (tn.toInt ≤ 160) → (vp_in to 160) → (∀ j : Nat, j < 16 → ¬ sL j = (-1) → vp_in (sL j) 160) → (c0 - i) < n → lv_has ls 2 [(0, .ref (ad 3)), (1, .int (nI i))] → va_P D vwCl (wL ad cI cS tn to ta tp tk tw tl tc ts tv sn sK sA sB sC sL gn gp gh) H → va_D A (wL ad cI cS tn to ta tp tk tw tl tc ts tv sn sK sA sB sC sL gn gp gh) → va_S A s.heap H locs → (∀ (ls : Array Slot) (H : Heap) (locs : List Loc), (¬ ((LLa_layAll_22 n tw sn sK sA sB sC sL i tl tc ts tv tn to ta tp tk gh).2.2.2.2.2.1) < 0) → (((LLa_layAll_22 n tw sn sK sA sB sC sL i tl tc ts tv tn to ta tp tk gh).2.2.2.2.2.1).toInt ≤ 160) → (vp_in ((LLa_layAll_22 n tw sn sK sA sB sC sL i tl tc ts tv tn to ta tp tk gh).2.2.2.2.2.2.1) 160) → lv_has ls 2 [(0, .ref (ad 3)), (1, .int (nI ((LLa_layAll_22 n tw sn sK sA sB sC sL i tl tc ts tv tn to ta tp tk gh).1)))] → va_P D vwCl (wL ad cI cS ((LLa_layAll_22 n tw sn sK sA sB sC sL i tl tc ts tv tn to ta tp tk gh).2.2.2.2.2.1) ((LLa_layAll_22 n tw sn sK sA sB sC sL i tl tc ts tv tn to ta tp tk gh).2.2.2.2.2.2.1) ((LLa_layAll_22 n tw sn sK sA sB sC sL i tl tc ts tv tn to ta tp tk gh).2.2.2.2.2.2.2.1) ((LLa_layAll_22 n tw sn sK sA sB sC sL i tl tc ts tv tn to ta tp tk gh).2.2.2.2.2.2.2.2.1) ((LLa_layAll_22 n tw sn sK sA sB sC sL i tl tc ts tv tn to ta tp tk gh).2.2.2.2.2.2.2.2.2.1) tw ((LLa_layAll_22 n tw sn sK sA sB sC sL i tl tc ts tv tn to ta tp tk gh).2.1) ((LLa_layAll_22 n tw sn sK sA sB sC sL i tl tc ts tv tn to ta tp tk gh).2.2.1) ((LLa_layAll_22 n tw sn sK sA sB sC sL i tl tc ts tv tn to ta tp tk gh).2.2.2.1) ((LLa_layAll_22 n tw sn sK sA sB sC sL i tl tc ts tv tn to ta tp tk gh).2.2.2.2.1) sn sK sA sB sC sL gn gp ((LLa_layAll_22 n tw sn sK sA sB sC sL i tl tc ts tv tn to ta tp tk gh).2.2.2.2.2.2.2.2.2.2)) H → va_D A (wL ad cI cS ((LLa_layAll_22 n tw sn sK sA sB sC sL i tl tc ts tv tn to ta tp tk gh).2.2.2.2.2.1) ((LLa_layAll_22 n tw sn sK sA sB sC sL i tl tc ts tv tn to ta tp tk gh).2.2.2.2.2.2.1) ((LLa_layAll_22 n tw sn sK sA sB sC sL i tl tc ts tv tn to ta tp tk gh).2.2.2.2.2.2.2.1) ((LLa_layAll_22 n tw sn sK sA sB sC sL i tl tc ts tv tn to ta tp tk gh).2.2.2.2.2.2.2.2.1) ((LLa_layAll_22 n tw sn sK sA sB sC sL i tl tc ts tv tn to ta tp tk gh).2.2.2.2.2.2.2.2.2.1) tw ((LLa_layAll_22 n tw sn sK sA sB sC sL i tl tc ts tv tn to ta tp tk gh).2.1) ((LLa_layAll_22 n tw sn sK sA sB sC sL i tl tc ts tv tn to ta tp tk gh).2.2.1) ((LLa_layAll_22 n tw sn sK sA sB sC sL i tl tc ts tv tn to ta tp tk gh).2.2.2.1) ((LLa_layAll_22 n tw sn sK sA sB sC sL i tl tc ts tv tn to ta tp tk gh).2.2.2.2.1) sn sK sA sB sC sL gn gp ((LLa_layAll_22 n tw sn sK sA sB sC sL i tl tc ts tv tn to ta tp tk gh).2.2.2.2.2.2.2.2.2.2)) → va_S A s.heap H locs → W p l e R s m args below meth c H locs 0 0 Q (F0 m 44 ls [])) → W p l e R s m args below meth c H locs 0 0 Q (F0 m 22 ls []) := by
  intro n
  induction n with
  | zero =>
    intro i tn to ta tp tk tw tl tc ts tv sn sK sA sB sC sL gn gp gh ls H locs hc hc1 hi htn0 htn1 hto hsl hm hl hP hD hS kk
    exact absurd hm (Nat.not_lt_zero _)
  | succ n ih =>
    intro i tn to ta tp tk tw tl tc ts tv sn sK sA sB sC sL gn gp gh ls H locs hc hc1 hi htn0 htn1 hto hsl hm hl hP hD hS kk
    refine lv_iload_n hx hb dLa_layAll_22 rfl (lv_at hl 1 rfl) ?_
    refine lv_aload_n hx hb dLa_layAll_23 rfl (lv_at hl 0 rfl) ?_
    refine va_get (D := D) (ci := 1) (v := .ref (ad 1)) (C := RLa) (T := TLa) (N := 12) hx hb hw pinLa hown hE.1 hP 0 rfl rfl 0 (by decide) (hw _ wd_100) (fun _ h9 => h9) rfl dLa_layAll_24 ?_
    refine va_getN (D := D) (ci := 3) (v := .int sn) (C := RSo) (T := TSo) (N := 6) hx hb hw pinSo hown hE.1 hP 5 rfl rfl 5 (by decide) (va_Nw.use rfl (hE.2 _ nw_13)) (fun _ h9 => h9) rfl dLa_layAll_27 ?_
    refine lv_icmp_ge (tgt := 44) hx hb dLa_layAll_30 (by decide) (fun h1 => ?_) (fun h1 => ?_)
    · have e9 : LLa_layAll_22 (n + 1) tw sn sK sA sB sC sL i tl tc ts tv tn to ta tp tk gh = (i, tl, tc, ts, tv, tn, to, ta, tp, tk, gh) := by simp only [LLa_layAll_22, if_pos h1]
      rw [e9] at kk
      exact kk ls H locs htn0 htn1 hto (lv_sub hl [0, 1] rfl) hP hD hS
    · refine lv_aload_n hx hb dLa_layAll_33 rfl (lv_at hl 0 rfl) ?_
      refine lv_iload_n hx hb dLa_layAll_34 rfl (lv_at hl 1 rfl) ?_
      obtain ⟨g1, hg1⟩ : ∃ g9, FLa_layLine (nI i) tn to ta tp tk tw tl tc ts tv sK sA sB sC sL gh = g9 := ⟨_, rfl⟩
      have cg1 := k_La_layLine l D ad cI cS (nI i) tn to ta tp tk tw tl tc ts tv sn sK sA sB sC sL gn gp gh (pq_ix hc hc1 (by decide) (by omega) (by assumption)) htn0 htn1 hto hsl
      rw [hg1] at cg1
      refine pq_callvp (wc := (wL ad cI cS tn to ta tp tk tw tl tc ts tv sn sK sA sB sC sL gn gp gh)) (wr := ([] : List Nat).filterMap (fun i => (wL ad cI cS tn to ta tp tk tw tl tc ts tv sn sK sA sB sC sL gn gp gh)[i]?)) hP hD hS hA [0, 1, 2, 3, 4, 5, 6, 7, 8, 9, 10, 11, 12] [] rfl rfl (by decide) (by decide) (va_runV (own := RLa) (C := RLa) (As := [.int (nI i)]) (rest := []) ⟨hx, hb, hml, hown, hw⟩ (cg1 H.size) ⟨pq_cwB 1 hw wd_158 wd_108 wd_157 rfl rfl (by decide +kernel) ⟨Nat.le_trans (by decide) hR.1, Nat.le_trans (by decide) hR.2⟩, hw _ wd_159, hw _ wd_160⟩ (pq_preV (ci := 1) (C := RLa) (T := TLa) (N := 12) hE (hP.sub [0, 1, 2, 3, 4, 5, 6, 7, 8, 9, 10, 11, 12] rfl) (hD.sub [0, 1, 2, 3, 4, 5, 6, 7, 8, 9, 10, 11, 12] (by decide) rfl) rfl 0 rfl) rfl rfl hl.1 rfl (lv_room (Nat.le_of_ble_eq_true rfl)) dLa_layAll_35 ⟨Nat.zero_le _, Nat.zero_le _⟩) (fun hq9 H locs hP hD hS => ?_)
      obtain ⟨htn0, htn1, hto⟩ := hq9
      have hP : va_P D vwCl (wL ad cI cS g1.2.2.2.2.1 g1.2.2.2.2.2.1 g1.2.2.2.2.2.2.1 g1.2.2.2.2.2.2.2.1 g1.2.2.2.2.2.2.2.2.1 tw g1.1 g1.2.1 g1.2.2.1 g1.2.2.2.1 sn sK sA sB sC sL gn gp g1.2.2.2.2.2.2.2.2.2) H := hP.sub [0, 1, 2, 3, 4, 5, 6, 7, 8, 9, 10, 11, 12] rfl
      have hD : va_D _ (wL ad cI cS g1.2.2.2.2.1 g1.2.2.2.2.2.1 g1.2.2.2.2.2.2.1 g1.2.2.2.2.2.2.2.1 g1.2.2.2.2.2.2.2.2.1 tw g1.1 g1.2.1 g1.2.2.1 g1.2.2.2.1 sn sK sA sB sC sL gn gp g1.2.2.2.2.2.2.2.2.2) := hD.sub [0, 1, 2, 3, 4, 5, 6, 7, 8, 9, 10, 11, 12] (by decide) rfl
      refine lv_iinc (k := 1) (v := (nI i) + 1) (lv' := [(1, .int ((nI i) + 1)), (0, .ref (ad 3))]) hx hb dLa_layAll_38 hl rfl (by first | rfl | decide) (by decide) rfl (fun ls hl => ?_)
      refine lv_goto (tgt := 22) hx hb dLa_layAll_41 (by decide) ?_
      have e9 : LLa_layAll_22 (n + 1) tw sn sK sA sB sC sL i tl tc ts tv tn to ta tp tk gh = LLa_layAll_22 n tw sn sK sA sB sC sL (i + 1) g1.1 g1.2.1 g1.2.2.1 g1.2.2.2.1 g1.2.2.2.2.1 g1.2.2.2.2.2.1 g1.2.2.2.2.2.2.1 g1.2.2.2.2.2.2.2.1 g1.2.2.2.2.2.2.2.2.1 g1.2.2.2.2.2.2.2.2.2 := by simp only [LLa_layAll_22, hg1, if_neg h1]
      rw [e9] at kk
      rw [nI_1] at hl
      exact ih (i + 1) g1.2.2.2.2.1 g1.2.2.2.2.2.1 g1.2.2.2.2.2.2.1 g1.2.2.2.2.2.2.2.1 g1.2.2.2.2.2.2.2.2.1 tw g1.1 g1.2.1 g1.2.2.1 g1.2.2.2.1 sn sK sA sB sC sL gn gp g1.2.2.2.2.2.2.2.2.2 ls H locs hc hc1 (by have := pq_lt (j := i) hc (by omega) (by omega) (by assumption); omega) htn0 htn1 hto hsl (by have := pq_lt (j := i) hc (by omega) (by omega) (by assumption); omega) (lv_sub hl [1, 0] rfl) hP hD hS kk
def FLa_layAll (to : Int32) (tw : Int32) (tl : Nat → Int32) (tc : Nat → Int32) (ts : Nat → Int32) (tv : Nat → Int32) (sn : Int32) (sK : Nat → Int32) (sA : Nat → Int32) (sB : Nat → Int32) (sC : Nat → Int32) (sL : Nat → Int32) (gh : Nat → Int32) : (Nat → Int32) × (Nat → Int32) × (Nat → Int32) × (Nat → Int32) × Int32 × Int32 × Int32 × Int32 × Int32 × (Nat → Int32) := ((LLa_layAll_22 (sn.toInt.toNat + 1) tw sn sK sA sB sC sL 0 tl tc ts tv 0 to 0 0 (-1) gh).2.1, (FLa_putPool sn (LLa_layAll_22 (sn.toInt.toNat + 1) tw sn sK sA sB sC sL 0 tl tc ts tv 0 to 0 0 (-1) gh).2.2.2.2.2.1 (LLa_layAll_22 (sn.toInt.toNat + 1) tw sn sK sA sB sC sL 0 tl tc ts tv 0 to 0 0 (-1) gh).2.2.2.2.2.2.1 (LLa_layAll_22 (sn.toInt.toNat + 1) tw sn sK sA sB sC sL 0 tl tc ts tv 0 to 0 0 (-1) gh).2.2.2.2.2.2.2.1 (LLa_layAll_22 (sn.toInt.toNat + 1) tw sn sK sA sB sC sL 0 tl tc ts tv 0 to 0 0 (-1) gh).2.2.2.2.2.2.2.2.1 (LLa_layAll_22 (sn.toInt.toNat + 1) tw sn sK sA sB sC sL 0 tl tc ts tv 0 to 0 0 (-1) gh).2.2.2.2.2.2.2.2.2.1 tw (LLa_layAll_22 (sn.toInt.toNat + 1) tw sn sK sA sB sC sL 0 tl tc ts tv 0 to 0 0 (-1) gh).2.2.1 (LLa_layAll_22 (sn.toInt.toNat + 1) tw sn sK sA sB sC sL 0 tl tc ts tv 0 to 0 0 (-1) gh).2.2.2.1 (LLa_layAll_22 (sn.toInt.toNat + 1) tw sn sK sA sB sC sL 0 tl tc ts tv 0 to 0 0 (-1) gh).2.2.2.2.1 sK (LLa_layAll_22 (sn.toInt.toNat + 1) tw sn sK sA sB sC sL 0 tl tc ts tv 0 to 0 0 (-1) gh).2.2.2.2.2.2.2.2.2.2).2.2.1, (LLa_layAll_22 (sn.toInt.toNat + 1) tw sn sK sA sB sC sL 0 tl tc ts tv 0 to 0 0 (-1) gh).2.2.2.1, (LLa_layAll_22 (sn.toInt.toNat + 1) tw sn sK sA sB sC sL 0 tl tc ts tv 0 to 0 0 (-1) gh).2.2.2.2.1, (FLa_putPool sn (LLa_layAll_22 (sn.toInt.toNat + 1) tw sn sK sA sB sC sL 0 tl tc ts tv 0 to 0 0 (-1) gh).2.2.2.2.2.1 (LLa_layAll_22 (sn.toInt.toNat + 1) tw sn sK sA sB sC sL 0 tl tc ts tv 0 to 0 0 (-1) gh).2.2.2.2.2.2.1 (LLa_layAll_22 (sn.toInt.toNat + 1) tw sn sK sA sB sC sL 0 tl tc ts tv 0 to 0 0 (-1) gh).2.2.2.2.2.2.2.1 (LLa_layAll_22 (sn.toInt.toNat + 1) tw sn sK sA sB sC sL 0 tl tc ts tv 0 to 0 0 (-1) gh).2.2.2.2.2.2.2.2.1 (LLa_layAll_22 (sn.toInt.toNat + 1) tw sn sK sA sB sC sL 0 tl tc ts tv 0 to 0 0 (-1) gh).2.2.2.2.2.2.2.2.2.1 tw (LLa_layAll_22 (sn.toInt.toNat + 1) tw sn sK sA sB sC sL 0 tl tc ts tv 0 to 0 0 (-1) gh).2.2.1 (LLa_layAll_22 (sn.toInt.toNat + 1) tw sn sK sA sB sC sL 0 tl tc ts tv 0 to 0 0 (-1) gh).2.2.2.1 (LLa_layAll_22 (sn.toInt.toNat + 1) tw sn sK sA sB sC sL 0 tl tc ts tv 0 to 0 0 (-1) gh).2.2.2.2.1 sK (LLa_layAll_22 (sn.toInt.toNat + 1) tw sn sK sA sB sC sL 0 tl tc ts tv 0 to 0 0 (-1) gh).2.2.2.2.2.2.2.2.2.2).2.2.2.1, (LLa_layAll_22 (sn.toInt.toNat + 1) tw sn sK sA sB sC sL 0 tl tc ts tv 0 to 0 0 (-1) gh).2.2.2.2.2.2.1, (FLa_putPool sn (LLa_layAll_22 (sn.toInt.toNat + 1) tw sn sK sA sB sC sL 0 tl tc ts tv 0 to 0 0 (-1) gh).2.2.2.2.2.1 (LLa_layAll_22 (sn.toInt.toNat + 1) tw sn sK sA sB sC sL 0 tl tc ts tv 0 to 0 0 (-1) gh).2.2.2.2.2.2.1 (LLa_layAll_22 (sn.toInt.toNat + 1) tw sn sK sA sB sC sL 0 tl tc ts tv 0 to 0 0 (-1) gh).2.2.2.2.2.2.2.1 (LLa_layAll_22 (sn.toInt.toNat + 1) tw sn sK sA sB sC sL 0 tl tc ts tv 0 to 0 0 (-1) gh).2.2.2.2.2.2.2.2.1 (LLa_layAll_22 (sn.toInt.toNat + 1) tw sn sK sA sB sC sL 0 tl tc ts tv 0 to 0 0 (-1) gh).2.2.2.2.2.2.2.2.2.1 tw (LLa_layAll_22 (sn.toInt.toNat + 1) tw sn sK sA sB sC sL 0 tl tc ts tv 0 to 0 0 (-1) gh).2.2.1 (LLa_layAll_22 (sn.toInt.toNat + 1) tw sn sK sA sB sC sL 0 tl tc ts tv 0 to 0 0 (-1) gh).2.2.2.1 (LLa_layAll_22 (sn.toInt.toNat + 1) tw sn sK sA sB sC sL 0 tl tc ts tv 0 to 0 0 (-1) gh).2.2.2.2.1 sK (LLa_layAll_22 (sn.toInt.toNat + 1) tw sn sK sA sB sC sL 0 tl tc ts tv 0 to 0 0 (-1) gh).2.2.2.2.2.2.2.2.2.2).1, (FLa_putPool sn (LLa_layAll_22 (sn.toInt.toNat + 1) tw sn sK sA sB sC sL 0 tl tc ts tv 0 to 0 0 (-1) gh).2.2.2.2.2.1 (LLa_layAll_22 (sn.toInt.toNat + 1) tw sn sK sA sB sC sL 0 tl tc ts tv 0 to 0 0 (-1) gh).2.2.2.2.2.2.1 (LLa_layAll_22 (sn.toInt.toNat + 1) tw sn sK sA sB sC sL 0 tl tc ts tv 0 to 0 0 (-1) gh).2.2.2.2.2.2.2.1 (LLa_layAll_22 (sn.toInt.toNat + 1) tw sn sK sA sB sC sL 0 tl tc ts tv 0 to 0 0 (-1) gh).2.2.2.2.2.2.2.2.1 (LLa_layAll_22 (sn.toInt.toNat + 1) tw sn sK sA sB sC sL 0 tl tc ts tv 0 to 0 0 (-1) gh).2.2.2.2.2.2.2.2.2.1 tw (LLa_layAll_22 (sn.toInt.toNat + 1) tw sn sK sA sB sC sL 0 tl tc ts tv 0 to 0 0 (-1) gh).2.2.1 (LLa_layAll_22 (sn.toInt.toNat + 1) tw sn sK sA sB sC sL 0 tl tc ts tv 0 to 0 0 (-1) gh).2.2.2.1 (LLa_layAll_22 (sn.toInt.toNat + 1) tw sn sK sA sB sC sL 0 tl tc ts tv 0 to 0 0 (-1) gh).2.2.2.2.1 sK (LLa_layAll_22 (sn.toInt.toNat + 1) tw sn sK sA sB sC sL 0 tl tc ts tv 0 to 0 0 (-1) gh).2.2.2.2.2.2.2.2.2.2).2.2.2.2, (LLa_layAll_22 (sn.toInt.toNat + 1) tw sn sK sA sB sC sL 0 tl tc ts tv 0 to 0 0 (-1) gh).2.2.2.2.2.2.2.2.2.1, (FLa_putPool sn (LLa_layAll_22 (sn.toInt.toNat + 1) tw sn sK sA sB sC sL 0 tl tc ts tv 0 to 0 0 (-1) gh).2.2.2.2.2.1 (LLa_layAll_22 (sn.toInt.toNat + 1) tw sn sK sA sB sC sL 0 tl tc ts tv 0 to 0 0 (-1) gh).2.2.2.2.2.2.1 (LLa_layAll_22 (sn.toInt.toNat + 1) tw sn sK sA sB sC sL 0 tl tc ts tv 0 to 0 0 (-1) gh).2.2.2.2.2.2.2.1 (LLa_layAll_22 (sn.toInt.toNat + 1) tw sn sK sA sB sC sL 0 tl tc ts tv 0 to 0 0 (-1) gh).2.2.2.2.2.2.2.2.1 (LLa_layAll_22 (sn.toInt.toNat + 1) tw sn sK sA sB sC sL 0 tl tc ts tv 0 to 0 0 (-1) gh).2.2.2.2.2.2.2.2.2.1 tw (LLa_layAll_22 (sn.toInt.toNat + 1) tw sn sK sA sB sC sL 0 tl tc ts tv 0 to 0 0 (-1) gh).2.2.1 (LLa_layAll_22 (sn.toInt.toNat + 1) tw sn sK sA sB sC sL 0 tl tc ts tv 0 to 0 0 (-1) gh).2.2.2.1 (LLa_layAll_22 (sn.toInt.toNat + 1) tw sn sK sA sB sC sL 0 tl tc ts tv 0 to 0 0 (-1) gh).2.2.2.2.1 sK (LLa_layAll_22 (sn.toInt.toNat + 1) tw sn sK sA sB sC sL 0 tl tc ts tv 0 to 0 0 (-1) gh).2.2.2.2.2.2.2.2.2.2).2.1)
set_option maxHeartbeats 4000000 in
set_option maxRecDepth 100000 in
theorem k_La_layAll (l : Launch) (D : va_G) (ad : Nat → Nat) (cI cS : ClassId) (tn : Int32) (to : Int32) (ta : Int32) (tp : Int32) (tk : Int32) (tw : Int32) (tl : Nat → Int32) (tc : Nat → Int32) (ts : Nat → Int32) (tv : Nat → Int32) (sn : Int32) (sK : Nat → Int32) (sA : Nat → Int32) (sB : Nat → Int32) (sC : Nat → Int32) (sL : Nat → Int32) (gn : Int32) (gp : Int32) (gh : Nat → Int32) (hto : vp_in to 160) (hsn0 : ¬ sn < 0) (hsn1 : sn.toInt ≤ 160) (hsl : ∀ j : Nat, j < 16 → ¬ sL j = (-1) → vp_in (sL j) 160) : pq_VP l yLa_layAll (.code yLa_layAll cLa_layAll 2 none :: pq_ws) { frames := 4, cells := 0, slots := 0, locals := 92 } D cI cS [.ref (ad 3)] (wL ad cI cS tn to ta tp tk tw tl tc ts tv sn sK sA sB sC sL gn gp gh) ((vp_in ((FLa_layAll to tw tl tc ts tv sn sK sA sB sC sL gh).2.2.2.2.2.1) 160)) (wL ad cI cS ((FLa_layAll to tw tl tc ts tv sn sK sA sB sC sL gh).2.2.2.2.1) ((FLa_layAll to tw tl tc ts tv sn sK sA sB sC sL gh).2.2.2.2.2.1) ((FLa_layAll to tw tl tc ts tv sn sK sA sB sC sL gh).2.2.2.2.2.2.1) ((FLa_layAll to tw tl tc ts tv sn sK sA sB sC sL gh).2.2.2.2.2.2.2.1) ((FLa_layAll to tw tl tc ts tv sn sK sA sB sC sL gh).2.2.2.2.2.2.2.2.1) tw ((FLa_layAll to tw tl tc ts tv sn sK sA sB sC sL gh).1) ((FLa_layAll to tw tl tc ts tv sn sK sA sB sC sL gh).2.1) ((FLa_layAll to tw tl tc ts tv sn sK sA sB sC sL gh).2.2.1) ((FLa_layAll to tw tl tc ts tv sn sK sA sB sC sL gh).2.2.2.1) sn sK sA sB sC sL gn gp ((FLa_layAll to tw tl tc ts tv sn sK sA sB sC sL gh).2.2.2.2.2.2.2.2.2)) := by
  intro sz
  refine Met.ofW (cc := cLa_layAll) (maxL := 2) (ret := none) (by decide) rfl ?_
  intro p e s m args below meth c s₁ B hml hv
  obtain ⟨rfl, hsz, hP, hD0, hE⟩ := hv
  have hx := B.exec
  have hb := B.bytes
  have hr := B.returns
  have hts := atoms_spec (ws := (.code yLa_layAll cLa_layAll 2 none :: pq_ws : List Cond)) B.pre
  have hw : ∀ w ∈ pq_ws, w.before _ s = true := fun w h => hts w (List.mem_cons_of_mem _ h)
  have hown : s.vm.findClass RLa = some m.cls := findClass_of_methodNamed B.named
  have hlocks := B.notSynchronized
  subst hsz
  have hD := hD0.self (sz := s.heap.size)
  have hA : ∀ q : Nat, s.heap.size ≤ q → va_A (wL ad cI cS tn to ta tp tk tw tl tc ts tv sn sK sA sB sC sL gn gp gh) s.heap.size q := fun q h => Or.inr h
  have hS : va_S (va_A (wL ad cI cS tn to ta tp tk tw tl tc ts tv sn sK sA sB sC sL gn gp gh) s.heap.size) s.heap s.heap [] := va_S.rf
  have hl := lv_entry ([.ref (ad 3)] : List Value) (n := 2) (Nat.le_of_ble_eq_true rfl)
  rw [lg_entry_eq]
  generalize (lg_sl ([.ref (ad 3)] : List Value) ++ List.replicate (2 - (lg_sl ([.ref (ad 3)] : List Value)).length) Slot.unset).toArray = ls at hl ⊢
  have hl : lv_has ls 2 [(0, .ref (ad 3))] := hl
  refine lv_aload_n hx hb dLa_layAll_0 rfl (lv_at hl 0 rfl) ?_
  refine lv_iconst (v := 0) hx hb dLa_layAll_1 (by first | rfl | decide) ?_
  refine va_put (D := D) (ci := 1) (v := .int 0) (ty := .int) (C := RLa) (T := TLa) (N := 12) hx hb hw pinLa tyLa tyLa_ok nmLa hown hE.1 hP hD hS 0 rfl rfl 8 (by decide) (hw _ wd_95) (fun _ h9 => h9) rfl (by decide +kernel) rfl rfl (Nat.le_of_ble_eq_true rfl) dLa_layAll_2 (fun H locs hP hD hS => ?_)
  have hP : va_P D vwCl (wL ad cI cS tn to 0 tp tk tw tl tc ts tv sn sK sA sB sC sL gn gp gh) H := hP
  have hD : va_D _ (wL ad cI cS tn to 0 tp tk tw tl tc ts tv sn sK sA sB sC sL gn gp gh) := hD
  refine lv_aload_n hx hb dLa_layAll_5 rfl (lv_at hl 0 rfl) ?_
  refine lv_iconst (v := 0) hx hb dLa_layAll_6 (by first | rfl | decide) ?_
  refine va_put (D := D) (ci := 1) (v := .int 0) (ty := .int) (C := RLa) (T := TLa) (N := 12) hx hb hw pinLa tyLa tyLa_ok nmLa hown hE.1 hP hD hS 0 rfl rfl 9 (by decide) (hw _ wd_137) (fun _ h9 => h9) rfl (by decide +kernel) rfl rfl (Nat.le_of_ble_eq_true rfl) dLa_layAll_7 (fun H locs hP hD hS => ?_)
  have hP : va_P D vwCl (wL ad cI cS tn to 0 0 tk tw tl tc ts tv sn sK sA sB sC sL gn gp gh) H := hP
  have hD : va_D _ (wL ad cI cS tn to 0 0 tk tw tl tc ts tv sn sK sA sB sC sL gn gp gh) := hD
  refine lv_aload_n hx hb dLa_layAll_10 rfl (lv_at hl 0 rfl) ?_
  refine lv_iconst (v := 0) hx hb dLa_layAll_11 (by first | rfl | decide) ?_
  refine va_put (D := D) (ci := 1) (v := .int 0) (ty := .int) (C := RLa) (T := TLa) (N := 12) hx hb hw pinLa tyLa tyLa_ok nmLa hown hE.1 hP hD hS 0 rfl rfl 6 (by decide) (hw _ wd_123) (fun _ h9 => h9) rfl (by decide +kernel) rfl rfl (Nat.le_of_ble_eq_true rfl) dLa_layAll_12 (fun H locs hP hD hS => ?_)
  have hP : va_P D vwCl (wL ad cI cS 0 to 0 0 tk tw tl tc ts tv sn sK sA sB sC sL gn gp gh) H := hP
  have hD : va_D _ (wL ad cI cS 0 to 0 0 tk tw tl tc ts tv sn sK sA sB sC sL gn gp gh) := hD
  refine lv_aload_n hx hb dLa_layAll_15 rfl (lv_at hl 0 rfl) ?_
  refine lv_iconst (v := (-1)) hx hb dLa_layAll_16 (by first | rfl | decide) ?_
  refine va_put (D := D) (ci := 1) (v := .int (-1)) (ty := .int) (C := RLa) (T := TLa) (N := 12) hx hb hw pinLa tyLa tyLa_ok nmLa hown hE.1 hP hD hS 0 rfl rfl 10 (by decide) (hw _ wd_136) (fun _ h9 => h9) rfl (by decide +kernel) rfl rfl (Nat.le_of_ble_eq_true rfl) dLa_layAll_17 (fun H locs hP hD hS => ?_)
  have hP : va_P D vwCl (wL ad cI cS 0 to 0 0 (-1) tw tl tc ts tv sn sK sA sB sC sL gn gp gh) H := hP
  have hD : va_D _ (wL ad cI cS 0 to 0 0 (-1) tw tl tc ts tv sn sK sA sB sC sL gn gp gh) := hD
  refine lv_iconst (v := 0) hx hb dLa_layAll_20 (by first | rfl | decide) ?_
  refine lv_istore_n (lv' := [(1, .int 0), (0, .ref (ad 3))]) hx hb dLa_layAll_21 rfl hl (by decide) rfl (fun ls hl => ?_)
  obtain ⟨g2, hg2⟩ : ∃ g9, LLa_layAll_22 (sn.toInt.toNat + 1) tw sn sK sA sB sC sL 0 tl tc ts tv 0 to 0 0 (-1) gh = g9 := ⟨_, rfl⟩
  refine qLa_layAll_22 D ad cI cS hx hb hml hw hown hE hA ⟨Nat.le_of_ble_eq_true rfl, Nat.le_of_ble_eq_true rfl⟩ sn.toInt.toNat (sn.toInt.toNat + 1) 0 0 to 0 0 (-1) tw tl tc ts tv sn sK sA sB sC sL gn gp gh ls H locs (pq_nat hsn0) (pq_nat_le hsn1) (Nat.zero_le _) (by decide) (by decide) hto hsl (by omega) (lv_sub hl [1, 0] rfl) hP hD hS (fun ls H locs htn0 htn1 hto hl hP hD hS => ?_)
  try rw [hg2] at hl
  try rw [hg2] at hP
  try rw [hg2] at hD
  try rw [hg2] at htn0
  try rw [hg2] at htn1
  try rw [hg2] at hto
  have hP : va_P D vwCl (wL ad cI cS g2.2.2.2.2.2.1 g2.2.2.2.2.2.2.1 g2.2.2.2.2.2.2.2.1 g2.2.2.2.2.2.2.2.2.1 g2.2.2.2.2.2.2.2.2.2.1 tw g2.2.1 g2.2.2.1 g2.2.2.2.1 g2.2.2.2.2.1 sn sK sA sB sC sL gn gp g2.2.2.2.2.2.2.2.2.2.2) H := hP
  have hD : va_D _ (wL ad cI cS g2.2.2.2.2.2.1 g2.2.2.2.2.2.2.1 g2.2.2.2.2.2.2.2.1 g2.2.2.2.2.2.2.2.2.1 g2.2.2.2.2.2.2.2.2.2.1 tw g2.2.1 g2.2.2.1 g2.2.2.2.1 g2.2.2.2.2.1 sn sK sA sB sC sL gn gp g2.2.2.2.2.2.2.2.2.2.2) := hD
  refine lv_aload_n hx hb dLa_layAll_44 rfl (lv_at hl 0 rfl) ?_
  refine lv_aload_n hx hb dLa_layAll_45 rfl (lv_at hl 0 rfl) ?_
  refine va_get (D := D) (ci := 1) (v := .ref (ad 1)) (C := RLa) (T := TLa) (N := 12) hx hb hw pinLa hown hE.1 hP 0 rfl rfl 0 (by decide) (hw _ wd_100) (fun _ h9 => h9) rfl dLa_layAll_46 ?_
  refine va_getN (D := D) (ci := 3) (v := .int sn) (C := RSo) (T := TSo) (N := 6) hx hb hw pinSo hown hE.1 hP 5 rfl rfl 5 (by decide) (va_Nw.use rfl (hE.2 _ nw_13)) (fun _ h9 => h9) rfl dLa_layAll_49 ?_
  obtain ⟨g3, hg3⟩ : ∃ g9, FLa_putPool sn g2.2.2.2.2.2.1 g2.2.2.2.2.2.2.1 g2.2.2.2.2.2.2.2.1 g2.2.2.2.2.2.2.2.2.1 g2.2.2.2.2.2.2.2.2.2.1 tw g2.2.2.1 g2.2.2.2.1 g2.2.2.2.2.1 sK g2.2.2.2.2.2.2.2.2.2.2 = g9 := ⟨_, rfl⟩
  have cg3 := k_La_putPool l D ad cI cS sn g2.2.2.2.2.2.1 g2.2.2.2.2.2.2.1 g2.2.2.2.2.2.2.2.1 g2.2.2.2.2.2.2.2.2.1 g2.2.2.2.2.2.2.2.2.2.1 tw g2.2.1 g2.2.2.1 g2.2.2.2.1 g2.2.2.2.2.1 sn sK sA sB sC sL gn gp g2.2.2.2.2.2.2.2.2.2.2 htn0 htn1 hto hsn0 hsn1
  rw [hg3] at cg3
  refine pq_callvp (wc := (wL ad cI cS g2.2.2.2.2.2.1 g2.2.2.2.2.2.2.1 g2.2.2.2.2.2.2.2.1 g2.2.2.2.2.2.2.2.2.1 g2.2.2.2.2.2.2.2.2.2.1 tw g2.2.1 g2.2.2.1 g2.2.2.2.1 g2.2.2.2.2.1 sn sK sA sB sC sL gn gp g2.2.2.2.2.2.2.2.2.2.2)) (wr := ([] : List Nat).filterMap (fun i => (wL ad cI cS g2.2.2.2.2.2.1 g2.2.2.2.2.2.2.1 g2.2.2.2.2.2.2.2.1 g2.2.2.2.2.2.2.2.2.1 g2.2.2.2.2.2.2.2.2.2.1 tw g2.2.1 g2.2.2.1 g2.2.2.2.1 g2.2.2.2.2.1 sn sK sA sB sC sL gn gp g2.2.2.2.2.2.2.2.2.2.2)[i]?)) hP hD hS hA [0, 1, 2, 3, 4, 5, 6, 7, 8, 9, 10, 11, 12] [] rfl rfl (by decide) (by decide) (va_runV (own := RLa) (C := RLa) (As := [.int sn]) (rest := []) ⟨hx, hb, hml, hown, hw⟩ (cg3 H.size) ⟨pq_cwB 1 hw wd_147 wd_108 wd_146 rfl rfl (by decide +kernel) ⟨Nat.le_of_ble_eq_true rfl, Nat.le_of_ble_eq_true rfl⟩, hw _ wd_148, hw _ wd_149⟩ (pq_preV (ci := 1) (C := RLa) (T := TLa) (N := 12) hE (hP.sub [0, 1, 2, 3, 4, 5, 6, 7, 8, 9, 10, 11, 12] rfl) (hD.sub [0, 1, 2, 3, 4, 5, 6, 7, 8, 9, 10, 11, 12] (by decide) rfl) rfl 0 rfl) rfl rfl hl.1 rfl (lv_room (Nat.le_of_ble_eq_true rfl)) dLa_layAll_52 ⟨Nat.zero_le _, Nat.zero_le _⟩) (fun hq9 H locs hP hD hS => ?_)
  obtain ⟨htn0, htn1⟩ := hq9
  have hP : va_P D vwCl (wL ad cI cS g3.2.2.2.1 g2.2.2.2.2.2.2.1 g3.1 g3.2.2.2.2 g2.2.2.2.2.2.2.2.2.2.1 tw g2.2.1 g3.2.2.1 g2.2.2.2.1 g2.2.2.2.2.1 sn sK sA sB sC sL gn gp g3.2.1) H := hP.sub [0, 1, 2, 3, 4, 5, 6, 7, 8, 9, 10, 11, 12] rfl
  have hD : va_D _ (wL ad cI cS g3.2.2.2.1 g2.2.2.2.2.2.2.1 g3.1 g3.2.2.2.2 g2.2.2.2.2.2.2.2.2.2.1 tw g2.2.1 g3.2.2.1 g2.2.2.2.1 g2.2.2.2.2.1 sn sK sA sB sC sL gn gp g3.2.1) := hD.sub [0, 1, 2, 3, 4, 5, 6, 7, 8, 9, 10, 11, 12] (by decide) rfl
  have e9 : FLa_layAll to tw tl tc ts tv sn sK sA sB sC sL gh = (g2.2.1, g3.2.2.1, g2.2.2.2.1, g2.2.2.2.2.1, g3.2.2.2.1, g2.2.2.2.2.2.2.1, g3.1, g3.2.2.2.2, g2.2.2.2.2.2.2.2.2.2.1, g3.2.1) := by simp only [FLa_layAll, hg2, hg3]
  have p9 : (vp_in g2.2.2.2.2.2.2.1 160) := by assumption
  exact W.vret hx hb hr (fun t ht hW => ⟨⟨(), rfl, by rw [e9]; exact p9, by rw [e9, ht]; exact hP, by rw [e9]; exact hD⟩, hS.F ht⟩) hS.2.2 dLa_layAll_55
def LLa_settleLabels_15 : Nat → (Nat → Int32) → (Nat → Int32) → (Int32) → (Nat) → (Nat → Int32) → Int32 × Nat × (Nat → Int32)
  | 0, _, _, v, j, tl => (v, j, tl)
  | n + 1, sK, sA, v, j, tl => if (nI j - 1) < 0 then (v, j, tl) else if (FSo_halvesOf (nI j - 1) sK sA) ≤ 0 then LLa_settleLabels_15 n sK sA v (j - 1) (upd tl (nI j - 1).toNatClampNeg v) else LLa_settleLabels_15 n sK sA (tl (nI j - 1).toNatClampNeg) (j - 1) tl
set_option maxHeartbeats 4000000 in
set_option maxRecDepth 100000 in
theorem qLa_settleLabels_15 {p : Program} {l : Launch} {e : Env} {R : Room} {s : State} {m : MethodId} {args : Array Value} {below : List Frame} {meth : Method} {c : Code} {Q : State → Prop} {A : Nat → Prop} (D : va_G) (ad : Nat → Nat) (cI cS : ClassId) (hx : p.tables.exec = Jvm.exec) (hb : c.code = cLa_settleLabels) (hml : c.maxLocals = 3) (hw : ∀ w ∈ pq_ws, w.before args s = true) (hown : s.vm.findClass RLa = some m.cls) (hE : pq_E D cI cS s) (hA : ∀ q : Nat, s.heap.size ≤ q → A q) (hR : 1 ≤ R.frames ∧ 21 ≤ R.locals) : ∀ (n : Nat) (v : Int32) (j : Nat) (tn : Int32) (to : Int32) (ta : Int32) (tp : Int32) (tk : Int32) (tw : Int32) (tl : Nat → Int32) (tc : Nat → Int32) (ts : Nat → Int32) (tv : Nat → Int32) (sn : Int32) (sK : Nat → Int32) (sA : Nat → Int32) (sB : Nat → Int32) (sC : Nat → Int32) (sL : Nat → Int32) (gn : Int32) (gp : Int32) (gh : Nat → Int32) (ls : Array Slot) (H : Heap) (locs : List Loc), (j ≤ 160) → j < n → lv_has ls 3 [(0, .ref (ad 3)), (1, .int v), (2, .int (nI j - 1))] → va_P D vwCl (wL ad cI cS tn to ta tp tk tw tl tc ts tv sn sK sA sB sC sL gn gp gh) H → va_D A (wL ad cI cS tn to ta tp tk tw tl tc ts tv sn sK sA sB sC sL gn gp gh) → va_S A s.heap H locs → (∀ (ls : Array Slot) (H : Heap) (locs : List Loc), lv_has ls 3 [(0, .ref (ad 3)), (1, .int ((LLa_settleLabels_15 n sK sA v j tl).1)), (2, .int (nI ((LLa_settleLabels_15 n sK sA v j tl).2.1) - 1))] → va_P D vwCl (wL ad cI cS tn to ta tp tk tw ((LLa_settleLabels_15 n sK sA v j tl).2.2) tc ts tv sn sK sA sB sC sL gn gp gh) H → va_D A (wL ad cI cS tn to ta tp tk tw ((LLa_settleLabels_15 n sK sA v j tl).2.2) tc ts tv sn sK sA sB sC sL gn gp gh) → va_S A s.heap H locs → W p l e R s m args below meth c H locs 0 0 Q (F0 m 53 ls [])) → W p l e R s m args below meth c H locs 0 0 Q (F0 m 15 ls []) := by
  intro n
  induction n with
  | zero =>
    intro v j tn to ta tp tk tw tl tc ts tv sn sK sA sB sC sL gn gp gh ls H locs hj hm hl hP hD hS kk
    exact absurd hm (Nat.not_lt_zero _)
  | succ n ih =>
    intro v j tn to ta tp tk tw tl tc ts tv sn sK sA sB sC sL gn gp gh ls H locs hj hm hl hP hD hS kk
    refine lv_iload_n hx hb dLa_settleLabels_15 rfl (lv_at hl 2 rfl) ?_
    refine lv_if_lt (tgt := 53) hx hb dLa_settleLabels_16 (by decide) (fun h1 => ?_) (fun h1 => ?_)
    · have e9 : LLa_settleLabels_15 (n + 1) sK sA v j tl = (v, j, tl) := by simp only [LLa_settleLabels_15, if_pos h1]
      rw [e9] at kk
      exact kk ls H locs (lv_sub hl [0, 1, 2] rfl) hP hD hS
    · refine lv_aload_n hx hb dLa_settleLabels_19 rfl (lv_at hl 0 rfl) ?_
      refine va_get (D := D) (ci := 1) (v := .ref (ad 1)) (C := RLa) (T := TLa) (N := 12) hx hb hw pinLa hown hE.1 hP 0 rfl rfl 0 (by decide) (hw _ wd_100) (fun _ h9 => h9) rfl dLa_settleLabels_20 ?_
      refine lv_iload_n hx hb dLa_settleLabels_23 rfl (lv_at hl 2 rfl) ?_
      refine pq_calli (fr := (FSo_halvesOf (nI j - 1) sK sA)) (wc := (wS ad cI cS sn sK sA sB sC sL)) (wr := ([0, 1, 2, 3, 4, 11, 12] : List Nat).filterMap (fun i => (wL ad cI cS tn to ta tp tk tw tl tc ts tv sn sK sA sB sC sL gn gp gh)[i]?)) hP hD hS hA [5, 6, 7, 8, 9, 10] [0, 1, 2, 3, 4, 11, 12] rfl rfl (by decide) (by decide) (va_runVN (own := RLa) (C := RSo) (As := [.int (nI j - 1)]) (rest := []) ⟨hx, hb, hml, hown, hw⟩ (k_So_halvesOf l D ad cI cS (nI j - 1) sn sK sA sB sC sL (pq_dn_in hj (by assumption)) H.size) ⟨pq_cnB 1 hw (hE.2 _ nw_12) wd_102 wd_150 rfl rfl (by decide +kernel) ⟨Nat.le_trans (by decide) hR.1, Nat.le_trans (by decide) hR.2⟩, hw _ wd_151, hw _ wd_152⟩ (pq_preV (ci := 3) (C := RSo) (T := TSo) (N := 6) hE (hP.sub [5, 6, 7, 8, 9, 10] rfl) (hD.sub [5, 6, 7, 8, 9, 10] (by decide) rfl) rfl 0 rfl) rfl rfl hl.1 rfl (lv_room (Nat.le_of_ble_eq_true rfl)) dLa_settleLabels_24 ⟨Nat.zero_le _, Nat.zero_le _⟩) (fun H locs hP hD hS => ?_)
      have hP : va_P D vwCl (wL ad cI cS tn to ta tp tk tw tl tc ts tv sn sK sA sB sC sL gn gp gh) H := hP.sub [0, 1, 2, 3, 4, 7, 8, 9, 10, 11, 12, 5, 6] rfl
      have hD : va_D _ (wL ad cI cS tn to ta tp tk tw tl tc ts tv sn sK sA sB sC sL gn gp gh) := hD.sub [0, 1, 2, 3, 4, 7, 8, 9, 10, 11, 12, 5, 6] (by decide) rfl
      refine lv_if_le (tgt := 40) hx hb dLa_settleLabels_27 (by decide) (fun h2 => ?_) (fun h2 => ?_)
      · refine lv_aload_n hx hb dLa_settleLabels_40 rfl (lv_at hl 0 rfl) ?_
        refine va_get (D := D) (ci := 1) (v := .ref (ad 11)) (C := RLa) (T := TLa) (N := 12) hx hb hw pinLa hown hE.1 hP 0 rfl rfl 2 (by decide) (hw _ wd_106) (fun _ h9 => h9) rfl dLa_settleLabels_41 ?_
        refine lv_iload_n hx hb dLa_settleLabels_44 rfl (lv_at hl 2 rfl) ?_
        refine lv_iload_n hx hb dLa_settleLabels_45 rfl (lv_at hl 1 rfl) ?_
        refine va_iast hx hb hE.1 hP hD hS 1 0 rfl rfl (pq_dn_in hj (by assumption)) dLa_settleLabels_46 (fun H locs hP hD hS => ?_)
        have hP : va_P D vwCl (wL ad cI cS tn to ta tp tk tw (upd tl (nI j - 1).toNatClampNeg v) tc ts tv sn sK sA sB sC sL gn gp gh) H := hP
        have hD : va_D _ (wL ad cI cS tn to ta tp tk tw (upd tl (nI j - 1).toNatClampNeg v) tc ts tv sn sK sA sB sC sL gn gp gh) := hD
        refine lv_iinc (k := 2) (v := (nI j - 1) + (-1)) (lv' := [(2, .int ((nI j - 1) + (-1))), (0, .ref (ad 3)), (1, .int v)]) hx hb dLa_settleLabels_47 hl rfl (by first | rfl | decide) (by decide) rfl (fun ls hl => ?_)
        refine lv_goto (tgt := 15) hx hb dLa_settleLabels_50 (by decide) ?_
        have e9 : LLa_settleLabels_15 (n + 1) sK sA v j tl = LLa_settleLabels_15 n sK sA v (j - 1) (upd tl (nI j - 1).toNatClampNeg v) := by simp only [LLa_settleLabels_15, if_neg h1, if_pos h2]
        rw [e9] at kk
        rw [pq_dn_next hj (by assumption)] at hl
        exact ih v (j - 1) tn to ta tp tk tw (upd tl (nI j - 1).toNatClampNeg v) tc ts tv sn sK sA sB sC sL gn gp gh ls H locs (by omega) (by have := (pq_dn hj (by assumption)).1; omega) (lv_sub hl [1, 2, 0] rfl) hP hD hS kk
      · refine lv_aload_n hx hb dLa_settleLabels_30 rfl (lv_at hl 0 rfl) ?_
        refine va_get (D := D) (ci := 1) (v := .ref (ad 11)) (C := RLa) (T := TLa) (N := 12) hx hb hw pinLa hown hE.1 hP 0 rfl rfl 2 (by decide) (hw _ wd_106) (fun _ h9 => h9) rfl dLa_settleLabels_31 ?_
        refine lv_iload_n hx hb dLa_settleLabels_34 rfl (lv_at hl 2 rfl) ?_
        refine va_iald hx hb hE.1 hP 1 0 rfl rfl (pq_dn_in hj (by assumption)) dLa_settleLabels_35 ?_
        refine lv_istore_n (lv' := [(1, .int (tl (nI j - 1).toNatClampNeg)), (0, .ref (ad 3)), (2, .int (nI j - 1))]) hx hb dLa_settleLabels_36 rfl hl (by decide) rfl (fun ls hl => ?_)
        refine lv_goto (tgt := 47) hx hb dLa_settleLabels_37 (by decide) ?_
        refine lv_iinc (k := 2) (v := (nI j - 1) + (-1)) (lv' := [(2, .int ((nI j - 1) + (-1))), (1, .int (tl (nI j - 1).toNatClampNeg)), (0, .ref (ad 3))]) hx hb dLa_settleLabels_47 hl rfl (by first | rfl | decide) (by decide) rfl (fun ls hl => ?_)
        refine lv_goto (tgt := 15) hx hb dLa_settleLabels_50 (by decide) ?_
        have e9 : LLa_settleLabels_15 (n + 1) sK sA v j tl = LLa_settleLabels_15 n sK sA (tl (nI j - 1).toNatClampNeg) (j - 1) tl := by simp only [LLa_settleLabels_15, if_neg h1, if_neg h2]
        rw [e9] at kk
        rw [pq_dn_next hj (by assumption)] at hl
        exact ih (tl (nI j - 1).toNatClampNeg) (j - 1) tn to ta tp tk tw tl tc ts tv sn sK sA sB sC sL gn gp gh ls H locs (by omega) (by have := (pq_dn hj (by assumption)).1; omega) (lv_sub hl [2, 1, 0] rfl) hP hD hS kk
def FLa_settleLabels (ta : Int32) (tl : Nat → Int32) (sn : Int32) (sK : Nat → Int32) (sA : Nat → Int32) : (Nat → Int32) := (LLa_settleLabels_15 (sn.toInt.toNat + 1) sK sA ta sn.toInt.toNat tl).2.2
set_option maxHeartbeats 4000000 in
set_option maxRecDepth 100000 in
theorem k_La_settleLabels (l : Launch) (D : va_G) (ad : Nat → Nat) (cI cS : ClassId) (tn : Int32) (to : Int32) (ta : Int32) (tp : Int32) (tk : Int32) (tw : Int32) (tl : Nat → Int32) (tc : Nat → Int32) (ts : Nat → Int32) (tv : Nat → Int32) (sn : Int32) (sK : Nat → Int32) (sA : Nat → Int32) (sB : Nat → Int32) (sC : Nat → Int32) (sL : Nat → Int32) (gn : Int32) (gp : Int32) (gh : Nat → Int32) (hsn0 : ¬ sn < 0) (hsn1 : sn.toInt ≤ 160) : pq_V l yLa_settleLabels (.code yLa_settleLabels cLa_settleLabels 3 none :: pq_ws) { frames := 1, cells := 0, slots := 0, locals := 21 } D cI cS [.ref (ad 3)] (wL ad cI cS tn to ta tp tk tw tl tc ts tv sn sK sA sB sC sL gn gp gh) (wL ad cI cS tn to ta tp tk tw (FLa_settleLabels ta tl sn sK sA) tc ts tv sn sK sA sB sC sL gn gp gh) := by
  intro sz
  refine Met.ofW (cc := cLa_settleLabels) (maxL := 3) (ret := none) (by decide) rfl ?_
  intro p e s m args below meth c s₁ B hml hv
  obtain ⟨rfl, hsz, hP, hD0, hE⟩ := hv
  have hx := B.exec
  have hb := B.bytes
  have hr := B.returns
  have hts := atoms_spec (ws := (.code yLa_settleLabels cLa_settleLabels 3 none :: pq_ws : List Cond)) B.pre
  have hw : ∀ w ∈ pq_ws, w.before _ s = true := fun w h => hts w (List.mem_cons_of_mem _ h)
  have hown : s.vm.findClass RLa = some m.cls := findClass_of_methodNamed B.named
  have hlocks := B.notSynchronized
  subst hsz
  have hD := hD0.self (sz := s.heap.size)
  have hA : ∀ q : Nat, s.heap.size ≤ q → va_A (wL ad cI cS tn to ta tp tk tw tl tc ts tv sn sK sA sB sC sL gn gp gh) s.heap.size q := fun q h => Or.inr h
  have hS : va_S (va_A (wL ad cI cS tn to ta tp tk tw tl tc ts tv sn sK sA sB sC sL gn gp gh) s.heap.size) s.heap s.heap [] := va_S.rf
  have hl := lv_entry ([.ref (ad 3)] : List Value) (n := 3) (Nat.le_of_ble_eq_true rfl)
  rw [lg_entry_eq]
  generalize (lg_sl ([.ref (ad 3)] : List Value) ++ List.replicate (3 - (lg_sl ([.ref (ad 3)] : List Value)).length) Slot.unset).toArray = ls at hl ⊢
  have hl : lv_has ls 3 [(0, .ref (ad 3))] := hl
  refine lv_aload_n hx hb dLa_settleLabels_0 rfl (lv_at hl 0 rfl) ?_
  refine va_get (D := D) (ci := 1) (v := .int ta) (C := RLa) (T := TLa) (N := 12) hx hb hw pinLa hown hE.1 hP 0 rfl rfl 8 (by decide) (hw _ wd_95) (fun _ h9 => h9) rfl dLa_settleLabels_1 ?_
  refine lv_istore_n (lv' := [(1, .int ta), (0, .ref (ad 3))]) hx hb dLa_settleLabels_4 rfl hl (by decide) rfl (fun ls hl => ?_)
  refine lv_aload_n hx hb dLa_settleLabels_5 rfl (lv_at hl 1 rfl) ?_
  refine va_get (D := D) (ci := 1) (v := .ref (ad 1)) (C := RLa) (T := TLa) (N := 12) hx hb hw pinLa hown hE.1 hP 0 rfl rfl 0 (by decide) (hw _ wd_100) (fun _ h9 => h9) rfl dLa_settleLabels_6 ?_
  refine va_getN (D := D) (ci := 3) (v := .int sn) (C := RSo) (T := TSo) (N := 6) hx hb hw pinSo hown hE.1 hP 5 rfl rfl 5 (by decide) (va_Nw.use rfl (hE.2 _ nw_13)) (fun _ h9 => h9) rfl dLa_settleLabels_9 ?_
  refine lv_iconst (v := 1) hx hb dLa_settleLabels_12 (by first | rfl | decide) ?_
  refine lv_isub hx hb dLa_settleLabels_13 ?_
  refine lv_istore_n (lv' := [(2, .int (sn - 1)), (1, .int ta), (0, .ref (ad 3))]) hx hb dLa_settleLabels_14 rfl hl (by decide) rfl (fun ls hl => ?_)
  obtain ⟨g1, hg1⟩ : ∃ g9, LLa_settleLabels_15 (sn.toInt.toNat + 1) sK sA ta sn.toInt.toNat tl = g9 := ⟨_, rfl⟩
  refine qLa_settleLabels_15 D ad cI cS hx hb hml hw hown hE hA ⟨Nat.le_of_ble_eq_true rfl, Nat.le_of_ble_eq_true rfl⟩ (sn.toInt.toNat + 1) ta sn.toInt.toNat tn to ta tp tk tw tl tc ts tv sn sK sA sB sC sL gn gp gh ls s.heap [] (pq_nat_le hsn1) (by omega) (by rw [← pq_nat hsn0]; exact lv_sub hl [2, 1, 0] rfl) hP hD hS (fun ls H locs hl hP hD hS => ?_)
  try rw [hg1] at hl
  try rw [hg1] at hP
  try rw [hg1] at hD
  have hP : va_P D vwCl (wL ad cI cS tn to ta tp tk tw g1.2.2 tc ts tv sn sK sA sB sC sL gn gp gh) H := hP
  have hD : va_D _ (wL ad cI cS tn to ta tp tk tw g1.2.2 tc ts tv sn sK sA sB sC sL gn gp gh) := hD
  have e9 : FLa_settleLabels ta tl sn sK sA = g1.2.2 := by simp only [FLa_settleLabels, hg1]
  exact W.vret hx hb hr (fun t ht hW => ⟨⟨(), rfl, trivial, by rw [e9, ht]; exact hP, by rw [e9]; exact hD⟩, hS.F ht⟩) hS.2.2 dLa_settleLabels_53
def LLa_firstOutOfReach_2 : Nat → (Nat → Int32) → (Nat → Int32) → (Int32) → (Nat → Int32) → (Nat → Int32) → (Nat → Int32) → (Nat) → Nat × Int32
  | 0, _, _, _, _, _, _, i => (i, 0)
  | n + 1, tl, tc, sn, sK, sA, sL, i => if sn ≤ (nI i) then (i, 0) else if (FLa_isInReach (nI i) tl tc sK sA sL) = 0 then (i, 1) else LLa_firstOutOfReach_2 n tl tc sn sK sA sL (i + 1)
set_option maxHeartbeats 4000000 in
set_option maxRecDepth 100000 in
theorem qLa_firstOutOfReach_2 {p : Program} {l : Launch} {e : Env} {R : Room} {s : State} {m : MethodId} {args : Array Value} {below : List Frame} {meth : Method} {c : Code} {Q : State → Prop} {A : Nat → Prop} (D : va_G) (ad : Nat → Nat) (cI cS : ClassId) (hx : p.tables.exec = Jvm.exec) (hb : c.code = cLa_firstOutOfReach) (hml : c.maxLocals = 2) (hw : ∀ w ∈ pq_ws, w.before args s = true) (hown : s.vm.findClass RLa = some m.cls) (hE : pq_E D cI cS s) (hA : ∀ q : Nat, s.heap.size ≤ q → A q) (hR : 3 ≤ R.frames ∧ 64 ≤ R.locals) (c0 : Nat) : ∀ (n : Nat) (i : Nat) (tn : Int32) (to : Int32) (ta : Int32) (tp : Int32) (tk : Int32) (tw : Int32) (tl : Nat → Int32) (tc : Nat → Int32) (ts : Nat → Int32) (tv : Nat → Int32) (sn : Int32) (sK : Nat → Int32) (sA : Nat → Int32) (sB : Nat → Int32) (sC : Nat → Int32) (sL : Nat → Int32) (gn : Int32) (gp : Int32) (gh : Nat → Int32) (ls : Array Slot) (H : Heap) (locs : List Loc), (sn = nI c0) → (c0 ≤ 160) → (i ≤ c0) → (∀ j : Nat, j < 16 → ¬ sL j = (-1) → vp_in (sL j) 160) → (c0 - i) < n → lv_has ls 2 [(0, .ref (ad 3)), (1, .int (nI i))] → va_P D vwCl (wL ad cI cS tn to ta tp tk tw tl tc ts tv sn sK sA sB sC sL gn gp gh) H → va_D A (wL ad cI cS tn to ta tp tk tw tl tc ts tv sn sK sA sB sC sL gn gp gh) → va_S A s.heap H locs → ((LLa_firstOutOfReach_2 n tl tc sn sK sA sL i).2 = 1 → ∀ (ls : Array Slot) (H : Heap) (locs : List Loc), lv_has ls 2 [(0, .ref (ad 3)), (1, .int (nI ((LLa_firstOutOfReach_2 n tl tc sn sK sA sL i).1)))] → va_P D vwCl (wL ad cI cS tn to ta tp tk tw tl tc ts tv sn sK sA sB sC sL gn gp gh) H → va_D A (wL ad cI cS tn to ta tp tk tw tl tc ts tv sn sK sA sB sC sL gn gp gh) → va_S A s.heap H locs → W p l e R s m args below meth c H locs 0 0 Q (F0 m 21 ls [])) → (¬ (LLa_firstOutOfReach_2 n tl tc sn sK sA sL i).2 = 1 → ∀ (ls : Array Slot) (H : Heap) (locs : List Loc), lv_has ls 2 [(0, .ref (ad 3)), (1, .int (nI ((LLa_firstOutOfReach_2 n tl tc sn sK sA sL i).1)))] → va_P D vwCl (wL ad cI cS tn to ta tp tk tw tl tc ts tv sn sK sA sB sC sL gn gp gh) H → va_D A (wL ad cI cS tn to ta tp tk tw tl tc ts tv sn sK sA sB sC sL gn gp gh) → va_S A s.heap H locs → W p l e R s m args below meth c H locs 0 0 Q (F0 m 29 ls [])) → W p l e R s m args below meth c H locs 0 0 Q (F0 m 2 ls []) := by
  intro n
  induction n with
  | zero =>
    intro i tn to ta tp tk tw tl tc ts tv sn sK sA sB sC sL gn gp gh ls H locs hc hc1 hi hsl hm hl hP hD hS kk kk2
    exact absurd hm (Nat.not_lt_zero _)
  | succ n ih =>
    intro i tn to ta tp tk tw tl tc ts tv sn sK sA sB sC sL gn gp gh ls H locs hc hc1 hi hsl hm hl hP hD hS kk kk2
    refine lv_iload_n hx hb dLa_firstOutOfReach_2 rfl (lv_at hl 1 rfl) ?_
    refine lv_aload_n hx hb dLa_firstOutOfReach_3 rfl (lv_at hl 0 rfl) ?_
    refine va_get (D := D) (ci := 1) (v := .ref (ad 1)) (C := RLa) (T := TLa) (N := 12) hx hb hw pinLa hown hE.1 hP 0 rfl rfl 0 (by decide) (hw _ wd_100) (fun _ h9 => h9) rfl dLa_firstOutOfReach_4 ?_
    refine va_getN (D := D) (ci := 3) (v := .int sn) (C := RSo) (T := TSo) (N := 6) hx hb hw pinSo hown hE.1 hP 5 rfl rfl 5 (by decide) (va_Nw.use rfl (hE.2 _ nw_13)) (fun _ h9 => h9) rfl dLa_firstOutOfReach_7 ?_
    refine lv_icmp_ge (tgt := 29) hx hb dLa_firstOutOfReach_10 (by decide) (fun h1 => ?_) (fun h1 => ?_)
    · have e9 : LLa_firstOutOfReach_2 (n + 1) tl tc sn sK sA sL i = (i, 0) := by simp only [LLa_firstOutOfReach_2, if_pos h1]
      rw [e9] at kk2
      exact kk2 (show ¬ (0 : Int32) = 1 by decide) ls H locs (lv_sub hl [0, 1] rfl) hP hD hS
    · refine lv_aload_n hx hb dLa_firstOutOfReach_13 rfl (lv_at hl 0 rfl) ?_
      refine lv_iload_n hx hb dLa_firstOutOfReach_14 rfl (lv_at hl 1 rfl) ?_
      refine pq_calli (fr := (FLa_isInReach (nI i) tl tc sK sA sL)) (wc := (wL ad cI cS tn to ta tp tk tw tl tc ts tv sn sK sA sB sC sL gn gp gh)) (wr := ([] : List Nat).filterMap (fun i => (wL ad cI cS tn to ta tp tk tw tl tc ts tv sn sK sA sB sC sL gn gp gh)[i]?)) hP hD hS hA [0, 1, 2, 3, 4, 5, 6, 7, 8, 9, 10, 11, 12] [] rfl rfl (by decide) (by decide) (va_runV (own := RLa) (C := RLa) (As := [.int (nI i)]) (rest := []) ⟨hx, hb, hml, hown, hw⟩ (k_La_isInReach l D ad cI cS (nI i) tn to ta tp tk tw tl tc ts tv sn sK sA sB sC sL gn gp gh (pq_ix hc hc1 (by decide) (by omega) (by assumption)) hsl H.size) ⟨pq_cwB 1 hw wd_162 wd_108 wd_161 rfl rfl (by decide +kernel) ⟨Nat.le_trans (by decide) hR.1, Nat.le_trans (by decide) hR.2⟩, hw _ wd_163, hw _ wd_164⟩ (pq_preV (ci := 1) (C := RLa) (T := TLa) (N := 12) hE (hP.sub [0, 1, 2, 3, 4, 5, 6, 7, 8, 9, 10, 11, 12] rfl) (hD.sub [0, 1, 2, 3, 4, 5, 6, 7, 8, 9, 10, 11, 12] (by decide) rfl) rfl 0 rfl) rfl rfl hl.1 rfl (lv_room (Nat.le_of_ble_eq_true rfl)) dLa_firstOutOfReach_15 ⟨Nat.zero_le _, Nat.zero_le _⟩) (fun H locs hP hD hS => ?_)
      have hP : va_P D vwCl (wL ad cI cS tn to ta tp tk tw tl tc ts tv sn sK sA sB sC sL gn gp gh) H := hP.sub [0, 1, 2, 3, 4, 5, 6, 7, 8, 9, 10, 11, 12] rfl
      have hD : va_D _ (wL ad cI cS tn to ta tp tk tw tl tc ts tv sn sK sA sB sC sL gn gp gh) := hD.sub [0, 1, 2, 3, 4, 5, 6, 7, 8, 9, 10, 11, 12] (by decide) rfl
      refine lv_if_ne (tgt := 23) hx hb dLa_firstOutOfReach_18 (by decide) (fun h2 => ?_) (fun h2 => ?_)
      · refine lv_iinc (k := 1) (v := (nI i) + 1) (lv' := [(1, .int ((nI i) + 1)), (0, .ref (ad 3))]) hx hb dLa_firstOutOfReach_23 hl rfl (by first | rfl | decide) (by decide) rfl (fun ls hl => ?_)
        refine lv_goto (tgt := 2) hx hb dLa_firstOutOfReach_26 (by decide) ?_
        have e9 : LLa_firstOutOfReach_2 (n + 1) tl tc sn sK sA sL i = LLa_firstOutOfReach_2 n tl tc sn sK sA sL (i + 1) := by simp only [LLa_firstOutOfReach_2, if_neg h1, if_neg h2]
        rw [e9] at kk kk2
        rw [nI_1] at hl
        exact ih (i + 1) tn to ta tp tk tw tl tc ts tv sn sK sA sB sC sL gn gp gh ls H locs hc hc1 (by have := pq_lt (j := i) hc (by omega) (by omega) (by assumption); omega) hsl (by have := pq_lt (j := i) hc (by omega) (by omega) (by assumption); omega) (lv_sub hl [1, 0] rfl) hP hD hS kk kk2
      · have e9 : LLa_firstOutOfReach_2 (n + 1) tl tc sn sK sA sL i = (i, 1) := by simp only [LLa_firstOutOfReach_2, if_neg h1, if_pos h2]
        rw [e9] at kk
        exact kk rfl ls H locs (lv_sub hl [0, 1] rfl) hP hD hS
def FLa_firstOutOfReach (tl : Nat → Int32) (tc : Nat → Int32) (sn : Int32) (sK : Nat → Int32) (sA : Nat → Int32) (sL : Nat → Int32) : Int32 := if (LLa_firstOutOfReach_2 (sn.toInt.toNat + 1) tl tc sn sK sA sL 0).2 = 1 then nI ((LLa_firstOutOfReach_2 (sn.toInt.toNat + 1) tl tc sn sK sA sL 0).1) else (-1)
set_option maxHeartbeats 4000000 in
set_option maxRecDepth 100000 in
theorem k_La_firstOutOfReach (l : Launch) (D : va_G) (ad : Nat → Nat) (cI cS : ClassId) (tn : Int32) (to : Int32) (ta : Int32) (tp : Int32) (tk : Int32) (tw : Int32) (tl : Nat → Int32) (tc : Nat → Int32) (ts : Nat → Int32) (tv : Nat → Int32) (sn : Int32) (sK : Nat → Int32) (sA : Nat → Int32) (sB : Nat → Int32) (sC : Nat → Int32) (sL : Nat → Int32) (gn : Int32) (gp : Int32) (gh : Nat → Int32) (hsn0 : ¬ sn < 0) (hsn1 : sn.toInt ≤ 160) (hsl : ∀ j : Nat, j < 16 → ¬ sL j = (-1) → vp_in (sL j) 160) : pq_I l yLa_firstOutOfReach (.code yLa_firstOutOfReach cLa_firstOutOfReach 2 (some .int) :: pq_ws) { frames := 3, cells := 0, slots := 0, locals := 64 } D cI cS [.ref (ad 3)] (wL ad cI cS tn to ta tp tk tw tl tc ts tv sn sK sA sB sC sL gn gp gh) (FLa_firstOutOfReach tl tc sn sK sA sL) (wL ad cI cS tn to ta tp tk tw tl tc ts tv sn sK sA sB sC sL gn gp gh) := by
  intro sz
  refine Met.ofW (cc := cLa_firstOutOfReach) (maxL := 2) (ret := (some .int)) (by decide) rfl ?_
  intro p e s m args below meth c s₁ B hml hv
  obtain ⟨rfl, hsz, hP, hD0, hE⟩ := hv
  have hx := B.exec
  have hb := B.bytes
  have hr := B.returns
  have hts := atoms_spec (ws := (.code yLa_firstOutOfReach cLa_firstOutOfReach 2 (some .int) :: pq_ws : List Cond)) B.pre
  have hw : ∀ w ∈ pq_ws, w.before _ s = true := fun w h => hts w (List.mem_cons_of_mem _ h)
  have hown : s.vm.findClass RLa = some m.cls := findClass_of_methodNamed B.named
  have hlocks := B.notSynchronized
  subst hsz
  have hD := hD0.self (sz := s.heap.size)
  have hA : ∀ q : Nat, s.heap.size ≤ q → va_A (wL ad cI cS tn to ta tp tk tw tl tc ts tv sn sK sA sB sC sL gn gp gh) s.heap.size q := fun q h => Or.inr h
  have hS : va_S (va_A (wL ad cI cS tn to ta tp tk tw tl tc ts tv sn sK sA sB sC sL gn gp gh) s.heap.size) s.heap s.heap [] := va_S.rf
  have hl := lv_entry ([.ref (ad 3)] : List Value) (n := 2) (Nat.le_of_ble_eq_true rfl)
  rw [lg_entry_eq]
  generalize (lg_sl ([.ref (ad 3)] : List Value) ++ List.replicate (2 - (lg_sl ([.ref (ad 3)] : List Value)).length) Slot.unset).toArray = ls at hl ⊢
  have hl : lv_has ls 2 [(0, .ref (ad 3))] := hl
  refine lv_iconst (v := 0) hx hb dLa_firstOutOfReach_0 (by first | rfl | decide) ?_
  refine lv_istore_n (lv' := [(1, .int 0), (0, .ref (ad 3))]) hx hb dLa_firstOutOfReach_1 rfl hl (by decide) rfl (fun ls hl => ?_)
  refine qLa_firstOutOfReach_2 D ad cI cS hx hb hml hw hown hE hA ⟨Nat.le_of_ble_eq_true rfl, Nat.le_of_ble_eq_true rfl⟩ sn.toInt.toNat (sn.toInt.toNat + 1) 0 tn to ta tp tk tw tl tc ts tv sn sK sA sB sC sL gn gp gh ls s.heap [] (pq_nat hsn0) (pq_nat_le hsn1) (Nat.zero_le _) hsl (by omega) (lv_sub hl [1, 0] rfl) hP hD hS (fun h1 ls H locs hl hP hD hS => ?_) (fun h1 ls H locs hl hP hD hS => ?_)
  · have hP : va_P D vwCl (wL ad cI cS tn to ta tp tk tw tl tc ts tv sn sK sA sB sC sL gn gp gh) H := hP
    have hD : va_D _ (wL ad cI cS tn to ta tp tk tw tl tc ts tv sn sK sA sB sC sL gn gp gh) := hD
    refine lv_iload_n hx hb dLa_firstOutOfReach_21 rfl (lv_at hl 1 rfl) ?_
    have e9 : FLa_firstOutOfReach tl tc sn sK sA sL = nI ((LLa_firstOutOfReach_2 (sn.toInt.toNat + 1) tl tc sn sK sA sL 0).1) := by simp only [FLa_firstOutOfReach, if_pos h1]
    exact W.iret (v := nI ((LLa_firstOutOfReach_2 (sn.toInt.toNat + 1) tl tc sn sK sA sL 0).1)) hx hb hr (fun t ht hW => ⟨⟨nI ((LLa_firstOutOfReach_2 (sn.toInt.toNat + 1) tl tc sn sK sA sL 0).1), (), rfl, (by show _ = _; rw [e9]), by rw [ht]; exact hP, hD⟩, hS.F ht⟩) hS.2.2 dLa_firstOutOfReach_22
  · have hP : va_P D vwCl (wL ad cI cS tn to ta tp tk tw tl tc ts tv sn sK sA sB sC sL gn gp gh) H := hP
    have hD : va_D _ (wL ad cI cS tn to ta tp tk tw tl tc ts tv sn sK sA sB sC sL gn gp gh) := hD
    refine lv_iconst (v := (-1)) hx hb dLa_firstOutOfReach_29 (by first | rfl | decide) ?_
    have e9 : FLa_firstOutOfReach tl tc sn sK sA sL = (-1) := by simp only [FLa_firstOutOfReach, if_neg h1]
    exact W.iret (v := (-1)) hx hb hr (fun t ht hW => ⟨⟨(-1), (), rfl, (by show _ = _; rw [e9]), by rw [ht]; exact hP, hD⟩, hS.F ht⟩) hS.2.2 dLa_firstOutOfReach_30
def FLa_measure (to : Int32) (tl : Nat → Int32) (tc : Nat → Int32) (ts : Nat → Int32) (tv : Nat → Int32) (sn : Int32) (sK : Nat → Int32) (sA : Nat → Int32) (sB : Nat → Int32) (sC : Nat → Int32) (sL : Nat → Int32) (gh : Nat → Int32) : (Nat → Int32) × (Nat → Int32) × (Nat → Int32) × (Nat → Int32) × Int32 × Int32 × Int32 × Int32 × Int32 × Int32 × (Nat → Int32) := ((FLa_settleLabels (FLa_layAll to 0 tl tc ts tv sn sK sA sB sC sL gh).2.2.2.2.2.2.1 (FLa_layAll to 0 tl tc ts tv sn sK sA sB sC sL gh).1 sn sK sA), (FLa_layAll to 0 tl tc ts tv sn sK sA sB sC sL gh).2.1, (FLa_layAll to 0 tl tc ts tv sn sK sA sB sC sL gh).2.2.1, (FLa_layAll to 0 tl tc ts tv sn sK sA sB sC sL gh).2.2.2.1, (FLa_layAll to 0 tl tc ts tv sn sK sA sB sC sL gh).2.2.2.2.1, (FLa_layAll to 0 tl tc ts tv sn sK sA sB sC sL gh).2.2.2.2.2.1, (FLa_layAll to 0 tl tc ts tv sn sK sA sB sC sL gh).2.2.2.2.2.2.1, (FLa_layAll to 0 tl tc ts tv sn sK sA sB sC sL gh).2.2.2.2.2.2.2.1, (FLa_layAll to 0 tl tc ts tv sn sK sA sB sC sL gh).2.2.2.2.2.2.2.2.1, 0, (FLa_layAll to 0 tl tc ts tv sn sK sA sB sC sL gh).2.2.2.2.2.2.2.2.2)
set_option maxHeartbeats 4000000 in
set_option maxRecDepth 100000 in
theorem k_La_measure (l : Launch) (D : va_G) (ad : Nat → Nat) (cI cS : ClassId) (tn : Int32) (to : Int32) (ta : Int32) (tp : Int32) (tk : Int32) (tw : Int32) (tl : Nat → Int32) (tc : Nat → Int32) (ts : Nat → Int32) (tv : Nat → Int32) (sn : Int32) (sK : Nat → Int32) (sA : Nat → Int32) (sB : Nat → Int32) (sC : Nat → Int32) (sL : Nat → Int32) (gn : Int32) (gp : Int32) (gh : Nat → Int32) (hto : vp_in to 160) (hsn0 : ¬ sn < 0) (hsn1 : sn.toInt ≤ 160) (hsl : ∀ j : Nat, j < 16 → ¬ sL j = (-1) → vp_in (sL j) 160) : pq_VP l yLa_measure (.code yLa_measure cLa_measure 1 none :: pq_ws) { frames := 5, cells := 0, slots := 0, locals := 113 } D cI cS [.ref (ad 3)] (wL ad cI cS tn to ta tp tk tw tl tc ts tv sn sK sA sB sC sL gn gp gh) ((vp_in ((FLa_measure to tl tc ts tv sn sK sA sB sC sL gh).2.2.2.2.2.1) 160)) (wL ad cI cS ((FLa_measure to tl tc ts tv sn sK sA sB sC sL gh).2.2.2.2.1) ((FLa_measure to tl tc ts tv sn sK sA sB sC sL gh).2.2.2.2.2.1) ((FLa_measure to tl tc ts tv sn sK sA sB sC sL gh).2.2.2.2.2.2.1) ((FLa_measure to tl tc ts tv sn sK sA sB sC sL gh).2.2.2.2.2.2.2.1) ((FLa_measure to tl tc ts tv sn sK sA sB sC sL gh).2.2.2.2.2.2.2.2.1) ((FLa_measure to tl tc ts tv sn sK sA sB sC sL gh).2.2.2.2.2.2.2.2.2.1) ((FLa_measure to tl tc ts tv sn sK sA sB sC sL gh).1) ((FLa_measure to tl tc ts tv sn sK sA sB sC sL gh).2.1) ((FLa_measure to tl tc ts tv sn sK sA sB sC sL gh).2.2.1) ((FLa_measure to tl tc ts tv sn sK sA sB sC sL gh).2.2.2.1) sn sK sA sB sC sL gn gp ((FLa_measure to tl tc ts tv sn sK sA sB sC sL gh).2.2.2.2.2.2.2.2.2.2)) := by
  intro sz
  refine Met.ofW (cc := cLa_measure) (maxL := 1) (ret := none) (by decide) rfl ?_
  intro p e s m args below meth c s₁ B hml hv
  obtain ⟨rfl, hsz, hP, hD0, hE⟩ := hv
  have hx := B.exec
  have hb := B.bytes
  have hr := B.returns
  have hts := atoms_spec (ws := (.code yLa_measure cLa_measure 1 none :: pq_ws : List Cond)) B.pre
  have hw : ∀ w ∈ pq_ws, w.before _ s = true := fun w h => hts w (List.mem_cons_of_mem _ h)
  have hown : s.vm.findClass RLa = some m.cls := findClass_of_methodNamed B.named
  have hlocks := B.notSynchronized
  subst hsz
  have hD := hD0.self (sz := s.heap.size)
  have hA : ∀ q : Nat, s.heap.size ≤ q → va_A (wL ad cI cS tn to ta tp tk tw tl tc ts tv sn sK sA sB sC sL gn gp gh) s.heap.size q := fun q h => Or.inr h
  have hS : va_S (va_A (wL ad cI cS tn to ta tp tk tw tl tc ts tv sn sK sA sB sC sL gn gp gh) s.heap.size) s.heap s.heap [] := va_S.rf
  have hl := lv_entry ([.ref (ad 3)] : List Value) (n := 1) (Nat.le_of_ble_eq_true rfl)
  rw [lg_entry_eq]
  generalize (lg_sl ([.ref (ad 3)] : List Value) ++ List.replicate (1 - (lg_sl ([.ref (ad 3)] : List Value)).length) Slot.unset).toArray = ls at hl ⊢
  have hl : lv_has ls 1 [(0, .ref (ad 3))] := hl
  refine lv_aload_n hx hb dLa_measure_0 rfl (lv_at hl 0 rfl) ?_
  refine lv_iconst (v := 0) hx hb dLa_measure_1 (by first | rfl | decide) ?_
  refine va_put (D := D) (ci := 1) (v := .int 0) (ty := .boolean) (C := RLa) (T := TLa) (N := 12) hx hb hw pinLa tyLa tyLa_ok nmLa hown hE.1 hP hD hS 0 rfl rfl 11 (by decide) (hw _ wd_94) (fun _ h9 => h9) rfl (by decide +kernel) rfl rfl (Nat.le_of_ble_eq_true rfl) dLa_measure_2 (fun H locs hP hD hS => ?_)
  have hP : va_P D vwCl (wL ad cI cS tn to ta tp tk 0 tl tc ts tv sn sK sA sB sC sL gn gp gh) H := hP
  have hD : va_D _ (wL ad cI cS tn to ta tp tk 0 tl tc ts tv sn sK sA sB sC sL gn gp gh) := hD
  refine lv_aload_n hx hb dLa_measure_5 rfl (lv_at hl 0 rfl) ?_
  obtain ⟨g1, hg1⟩ : ∃ g9, FLa_layAll to 0 tl tc ts tv sn sK sA sB sC sL gh = g9 := ⟨_, rfl⟩
  have cg1 := k_La_layAll l D ad cI cS tn to ta tp tk 0 tl tc ts tv sn sK sA sB sC sL gn gp gh hto hsn0 hsn1 hsl
  rw [hg1] at cg1
  refine pq_callvp (wc := (wL ad cI cS tn to ta tp tk 0 tl tc ts tv sn sK sA sB sC sL gn gp gh)) (wr := ([] : List Nat).filterMap (fun i => (wL ad cI cS tn to ta tp tk 0 tl tc ts tv sn sK sA sB sC sL gn gp gh)[i]?)) hP hD hS hA [0, 1, 2, 3, 4, 5, 6, 7, 8, 9, 10, 11, 12] [] rfl rfl (by decide) (by decide) (va_runV (own := RLa) (C := RLa) (As := []) (rest := []) ⟨hx, hb, hml, hown, hw⟩ (cg1 H.size) ⟨pq_cwB 0 hw wd_166 wd_108 wd_165 rfl rfl (by decide +kernel) ⟨Nat.le_of_ble_eq_true rfl, Nat.le_of_ble_eq_true rfl⟩, hw _ wd_167, hw _ wd_168⟩ (pq_preV (ci := 1) (C := RLa) (T := TLa) (N := 12) hE (hP.sub [0, 1, 2, 3, 4, 5, 6, 7, 8, 9, 10, 11, 12] rfl) (hD.sub [0, 1, 2, 3, 4, 5, 6, 7, 8, 9, 10, 11, 12] (by decide) rfl) rfl 0 rfl) rfl rfl hl.1 rfl (lv_room (Nat.le_of_ble_eq_true rfl)) dLa_measure_6 ⟨Nat.zero_le _, Nat.zero_le _⟩) (fun hq9 H locs hP hD hS => ?_)
  have hto := hq9
  have hP : va_P D vwCl (wL ad cI cS g1.2.2.2.2.1 g1.2.2.2.2.2.1 g1.2.2.2.2.2.2.1 g1.2.2.2.2.2.2.2.1 g1.2.2.2.2.2.2.2.2.1 0 g1.1 g1.2.1 g1.2.2.1 g1.2.2.2.1 sn sK sA sB sC sL gn gp g1.2.2.2.2.2.2.2.2.2) H := hP.sub [0, 1, 2, 3, 4, 5, 6, 7, 8, 9, 10, 11, 12] rfl
  have hD : va_D _ (wL ad cI cS g1.2.2.2.2.1 g1.2.2.2.2.2.1 g1.2.2.2.2.2.2.1 g1.2.2.2.2.2.2.2.1 g1.2.2.2.2.2.2.2.2.1 0 g1.1 g1.2.1 g1.2.2.1 g1.2.2.2.1 sn sK sA sB sC sL gn gp g1.2.2.2.2.2.2.2.2.2) := hD.sub [0, 1, 2, 3, 4, 5, 6, 7, 8, 9, 10, 11, 12] (by decide) rfl
  refine lv_aload_n hx hb dLa_measure_9 rfl (lv_at hl 0 rfl) ?_
  refine pq_callv (wc := (wL ad cI cS g1.2.2.2.2.1 g1.2.2.2.2.2.1 g1.2.2.2.2.2.2.1 g1.2.2.2.2.2.2.2.1 g1.2.2.2.2.2.2.2.2.1 0 g1.1 g1.2.1 g1.2.2.1 g1.2.2.2.1 sn sK sA sB sC sL gn gp g1.2.2.2.2.2.2.2.2.2)) (wr := ([] : List Nat).filterMap (fun i => (wL ad cI cS g1.2.2.2.2.1 g1.2.2.2.2.2.1 g1.2.2.2.2.2.2.1 g1.2.2.2.2.2.2.2.1 g1.2.2.2.2.2.2.2.2.1 0 g1.1 g1.2.1 g1.2.2.1 g1.2.2.2.1 sn sK sA sB sC sL gn gp g1.2.2.2.2.2.2.2.2.2)[i]?)) hP hD hS hA [0, 1, 2, 3, 4, 5, 6, 7, 8, 9, 10, 11, 12] [] rfl rfl (by decide) (by decide) (va_runV (own := RLa) (C := RLa) (As := []) (rest := []) ⟨hx, hb, hml, hown, hw⟩ (k_La_settleLabels l D ad cI cS g1.2.2.2.2.1 g1.2.2.2.2.2.1 g1.2.2.2.2.2.2.1 g1.2.2.2.2.2.2.2.1 g1.2.2.2.2.2.2.2.2.1 0 g1.1 g1.2.1 g1.2.2.1 g1.2.2.2.1 sn sK sA sB sC sL gn gp g1.2.2.2.2.2.2.2.2.2 hsn0 hsn1 H.size) ⟨pq_cwB 0 hw wd_170 wd_108 wd_169 rfl rfl (by decide +kernel) ⟨Nat.le_of_ble_eq_true rfl, Nat.le_of_ble_eq_true rfl⟩, hw _ wd_171, hw _ wd_172⟩ (pq_preV (ci := 1) (C := RLa) (T := TLa) (N := 12) hE (hP.sub [0, 1, 2, 3, 4, 5, 6, 7, 8, 9, 10, 11, 12] rfl) (hD.sub [0, 1, 2, 3, 4, 5, 6, 7, 8, 9, 10, 11, 12] (by decide) rfl) rfl 0 rfl) rfl rfl hl.1 rfl (lv_room (Nat.le_of_ble_eq_true rfl)) dLa_measure_10 ⟨Nat.zero_le _, Nat.zero_le _⟩) (fun _ H locs hP hD hS => ?_)
  have hP : va_P D vwCl (wL ad cI cS g1.2.2.2.2.1 g1.2.2.2.2.2.1 g1.2.2.2.2.2.2.1 g1.2.2.2.2.2.2.2.1 g1.2.2.2.2.2.2.2.2.1 0 (FLa_settleLabels g1.2.2.2.2.2.2.1 g1.1 sn sK sA) g1.2.1 g1.2.2.1 g1.2.2.2.1 sn sK sA sB sC sL gn gp g1.2.2.2.2.2.2.2.2.2) H := hP.sub [0, 1, 2, 3, 4, 5, 6, 7, 8, 9, 10, 11, 12] rfl
  have hD : va_D _ (wL ad cI cS g1.2.2.2.2.1 g1.2.2.2.2.2.1 g1.2.2.2.2.2.2.1 g1.2.2.2.2.2.2.2.1 g1.2.2.2.2.2.2.2.2.1 0 (FLa_settleLabels g1.2.2.2.2.2.2.1 g1.1 sn sK sA) g1.2.1 g1.2.2.1 g1.2.2.2.1 sn sK sA sB sC sL gn gp g1.2.2.2.2.2.2.2.2.2) := hD.sub [0, 1, 2, 3, 4, 5, 6, 7, 8, 9, 10, 11, 12] (by decide) rfl
  have e9 : FLa_measure to tl tc ts tv sn sK sA sB sC sL gh = ((FLa_settleLabels g1.2.2.2.2.2.2.1 g1.1 sn sK sA), g1.2.1, g1.2.2.1, g1.2.2.2.1, g1.2.2.2.2.1, g1.2.2.2.2.2.1, g1.2.2.2.2.2.2.1, g1.2.2.2.2.2.2.2.1, g1.2.2.2.2.2.2.2.2.1, 0, g1.2.2.2.2.2.2.2.2.2) := by simp only [FLa_measure, hg1]
  have p9 : (vp_in g1.2.2.2.2.2.1 160) := by assumption
  exact W.vret hx hb hr (fun t ht hW => ⟨⟨(), rfl, by rw [e9]; exact p9, by rw [e9, ht]; exact hP, by rw [e9]; exact hD⟩, hS.F ht⟩) hS.2.2 dLa_measure_13
def FLa_write (to : Int32) (tl : Nat → Int32) (tc : Nat → Int32) (ts : Nat → Int32) (tv : Nat → Int32) (sn : Int32) (sK : Nat → Int32) (sA : Nat → Int32) (sB : Nat → Int32) (sC : Nat → Int32) (sL : Nat → Int32) (gh : Nat → Int32) : (Nat → Int32) × (Nat → Int32) × (Nat → Int32) × (Nat → Int32) × Int32 × Int32 × Int32 × Int32 × Int32 × Int32 × (Nat → Int32) × Int32 × Int32 := ((FLa_layAll to 1 tl tc ts tv sn sK sA sB sC sL gh).1, (FLa_layAll to 1 tl tc ts tv sn sK sA sB sC sL gh).2.1, (FLa_layAll to 1 tl tc ts tv sn sK sA sB sC sL gh).2.2.1, (FLa_layAll to 1 tl tc ts tv sn sK sA sB sC sL gh).2.2.2.1, (FLa_layAll to 1 tl tc ts tv sn sK sA sB sC sL gh).2.2.2.2.1, (FLa_layAll to 1 tl tc ts tv sn sK sA sB sC sL gh).2.2.2.2.2.1, (FLa_layAll to 1 tl tc ts tv sn sK sA sB sC sL gh).2.2.2.2.2.2.1, (FLa_layAll to 1 tl tc ts tv sn sK sA sB sC sL gh).2.2.2.2.2.2.2.1, (FLa_layAll to 1 tl tc ts tv sn sK sA sB sC sL gh).2.2.2.2.2.2.2.2.1, 1, (FLa_layAll to 1 tl tc ts tv sn sK sA sB sC sL gh).2.2.2.2.2.2.2.2.2, (FLa_layAll to 1 tl tc ts tv sn sK sA sB sC sL gh).2.2.2.2.2.2.1 / 2, (FLa_layAll to 1 tl tc ts tv sn sK sA sB sC sL gh).2.2.2.2.2.2.2.1)
set_option maxHeartbeats 4000000 in
set_option maxRecDepth 100000 in
theorem k_La_write (l : Launch) (D : va_G) (ad : Nat → Nat) (cI cS : ClassId) (tn : Int32) (to : Int32) (ta : Int32) (tp : Int32) (tk : Int32) (tw : Int32) (tl : Nat → Int32) (tc : Nat → Int32) (ts : Nat → Int32) (tv : Nat → Int32) (sn : Int32) (sK : Nat → Int32) (sA : Nat → Int32) (sB : Nat → Int32) (sC : Nat → Int32) (sL : Nat → Int32) (gn : Int32) (gp : Int32) (gh : Nat → Int32) (hto : vp_in to 160) (hsn0 : ¬ sn < 0) (hsn1 : sn.toInt ≤ 160) (hsl : ∀ j : Nat, j < 16 → ¬ sL j = (-1) → vp_in (sL j) 160) : pq_VP l yLa_write (.code yLa_write cLa_write 1 none :: pq_ws) { frames := 5, cells := 0, slots := 0, locals := 113 } D cI cS [.ref (ad 3)] (wL ad cI cS tn to ta tp tk tw tl tc ts tv sn sK sA sB sC sL gn gp gh) ((vp_in ((FLa_write to tl tc ts tv sn sK sA sB sC sL gh).2.2.2.2.2.1) 160)) (wL ad cI cS ((FLa_write to tl tc ts tv sn sK sA sB sC sL gh).2.2.2.2.1) ((FLa_write to tl tc ts tv sn sK sA sB sC sL gh).2.2.2.2.2.1) ((FLa_write to tl tc ts tv sn sK sA sB sC sL gh).2.2.2.2.2.2.1) ((FLa_write to tl tc ts tv sn sK sA sB sC sL gh).2.2.2.2.2.2.2.1) ((FLa_write to tl tc ts tv sn sK sA sB sC sL gh).2.2.2.2.2.2.2.2.1) ((FLa_write to tl tc ts tv sn sK sA sB sC sL gh).2.2.2.2.2.2.2.2.2.1) ((FLa_write to tl tc ts tv sn sK sA sB sC sL gh).1) ((FLa_write to tl tc ts tv sn sK sA sB sC sL gh).2.1) ((FLa_write to tl tc ts tv sn sK sA sB sC sL gh).2.2.1) ((FLa_write to tl tc ts tv sn sK sA sB sC sL gh).2.2.2.1) sn sK sA sB sC sL ((FLa_write to tl tc ts tv sn sK sA sB sC sL gh).2.2.2.2.2.2.2.2.2.2.2.1) ((FLa_write to tl tc ts tv sn sK sA sB sC sL gh).2.2.2.2.2.2.2.2.2.2.2.2) ((FLa_write to tl tc ts tv sn sK sA sB sC sL gh).2.2.2.2.2.2.2.2.2.2.1)) := by
  intro sz
  refine Met.ofW (cc := cLa_write) (maxL := 1) (ret := none) (by decide) rfl ?_
  intro p e s m args below meth c s₁ B hml hv
  obtain ⟨rfl, hsz, hP, hD0, hE⟩ := hv
  have hx := B.exec
  have hb := B.bytes
  have hr := B.returns
  have hts := atoms_spec (ws := (.code yLa_write cLa_write 1 none :: pq_ws : List Cond)) B.pre
  have hw : ∀ w ∈ pq_ws, w.before _ s = true := fun w h => hts w (List.mem_cons_of_mem _ h)
  have hown : s.vm.findClass RLa = some m.cls := findClass_of_methodNamed B.named
  have hlocks := B.notSynchronized
  subst hsz
  have hD := hD0.self (sz := s.heap.size)
  have hA : ∀ q : Nat, s.heap.size ≤ q → va_A (wL ad cI cS tn to ta tp tk tw tl tc ts tv sn sK sA sB sC sL gn gp gh) s.heap.size q := fun q h => Or.inr h
  have hS : va_S (va_A (wL ad cI cS tn to ta tp tk tw tl tc ts tv sn sK sA sB sC sL gn gp gh) s.heap.size) s.heap s.heap [] := va_S.rf
  have hl := lv_entry ([.ref (ad 3)] : List Value) (n := 1) (Nat.le_of_ble_eq_true rfl)
  rw [lg_entry_eq]
  generalize (lg_sl ([.ref (ad 3)] : List Value) ++ List.replicate (1 - (lg_sl ([.ref (ad 3)] : List Value)).length) Slot.unset).toArray = ls at hl ⊢
  have hl : lv_has ls 1 [(0, .ref (ad 3))] := hl
  refine lv_aload_n hx hb dLa_write_0 rfl (lv_at hl 0 rfl) ?_
  refine lv_iconst (v := 1) hx hb dLa_write_1 (by first | rfl | decide) ?_
  refine va_put (D := D) (ci := 1) (v := .int 1) (ty := .boolean) (C := RLa) (T := TLa) (N := 12) hx hb hw pinLa tyLa tyLa_ok nmLa hown hE.1 hP hD hS 0 rfl rfl 11 (by decide) (hw _ wd_94) (fun _ h9 => h9) rfl (by decide +kernel) rfl rfl (Nat.le_of_ble_eq_true rfl) dLa_write_2 (fun H locs hP hD hS => ?_)
  have hP : va_P D vwCl (wL ad cI cS tn to ta tp tk 1 tl tc ts tv sn sK sA sB sC sL gn gp gh) H := hP
  have hD : va_D _ (wL ad cI cS tn to ta tp tk 1 tl tc ts tv sn sK sA sB sC sL gn gp gh) := hD
  refine lv_aload_n hx hb dLa_write_5 rfl (lv_at hl 0 rfl) ?_
  obtain ⟨g1, hg1⟩ : ∃ g9, FLa_layAll to 1 tl tc ts tv sn sK sA sB sC sL gh = g9 := ⟨_, rfl⟩
  have cg1 := k_La_layAll l D ad cI cS tn to ta tp tk 1 tl tc ts tv sn sK sA sB sC sL gn gp gh hto hsn0 hsn1 hsl
  rw [hg1] at cg1
  refine pq_callvp (wc := (wL ad cI cS tn to ta tp tk 1 tl tc ts tv sn sK sA sB sC sL gn gp gh)) (wr := ([] : List Nat).filterMap (fun i => (wL ad cI cS tn to ta tp tk 1 tl tc ts tv sn sK sA sB sC sL gn gp gh)[i]?)) hP hD hS hA [0, 1, 2, 3, 4, 5, 6, 7, 8, 9, 10, 11, 12] [] rfl rfl (by decide) (by decide) (va_runV (own := RLa) (C := RLa) (As := []) (rest := []) ⟨hx, hb, hml, hown, hw⟩ (cg1 H.size) ⟨pq_cwB 0 hw wd_166 wd_108 wd_165 rfl rfl (by decide +kernel) ⟨Nat.le_of_ble_eq_true rfl, Nat.le_of_ble_eq_true rfl⟩, hw _ wd_167, hw _ wd_168⟩ (pq_preV (ci := 1) (C := RLa) (T := TLa) (N := 12) hE (hP.sub [0, 1, 2, 3, 4, 5, 6, 7, 8, 9, 10, 11, 12] rfl) (hD.sub [0, 1, 2, 3, 4, 5, 6, 7, 8, 9, 10, 11, 12] (by decide) rfl) rfl 0 rfl) rfl rfl hl.1 rfl (lv_room (Nat.le_of_ble_eq_true rfl)) dLa_write_6 ⟨Nat.zero_le _, Nat.zero_le _⟩) (fun hq9 H locs hP hD hS => ?_)
  have hto := hq9
  have hP : va_P D vwCl (wL ad cI cS g1.2.2.2.2.1 g1.2.2.2.2.2.1 g1.2.2.2.2.2.2.1 g1.2.2.2.2.2.2.2.1 g1.2.2.2.2.2.2.2.2.1 1 g1.1 g1.2.1 g1.2.2.1 g1.2.2.2.1 sn sK sA sB sC sL gn gp g1.2.2.2.2.2.2.2.2.2) H := hP.sub [0, 1, 2, 3, 4, 5, 6, 7, 8, 9, 10, 11, 12] rfl
  have hD : va_D _ (wL ad cI cS g1.2.2.2.2.1 g1.2.2.2.2.2.1 g1.2.2.2.2.2.2.1 g1.2.2.2.2.2.2.2.1 g1.2.2.2.2.2.2.2.2.1 1 g1.1 g1.2.1 g1.2.2.1 g1.2.2.2.1 sn sK sA sB sC sL gn gp g1.2.2.2.2.2.2.2.2.2) := hD.sub [0, 1, 2, 3, 4, 5, 6, 7, 8, 9, 10, 11, 12] (by decide) rfl
  refine lv_aload_n hx hb dLa_write_9 rfl (lv_at hl 0 rfl) ?_
  refine va_get (D := D) (ci := 1) (v := .ref (ad 2)) (C := RLa) (T := TLa) (N := 12) hx hb hw pinLa hown hE.1 hP 0 rfl rfl 1 (by decide) (hw _ wd_96) (fun _ h9 => h9) rfl dLa_write_10 ?_
  refine lv_aload_n hx hb dLa_write_13 rfl (lv_at hl 0 rfl) ?_
  refine va_get (D := D) (ci := 1) (v := .int g1.2.2.2.2.2.2.1) (C := RLa) (T := TLa) (N := 12) hx hb hw pinLa hown hE.1 hP 0 rfl rfl 8 (by decide) (hw _ wd_95) (fun _ h9 => h9) rfl dLa_write_14 ?_
  refine lv_iconst (v := 2) hx hb dLa_write_17 (by first | rfl | decide) ?_
  refine lv_idiv hx hb dLa_write_18 (by decide) ?_
  refine va_putN (D := D) (ci := 0) (v := .int (g1.2.2.2.2.2.2.1 / 2)) (ty := .int) (C := RIm) (T := TIm) (N := 3) hx hb hw pinIm tyIm tyIm_ok nmIm hown hE.1 hP hD hS 11 rfl rfl 1 (by decide) (va_Nw.use rfl (hE.2 _ nw_14)) (fun _ h9 => h9) rfl (by decide +kernel) rfl rfl (Nat.le_of_ble_eq_true rfl) dLa_write_19 (fun H locs hP hD hS => ?_)
  have hP : va_P D vwCl (wL ad cI cS g1.2.2.2.2.1 g1.2.2.2.2.2.1 g1.2.2.2.2.2.2.1 g1.2.2.2.2.2.2.2.1 g1.2.2.2.2.2.2.2.2.1 1 g1.1 g1.2.1 g1.2.2.1 g1.2.2.2.1 sn sK sA sB sC sL (g1.2.2.2.2.2.2.1 / 2) gp g1.2.2.2.2.2.2.2.2.2) H := hP
  have hD : va_D _ (wL ad cI cS g1.2.2.2.2.1 g1.2.2.2.2.2.1 g1.2.2.2.2.2.2.1 g1.2.2.2.2.2.2.2.1 g1.2.2.2.2.2.2.2.2.1 1 g1.1 g1.2.1 g1.2.2.1 g1.2.2.2.1 sn sK sA sB sC sL (g1.2.2.2.2.2.2.1 / 2) gp g1.2.2.2.2.2.2.2.2.2) := hD
  refine lv_aload_n hx hb dLa_write_22 rfl (lv_at hl 0 rfl) ?_
  refine va_get (D := D) (ci := 1) (v := .ref (ad 2)) (C := RLa) (T := TLa) (N := 12) hx hb hw pinLa hown hE.1 hP 0 rfl rfl 1 (by decide) (hw _ wd_96) (fun _ h9 => h9) rfl dLa_write_23 ?_
  refine lv_aload_n hx hb dLa_write_26 rfl (lv_at hl 0 rfl) ?_
  refine va_get (D := D) (ci := 1) (v := .int g1.2.2.2.2.2.2.2.1) (C := RLa) (T := TLa) (N := 12) hx hb hw pinLa hown hE.1 hP 0 rfl rfl 9 (by decide) (hw _ wd_137) (fun _ h9 => h9) rfl dLa_write_27 ?_
  refine va_putN (D := D) (ci := 0) (v := .int g1.2.2.2.2.2.2.2.1) (ty := .int) (C := RIm) (T := TIm) (N := 3) hx hb hw pinIm tyIm tyIm_ok nmIm hown hE.1 hP hD hS 11 rfl rfl 2 (by decide) (va_Nw.use rfl (hE.2 _ nw_15)) (fun _ h9 => h9) rfl (by decide +kernel) rfl rfl (Nat.le_of_ble_eq_true rfl) dLa_write_30 (fun H locs hP hD hS => ?_)
  have hP : va_P D vwCl (wL ad cI cS g1.2.2.2.2.1 g1.2.2.2.2.2.1 g1.2.2.2.2.2.2.1 g1.2.2.2.2.2.2.2.1 g1.2.2.2.2.2.2.2.2.1 1 g1.1 g1.2.1 g1.2.2.1 g1.2.2.2.1 sn sK sA sB sC sL (g1.2.2.2.2.2.2.1 / 2) g1.2.2.2.2.2.2.2.1 g1.2.2.2.2.2.2.2.2.2) H := hP
  have hD : va_D _ (wL ad cI cS g1.2.2.2.2.1 g1.2.2.2.2.2.1 g1.2.2.2.2.2.2.1 g1.2.2.2.2.2.2.2.1 g1.2.2.2.2.2.2.2.2.1 1 g1.1 g1.2.1 g1.2.2.1 g1.2.2.2.1 sn sK sA sB sC sL (g1.2.2.2.2.2.2.1 / 2) g1.2.2.2.2.2.2.2.1 g1.2.2.2.2.2.2.2.2.2) := hD
  have e9 : FLa_write to tl tc ts tv sn sK sA sB sC sL gh = (g1.1, g1.2.1, g1.2.2.1, g1.2.2.2.1, g1.2.2.2.2.1, g1.2.2.2.2.2.1, g1.2.2.2.2.2.2.1, g1.2.2.2.2.2.2.2.1, g1.2.2.2.2.2.2.2.2.1, 1, g1.2.2.2.2.2.2.2.2.2, g1.2.2.2.2.2.2.1 / 2, g1.2.2.2.2.2.2.2.1) := by simp only [FLa_write, hg1]
  have p9 : (vp_in g1.2.2.2.2.2.1 160) := by assumption
  exact W.vret hx hb hr (fun t ht hW => ⟨⟨(), rfl, by rw [e9]; exact p9, by rw [e9, ht]; exact hP, by rw [e9]; exact hD⟩, hS.F ht⟩) hS.2.2 dLa_write_33
