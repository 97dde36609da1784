theorem pq_ge {x : Int32} (h : ¬ x < 0) : 0 ≤ x.toInt := by
  rw [Int32.lt_iff_toInt_lt] at h
  have e : (0 : Int32).toInt = 0 := rfl
  omega
theorem pq_nge {x : Int32} (h : 0 ≤ x.toInt) : ¬ x < 0 := by
  rw [Int32.lt_iff_toInt_lt]
  have e : (0 : Int32).toInt = 0 := rfl
  omega
theorem pq_nle {a b : Int32} (h : ¬ a ≤ b) : b.toInt < a.toInt := by
  rw [Int32.le_iff_toInt_le] at h
  omega
theorem pq_addI {x : Int32} {k : Int} (y : Int32) (hy : y.toInt = k) (h0 : 0 ≤ x.toInt) (h1 : x.toInt ≤ 1000000) (k0 : -1000000 ≤ k) (k1 : k ≤ 1000000) : (x + y).toInt = x.toInt + k := by
  rw [Int32.toInt_add, hy]
  exact Int.bmod_eq_of_le (by omega) (by omega)
theorem pq_add2 {x : Int32} (h0 : ¬ x < 0) (h1 : x.toInt ≤ 14400) : ¬ x + 2 < 0 ∧ (x + 2).toInt = x.toInt + 2 := by
  have h := pq_addI (x := x) (k := 2) 2 rfl (pq_ge h0) (by omega) (by omega) (by omega)
  exact ⟨pq_nge (by have := pq_ge h0; omega), h⟩
theorem pq_upb {x : Int32} (h0 : ¬ x < 0) (h1 : x.toInt ≤ 14402) : ¬ FMo_up x < 0 ∧ x.toInt ≤ (FMo_up x).toInt ∧ (FMo_up x).toInt ≤ x.toInt + 2 := by
  have h2 := pq_ge h0
  have h := pq_addI (x := x) (k := 2) 2 rfl h2 (by omega) (by omega) (by omega)
  unfold FMo_up
  split
  · exact ⟨h0, Int.le_refl _, by omega⟩
  · exact ⟨pq_nge (by omega), by omega, by omega⟩
theorem pq_halfN {t : Nat} (h : t < 14400) : vp_in (nI t / 2) 7200 := pq_half (nI_pos (by omega)) (by rw [nI_toInt (by omega)]; omega)
theorem pq_halfN2 {t : Nat} (h : t + 2 < 14400) : vp_in ((nI t + 2) / 2) 7200 := by
  have e : nI t + 2 = nI (t + 2) := nI_add t 2
  rw [e]
  exact pq_halfN h
theorem pq_n4 (t : Nat) : nI t + 4 = nI (t + 4) := nI_add t 4
/-- the end, and the oldest load that waits, of a model that has come to line k: B bytes at most when a pool is put here -/
def pq_phi (me mo k : Int32) (B : Int) : Prop := ¬ me < 0 ∧ ((mo = (-1) ∧ me.toInt ≤ B) ∨ (¬ mo < 0 ∧ mo.toInt ≤ k.toInt ∧ me.toInt + 4 + 4 * (k.toInt - mo.toInt) ≤ B))
theorem pq_phi0 {me mo k : Int32} {B : Int} (h : pq_phi me mo k B) (hm : mo = (-1)) : mo = (-1) ∧ ¬ me < 0 ∧ me.toInt ≤ B := by
  obtain ⟨h0, h1 | ⟨h1, -, -⟩⟩ := h
  · exact ⟨hm, h0, h1.2⟩
  · rw [hm] at h1
    exact absurd (by decide) h1
theorem pq_phi1 {me mo k : Int32} {B : Int} (h : pq_phi me mo k B) (hm : ¬ mo = (-1)) : ¬ me < 0 ∧ ¬ mo < 0 ∧ mo.toInt ≤ k.toInt ∧ me.toInt + 4 + 4 * (k.toInt - mo.toInt) ≤ B := by
  obtain ⟨h0, h1 | ⟨h1, h2, h3⟩⟩ := h
  · exact absurd h1.1 hm
  · exact ⟨h0, h1, h2, h3⟩
theorem pq_phi_mo {me mo k : Int32} {B : Int} (h : pq_phi me mo k B) (hm : ¬ mo = (-1)) (hk : vp_in k 160) : vp_in mo 160 := by
  obtain ⟨-, h1, h2, -⟩ := pq_phi1 h hm
  have h3 := vp_in_iff.mp hk
  exact vp_in_iff.mpr (by have := pq_ge h1; omega)

theorem wd_279 : Cond.code yMo_fresh cMo_fresh 4 (some .boolean) ∈ pq_ws := pq_memT 668 (by decide +kernel) (by decide +kernel)
theorem wd_280 : Cond.methodLink RMo 89 yMo_fresh ∈ pq_ws := pq_memT 665 (by decide +kernel) (by decide +kernel)
theorem wd_281 : Cond.instanceMethod yMo_fresh ∈ pq_ws := pq_memT 667 (by decide +kernel) (by decide +kernel)
theorem wd_282 : Cond.selects RMo yMo_fresh yMo_fresh ∈ pq_ws := pq_mem (by decide +kernel) (by decide +kernel)
theorem wd_283 : Cond.fieldLink RMo 28 RMo "constant" "[I" ∈ pq_ws := pq_memT 547 (by decide +kernel) (by decide +kernel)
theorem wd_284 : Cond.code yMo_write cMo_write 3 none ∈ pq_ws := pq_memT 663 (by decide +kernel) (by decide +kernel)
theorem wd_285 : Cond.methodLink RMo 85 yMo_write ∈ pq_ws := pq_memT 660 (by decide +kernel) (by decide +kernel)
theorem wd_286 : Cond.instanceMethod yMo_write ∈ pq_ws := pq_memT 662 (by decide +kernel) (by decide +kernel)
theorem wd_287 : Cond.selects RMo yMo_write yMo_write ∈ pq_ws := pq_mem (by decide +kernel) (by decide +kernel)
theorem wd_288 : Cond.fieldLink RMo 72 RMo "oldest" "I" ∈ pq_ws := pq_memT 550 (by decide +kernel) (by decide +kernel)
theorem wd_289 : Cond.fieldLink RMo 75 RMo "latest" "I" ∈ pq_ws := pq_memT 551 (by decide +kernel) (by decide +kernel)
theorem wd_290 : Cond.code yMo_up cMo_up 1 (some .int) ∈ pq_ws := pq_memT 659 (by decide +kernel) (by decide +kernel)
theorem wd_291 : Cond.methodLink RMo 81 yMo_up ∈ pq_ws := pq_memT 657 (by decide +kernel) (by decide +kernel)
theorem wd_292 : Cond.static yMo_up ∈ pq_ws := pq_memT 658 (by decide +kernel) (by decide +kernel)
theorem wd_293 : Cond.fieldLink RMo 94 RMo "pooled" "I" ∈ pq_ws := pq_memT 553 (by decide +kernel) (by decide +kernel)
def LMo_pool_89 : Nat → (Int32) → (Nat → Int32) → (Nat → Int32) → (Nat) → (Nat) → (Nat) → (Nat → Int32) → (Nat → Int32) → Nat × Nat × (Nat → Int32) × (Nat → Int32)
  | 0, _, _, _, _, t, q, mc, md => (t, q, mc, md)
  | n + 1, xk, mK, mB, o, t, q, mc, md => if xk ≤ (nI q) then (t, q, mc, md) else if (mK (nI q).toNatClampNeg) = 10 then if (FMo_fresh (nI o) (nI q) mK mB) = 0 then LMo_pool_89 n xk mK mB o t (q + 1) mc md else LMo_pool_89 n xk mK mB o (t + 4) (q + 1) (upd mc (nI q).toNatClampNeg (nI t)) (FMo_write ((nI t) + 2) ((mB (nI q).toNatClampNeg) >>> ((16 : Int32) &&& 31)) (FMo_write (nI t) (mB (nI q).toNatClampNeg) md)) else LMo_pool_89 n xk mK mB o t (q + 1) mc md
set_option maxHeartbeats 4000000 in
set_option maxRecDepth 100000 in
theorem qMo_pool_89 {p : Program} {l : Launch} {e : Env} {R : Room} {s : State} {m : MethodId} {args : Array Value} {below : List Frame} {meth : Method} {c : Code} {Q : State → Prop} {A : Nat → Prop} (D : va_G) (ad : Nat → Nat) (cI cS : ClassId) (hx : p.tables.exec = Jvm.exec) (hb : c.code = cMo_pool) (hml : c.maxLocals = 9) (hw : ∀ w ∈ pq_ws, w.before args s = true) (hown : s.vm.findClass RMo = some m.cls) (hE : pq_E D cI cS s) (hA : ∀ q : Nat, s.heap.size ≤ q → A q) (hR : 1 ≤ R.frames ∧ 23 ≤ R.locals) (xk : Int32) (o : Nat) (ov : Int32) (br : Int32) (k : Nat) (b : Nat) (hk : xk = nI k) (hk1 : k ≤ 160) (hb9 : b ≤ 14400) (ho : o < 2 ^ 31) : ∀ (n : Nat) (t : Nat) (q : Nat) (mq : Int32) (mn : Int32) (me : Int32) (mo : Int32) (mt : Int32) (mx : Int32) (mp : Int32) (mz : Int32) (mu : Int32) (vn : Int32) (vz : Int32) (vc : Int32) (vv : Int32) (vp : Int32) (ve : Int32) (mK : Nat → Int32) (mA : Nat → Int32) (mB : Nat → Int32) (mC : Nat → Int32) (mf : Nat → Int32) (ml : Nat → Int32) (mc : Nat → Int32) (mL : Nat → Int32) (md : Nat → Int32) (mi : Nat → Int32) (mr : Nat → Int32) (mw : Nat → Int32) (ls : Array Slot) (H : Heap) (locs : List Loc), (q < 2 ^ 31) → (t + 4 * (k - q) ≤ b) → (k - q) < n → lv_has ls 9 [(0, .ref (ad 17)), (1, .int xk), (2, .int (nI o)), (3, .int ov), (4, .int br), (6, .int (nI t)), (7, .int (nI q))] → va_P D vwCl (wM ad cI cS mq mn me mo mt mx mp mz mu vn vz vc vv vp ve mK mA mB mC mf ml mc mL md mi mr mw) H → va_D A (wM ad cI cS mq mn me mo mt mx mp mz mu vn vz vc vv vp ve mK mA mB mC mf ml mc mL md mi mr mw) → va_S A s.heap H locs → (∀ (ls : Array Slot) (H : Heap) (locs : List Loc), (((LMo_pool_89 n xk mK mB o t q mc md).1) ≤ b) → lv_has ls 9 [(0, .ref (ad 17)), (1, .int xk), (2, .int (nI o)), (3, .int ov), (4, .int br), (6, .int (nI ((LMo_pool_89 n xk mK mB o t q mc md).1))), (7, .int (nI ((LMo_pool_89 n xk mK mB o t q mc md).2.1)))] → va_P D vwCl (wM ad cI cS mq mn me mo mt mx mp mz mu vn vz vc vv vp ve mK mA mB mC mf ml ((LMo_pool_89 n xk mK mB o t q mc md).2.2.1) mL ((LMo_pool_89 n xk mK mB o t q mc md).2.2.2) mi mr mw) H → va_D A (wM ad cI cS mq mn me mo mt mx mp mz mu vn vz vc vv vp ve mK mA mB mC mf ml ((LMo_pool_89 n xk mK mB o t q mc md).2.2.1) mL ((LMo_pool_89 n xk mK mB o t q mc md).2.2.2) mi mr mw) → va_S A s.heap H locs → W p l e R s m args below meth c H locs 0 0 Q (F0 m 166 ls [])) → W p l e R s m args below meth c H locs 0 0 Q (F0 m 89 ls []) := by
  intro n
  induction n with
  | zero =>
    intro t q mq mn me mo mt mx mp mz mu vn vz vc vv vp ve mK mA mB mC mf ml mc mL md mi mr mw ls H locs hq ht hm hl hP hD hS kk
    exact absurd hm (Nat.not_lt_zero _)
  | succ n ih =>
    intro t q mq mn me mo mt mx mp mz mu vn vz vc vv vp ve mK mA mB mC mf ml mc mL md mi mr mw ls H locs hq ht hm hl hP hD hS kk
    refine lv_iload hx hb dMo_pool_89 (lv_at hl 6 rfl) ?_
    refine lv_iload_n hx hb dMo_pool_91 rfl (lv_at hl 1 rfl) ?_
    refine lv_icmp_ge (tgt := 166) hx hb dMo_pool_92 (by decide) (fun h1 => ?_) (fun h1 => ?_)
    · have e9 : LMo_pool_89 (n + 1) xk mK mB o t q mc md = (t, q, mc, md) := by simp only [LMo_pool_89, if_pos h1]
      rw [e9] at kk
      exact kk ls H locs (by omega) (lv_sub hl [0, 1, 2, 3, 4, 5, 6] rfl) hP hD hS
    · refine lv_aload_n hx hb dMo_pool_95 rfl (lv_at hl 0 rfl) ?_
      refine va_get (D := D) (ci := 5) (v := .ref (ad 18)) (C := RMo) (T := TMo) (N := 27) hx hb hw pinMo hown hE.1 hP 0 rfl rfl 2 (by decide) (hw _ wd_273) (fun _ h9 => h9) rfl dMo_pool_96 ?_
      refine lv_iload hx hb dMo_pool_99 (lv_at hl 6 rfl) ?_
      refine va_iald hx hb hE.1 hP 1 0 rfl rfl (pq_ix hk hk1 (by decide) hq (by assumption)) dMo_pool_101 ?_
      refine lv_bipush (v := 10) hx hb dMo_pool_102 (by first | rfl | decide) ?_
      refine lv_icmp_ne (tgt := 160) hx hb dMo_pool_104 (by decide) (fun h2 => ?_) (fun h2 => ?_)
      · refine lv_iinc (k := 6) (v := (nI q) + 1) (lv' := [(7, .int ((nI q) + 1)), (0, .ref (ad 17)), (1, .int xk), (2, .int (nI o)), (3, .int ov), (4, .int br), (6, .int (nI t))]) hx hb dMo_pool_160 hl rfl (by first | rfl | decide) (by decide) rfl (fun ls hl => ?_)
        refine lv_goto (tgt := 89) hx hb dMo_pool_163 (by decide) ?_
        have e9 : LMo_pool_89 (n + 1) xk mK mB o t q mc md = LMo_pool_89 n xk mK mB o t (q + 1) mc md := by simp only [LMo_pool_89, if_neg h1, if_neg h2]
        rw [e9] at kk
        rw [nI_1] at hl
        try rw [pq_n4] at hl
        exact ih t (q + 1) mq mn me mo mt mx mp mz mu vn vz vc vv vp ve mK mA mB mC mf ml mc mL md mi mr mw ls H locs (by have := pq_lt (j := q) hk (by omega) hq (by assumption); omega) (by have := pq_lt (j := q) hk (by omega) hq (by assumption); omega) (by have := pq_lt (j := q) hk (by omega) hq (by assumption); omega) (lv_sub hl [1, 2, 3, 4, 5, 6, 0] rfl) hP hD hS kk
      · refine lv_aload_n hx hb dMo_pool_107 rfl (lv_at hl 0 rfl) ?_
        refine lv_iload_n hx hb dMo_pool_108 rfl (lv_at hl 2 rfl) ?_
        refine lv_iload hx hb dMo_pool_109 (lv_at hl 6 rfl) ?_
        refine pq_calli (fr := (FMo_fresh (nI o) (nI q) mK mB)) (wc := (wM ad cI cS mq mn me mo mt mx mp mz mu vn vz vc vv vp ve mK mA mB mC mf ml mc mL md mi mr mw)) (wr := ([] : List Nat).filterMap (fun i => (wM ad cI cS mq mn me mo mt mx mp mz mu vn vz vc vv vp ve mK mA mB mC mf ml mc mL md mi mr mw)[i]?)) hP hD hS hA [0, 1, 2, 3, 4, 5, 6, 7, 8, 9, 10, 11, 12] [] rfl rfl (by decide) (by decide) (va_runV (own := RMo) (C := RMo) (As := [.int (nI o), .int (nI q)]) (rest := []) ⟨hx, hb, hml, hown, hw⟩ (k_Mo_fresh l D ad cI cS (nI o) (nI q) mq mn me mo mt mx mp mz mu vn vz vc vv vp ve mK mA mB mC mf ml mc mL md mi mr mw (nI_pos ho) (pq_ix hk hk1 (by decide) hq (by assumption)) H.size) ⟨pq_cwB 2 hw wd_280 wd_186 wd_279 rfl rfl (by decide +kernel) ⟨Nat.le_trans (by decide) hR.1, Nat.le_trans (by decide) hR.2⟩, hw _ wd_281, hw _ wd_282⟩ (pq_preV (ci := 5) (C := RMo) (T := TMo) (N := 27) hE (hP.sub [0, 1, 2, 3, 4, 5, 6, 7, 8, 9, 10, 11, 12] rfl) (hD.sub [0, 1, 2, 3, 4, 5, 6, 7, 8, 9, 10, 11, 12] (by decide) rfl) rfl 0 rfl) rfl rfl hl.1 rfl (lv_room (Nat.le_of_ble_eq_true rfl)) dMo_pool_111 ⟨Nat.zero_le _, Nat.zero_le _⟩) (fun H locs hP hD hS => ?_)
        have hP : va_P D vwCl (wM ad cI cS mq mn me mo mt mx mp mz mu vn vz vc vv vp ve mK mA mB mC mf ml mc mL md mi mr mw) H := hP.sub [0, 1, 2, 3, 4, 5, 6, 7, 8, 9, 10, 11, 12] rfl
        have hD : va_D _ (wM ad cI cS mq mn me mo mt mx mp mz mu vn vz vc vv vp ve mK mA mB mC mf ml mc mL md mi mr mw) := hD.sub [0, 1, 2, 3, 4, 5, 6, 7, 8, 9, 10, 11, 12] (by decide) rfl
        refine lv_if_eq (tgt := 160) hx hb dMo_pool_114 (by decide) (fun h3 => ?_) (fun h3 => ?_)
        · refine lv_iinc (k := 6) (v := (nI q) + 1) (lv' := [(7, .int ((nI q) + 1)), (0, .ref (ad 17)), (1, .int xk), (2, .int (nI o)), (3, .int ov), (4, .int br), (6, .int (nI t))]) hx hb dMo_pool_160 hl rfl (by first | rfl | decide) (by decide) rfl (fun ls hl => ?_)
          refine lv_goto (tgt := 89) hx hb dMo_pool_163 (by decide) ?_
          have e9 : LMo_pool_89 (n + 1) xk mK mB o t q mc md = LMo_pool_89 n xk mK mB o t (q + 1) mc md := by simp only [LMo_pool_89, if_neg h1, if_pos h2, if_pos h3]
          rw [e9] at kk
          rw [nI_1] at hl
          try rw [pq_n4] at hl
          exact ih t (q + 1) mq mn me mo mt mx mp mz mu vn vz vc vv vp ve mK mA mB mC mf ml mc mL md mi mr mw ls H locs (by have := pq_lt (j := q) hk (by omega) hq (by assumption); omega) (by have := pq_lt (j := q) hk (by omega) hq (by assumption); omega) (by have := pq_lt (j := q) hk (by omega) hq (by assumption); omega) (lv_sub hl [1, 2, 3, 4, 5, 6, 0] rfl) hP hD hS kk
        · refine lv_aload_n hx hb dMo_pool_117 rfl (lv_at hl 0 rfl) ?_
          refine va_get (D := D) (ci := 5) (v := .ref (ad 24)) (C := RMo) (T := TMo) (N := 27) hx hb hw pinMo hown hE.1 hP 0 rfl rfl 8 (by decide) (hw _ wd_283) (fun _ h9 => h9) rfl dMo_pool_118 ?_
          refine lv_iload hx hb dMo_pool_121 (lv_at hl 6 rfl) ?_
          refine lv_iload hx hb dMo_pool_123 (lv_at hl 5 rfl) ?_
          refine va_iast hx hb hE.1 hP hD hS 7 0 rfl rfl (pq_ix hk hk1 (by decide) hq (by assumption)) dMo_pool_125 (fun H locs hP hD hS => ?_)
          have hP : va_P D vwCl (wM ad cI cS mq mn me mo mt mx mp mz mu vn vz vc vv vp ve mK mA mB mC mf ml (upd mc (nI q).toNatClampNeg (nI t)) mL md mi mr mw) H := hP
          have hD : va_D _ (wM ad cI cS mq mn me mo mt mx mp mz mu vn vz vc vv vp ve mK mA mB mC mf ml (upd mc (nI q).toNatClampNeg (nI t)) mL md mi mr mw) := hD
          refine lv_aload_n hx hb dMo_pool_126 rfl (lv_at hl 0 rfl) ?_
          refine lv_iload hx hb dMo_pool_127 (lv_at hl 5 rfl) ?_
          refine lv_aload_n hx hb dMo_pool_129 rfl (lv_at hl 0 rfl) ?_
          refine va_get (D := D) (ci := 5) (v := .ref (ad 20)) (C := RMo) (T := TMo) (N := 27) hx hb hw pinMo hown hE.1 hP 0 rfl rfl 4 (by decide) (hw _ wd_275) (fun _ h9 => h9) rfl dMo_pool_130 ?_
          refine lv_iload hx hb dMo_pool_133 (lv_at hl 6 rfl) ?_
          refine va_iald hx hb hE.1 hP 3 0 rfl rfl (pq_ix hk hk1 (by decide) hq (by assumption)) dMo_pool_135 ?_
          refine pq_callv (wc := (wM ad cI cS mq mn me mo mt mx mp mz mu vn vz vc vv vp ve mK mA mB mC mf ml (upd mc (nI q).toNatClampNeg (nI t)) mL md mi mr mw)) (wr := ([] : List Nat).filterMap (fun i => (wM ad cI cS mq mn me mo mt mx mp mz mu vn vz vc vv vp ve mK mA mB mC mf ml (upd mc (nI q).toNatClampNeg (nI t)) mL md mi mr mw)[i]?)) hP hD hS hA [0, 1, 2, 3, 4, 5, 6, 7, 8, 9, 10, 11, 12] [] rfl rfl (by decide) (by decide) (va_runV (own := RMo) (C := RMo) (As := [.int (nI t), .int (mB (nI q).toNatClampNeg)]) (rest := []) ⟨hx, hb, hml, hown, hw⟩ (k_Mo_write l D ad cI cS (nI t) (mB (nI q).toNatClampNeg) mq mn me mo mt mx mp mz mu vn vz vc vv vp ve mK mA mB mC mf ml (upd mc (nI q).toNatClampNeg (nI t)) mL md mi mr mw (pq_halfN (by have := pq_lt (j := q) hk (by omega) hq (by assumption); omega)) H.size) ⟨pq_cwB 2 hw wd_285 wd_186 wd_284 rfl rfl (by decide +kernel) ⟨Nat.le_trans (by decide) hR.1, Nat.le_trans (by decide) hR.2⟩, hw _ wd_286, hw _ wd_287⟩ (pq_preV (ci := 5) (C := RMo) (T := TMo) (N := 27) hE (hP.sub [0, 1, 2, 3, 4, 5, 6, 7, 8, 9, 10, 11, 12] rfl) (hD.sub [0, 1, 2, 3, 4, 5, 6, 7, 8, 9, 10, 11, 12] (by decide) rfl) rfl 0 rfl) rfl rfl hl.1 rfl (lv_room (Nat.le_of_ble_eq_true rfl)) dMo_pool_136 ⟨Nat.zero_le _, Nat.zero_le _⟩) (fun _ H locs hP hD hS => ?_)
          have hP : va_P D vwCl (wM ad cI cS mq mn me mo mt mx mp mz mu vn vz vc vv vp ve mK mA mB mC mf ml (upd mc (nI q).toNatClampNeg (nI t)) mL (FMo_write (nI t) (mB (nI q).toNatClampNeg) md) mi mr mw) H := hP.sub [0, 1, 2, 3, 4, 5, 6, 7, 8, 9, 10, 11, 12] rfl
          have hD : va_D _ (wM ad cI cS mq mn me mo mt mx mp mz mu vn vz vc vv vp ve mK mA mB mC mf ml (upd mc (nI q).toNatClampNeg (nI t)) mL (FMo_write (nI t) (mB (nI q).toNatClampNeg) md) mi mr mw) := hD.sub [0, 1, 2, 3, 4, 5, 6, 7, 8, 9, 10, 11, 12] (by decide) rfl
          refine lv_aload_n hx hb dMo_pool_139 rfl (lv_at hl 0 rfl) ?_
          refine lv_iload hx hb dMo_pool_140 (lv_at hl 5 rfl) ?_
          refine lv_iconst (v := 2) hx hb dMo_pool_142 (by first | rfl | decide) ?_
          refine lv_iadd hx hb dMo_pool_143 ?_
          refine lv_aload_n hx hb dMo_pool_144 rfl (lv_at hl 0 rfl) ?_
          refine va_get (D := D) (ci := 5) (v := .ref (ad 20)) (C := RMo) (T := TMo) (N := 27) hx hb hw pinMo hown hE.1 hP 0 rfl rfl 4 (by decide) (hw _ wd_275) (fun _ h9 => h9) rfl dMo_pool_145 ?_
          refine lv_iload hx hb dMo_pool_148 (lv_at hl 6 rfl) ?_
          refine va_iald hx hb hE.1 hP 3 0 rfl rfl (pq_ix hk hk1 (by decide) hq (by assumption)) dMo_pool_150 ?_
          refine lv_bipush (v := 16) hx hb dMo_pool_151 (by first | rfl | decide) ?_
          refine lv_ishr hx hb dMo_pool_153 ?_
          refine pq_callv (wc := (wM ad cI cS mq mn me mo mt mx mp mz mu vn vz vc vv vp ve mK mA mB mC mf ml (upd mc (nI q).toNatClampNeg (nI t)) mL (FMo_write (nI t) (mB (nI q).toNatClampNeg) md) mi mr mw)) (wr := ([] : List Nat).filterMap (fun i => (wM ad cI cS mq mn me mo mt mx mp mz mu vn vz vc vv vp ve mK mA mB mC mf ml (upd mc (nI q).toNatClampNeg (nI t)) mL (FMo_write (nI t) (mB (nI q).toNatClampNeg) md) mi mr mw)[i]?)) hP hD hS hA [0, 1, 2, 3, 4, 5, 6, 7, 8, 9, 10, 11, 12] [] rfl rfl (by decide) (by decide) (va_runV (own := RMo) (C := RMo) (As := [.int ((nI t) + 2), .int ((mB (nI q).toNatClampNeg) >>> ((16 : Int32) &&& 31))]) (rest := []) ⟨hx, hb, hml, hown, hw⟩ (k_Mo_write l D ad cI cS ((nI t) + 2) ((mB (nI q).toNatClampNeg) >>> ((16 : Int32) &&& 31)) mq mn me mo mt mx mp mz mu vn vz vc vv vp ve mK mA mB mC mf ml (upd mc (nI q).toNatClampNeg (nI t)) mL (FMo_write (nI t) (mB (nI q).toNatClampNeg) md) mi mr mw (pq_halfN2 (by have := pq_lt (j := q) hk (by omega) hq (by assumption); omega)) H.size) ⟨pq_cwB 2 hw wd_285 wd_186 wd_284 rfl rfl (by decide +kernel) ⟨Nat.le_trans (by decide) hR.1, Nat.le_trans (by decide) hR.2⟩, hw _ wd_286, hw _ wd_287⟩ (pq_preV (ci := 5) (C := RMo) (T := TMo) (N := 27) hE (hP.sub [0, 1, 2, 3, 4, 5, 6, 7, 8, 9, 10, 11, 12] rfl) (hD.sub [0, 1, 2, 3, 4, 5, 6, 7, 8, 9, 10, 11, 12] (by decide) rfl) rfl 0 rfl) rfl rfl hl.1 rfl (lv_room (Nat.le_of_ble_eq_true rfl)) dMo_pool_154 ⟨Nat.zero_le _, Nat.zero_le _⟩) (fun _ H locs hP hD hS => ?_)
          have hP : va_P D vwCl (wM ad cI cS mq mn me mo mt mx mp mz mu vn vz vc vv vp ve mK mA mB mC mf ml (upd mc (nI q).toNatClampNeg (nI t)) mL (FMo_write ((nI t) + 2) ((mB (nI q).toNatClampNeg) >>> ((16 : Int32) &&& 31)) (FMo_write (nI t) (mB (nI q).toNatClampNeg) md)) mi mr mw) H := hP.sub [0, 1, 2, 3, 4, 5, 6, 7, 8, 9, 10, 11, 12] rfl
          have hD : va_D _ (wM ad cI cS mq mn me mo mt mx mp mz mu vn vz vc vv vp ve mK mA mB mC mf ml (upd mc (nI q).toNatClampNeg (nI t)) mL (FMo_write ((nI t) + 2) ((mB (nI q).toNatClampNeg) >>> ((16 : Int32) &&& 31)) (FMo_write (nI t) (mB (nI q).toNatClampNeg) md)) mi mr mw) := hD.sub [0, 1, 2, 3, 4, 5, 6, 7, 8, 9, 10, 11, 12] (by decide) rfl
          refine lv_iinc (k := 5) (v := (nI t) + 4) (lv' := [(6, .int ((nI t) + 4)), (0, .ref (ad 17)), (1, .int xk), (2, .int (nI o)), (3, .int ov), (4, .int br), (7, .int (nI q))]) hx hb dMo_pool_157 hl rfl (by first | rfl | decide) (by decide) rfl (fun ls hl => ?_)
          refine lv_iinc (k := 6) (v := (nI q) + 1) (lv' := [(7, .int ((nI q) + 1)), (6, .int ((nI t) + 4)), (0, .ref (ad 17)), (1, .int xk), (2, .int (nI o)), (3, .int ov), (4, .int br)]) hx hb dMo_pool_160 hl rfl (by first | rfl | decide) (by decide) rfl (fun ls hl => ?_)
          refine lv_goto (tgt := 89) hx hb dMo_pool_163 (by decide) ?_
          have e9 : LMo_pool_89 (n + 1) xk mK mB o t q mc md = LMo_pool_89 n xk mK mB o (t + 4) (q + 1) (upd mc (nI q).toNatClampNeg (nI t)) (FMo_write ((nI t) + 2) ((mB (nI q).toNatClampNeg) >>> ((16 : Int32) &&& 31)) (FMo_write (nI t) (mB (nI q).toNatClampNeg) md)) := by simp only [LMo_pool_89, if_neg h1, if_pos h2, if_neg h3]
          rw [e9] at kk
          rw [nI_1] at hl
          try rw [pq_n4] at hl
          exact ih (t + 4) (q + 1) mq mn me mo mt mx mp mz mu vn vz vc vv vp ve mK mA mB mC mf ml (upd mc (nI q).toNatClampNeg (nI t)) mL (FMo_write ((nI t) + 2) ((mB (nI q).toNatClampNeg) >>> ((16 : Int32) &&& 31)) (FMo_write (nI t) (mB (nI q).toNatClampNeg) md)) mi mr mw ls H locs (by have := pq_lt (j := q) hk (by omega) hq (by assumption); omega) (by have := pq_lt (j := q) hk (by omega) hq (by assumption); omega) (by have := pq_lt (j := q) hk (by omega) hq (by assumption); omega) (lv_sub hl [2, 3, 4, 5, 6, 1, 0] rfl) hP hD hS kk
def LMo_pool_178 : Nat → (Nat → Int32) → (Nat → Int32) → (Nat) → (Nat) → (Nat) → (Nat → Int32) → Nat × (Nat → Int32)
  | 0, _, _, _, _, r, mc => (r, mc)
  | n + 1, mK, mB, o, q, r, mc => if (nI q) ≤ (nI r) then (r, mc) else if (mK (nI q).toNatClampNeg) = 10 then if (mK (nI r).toNatClampNeg) = 10 then if (mB (nI r).toNatClampNeg) = (mB (nI q).toNatClampNeg) then if (FMo_fresh (nI o) (nI r) mK mB) = 0 then LMo_pool_178 n mK mB o q (r + 1) (upd mc (nI q).toNatClampNeg (mc (nI q).toNatClampNeg)) else LMo_pool_178 n mK mB o q (r + 1) (upd mc (nI q).toNatClampNeg (mc (nI r).toNatClampNeg)) else LMo_pool_178 n mK mB o q (r + 1) (upd mc (nI q).toNatClampNeg (mc (nI q).toNatClampNeg)) else LMo_pool_178 n mK mB o q (r + 1) (upd mc (nI q).toNatClampNeg (mc (nI q).toNatClampNeg)) else (r, mc)
set_option maxHeartbeats 4000000 in
set_option maxRecDepth 100000 in
theorem qMo_pool_178 {p : Program} {l : Launch} {e : Env} {R : Room} {s : State} {m : MethodId} {args : Array Value} {below : List Frame} {meth : Method} {c : Code} {Q : State → Prop} {A : Nat → Prop} (D : va_G) (ad : Nat → Nat) (cI cS : ClassId) (hx : p.tables.exec = Jvm.exec) (hb : c.code = cMo_pool) (hml : c.maxLocals = 9) (hw : ∀ w ∈ pq_ws, w.before args s = true) (hown : s.vm.findClass RMo = some m.cls) (hE : pq_E D cI cS s) (hA : ∀ q : Nat, s.heap.size ≤ q → A q) (hR : 1 ≤ R.frames ∧ 23 ≤ R.locals) (xk : Int32) (o : Nat) (ov : Int32) (br : Int32) (t : Nat) (q : Nat) (ho : o < 2 ^ 31) (hq : q < 160) : ∀ (n : Nat) (r : Nat) (mq : Int32) (mn : Int32) (me : Int32) (mo : Int32) (mt : Int32) (mx : Int32) (mp : Int32) (mz : Int32) (mu : Int32) (vn : Int32) (vz : Int32) (vc : Int32) (vv : Int32) (vp : Int32) (ve : Int32) (mK : Nat → Int32) (mA : Nat → Int32) (mB : Nat → Int32) (mC : Nat → Int32) (mf : Nat → Int32) (ml : Nat → Int32) (mc : Nat → Int32) (mL : Nat → Int32) (md : Nat → Int32) (mi : Nat → Int32) (mr : Nat → Int32) (mw : Nat → Int32) (ls : Array Slot) (H : Heap) (locs : List Loc), (r < 2 ^ 31) → (q - r) < n → lv_has ls 9 [(0, .ref (ad 17)), (1, .int xk), (2, .int (nI o)), (3, .int ov), (4, .int br), (6, .int (nI t)), (7, .int (nI q)), (8, .int (nI r))] → va_P D vwCl (wM ad cI cS mq mn me mo mt mx mp mz mu vn vz vc vv vp ve mK mA mB mC mf ml mc mL md mi mr mw) H → va_D A (wM ad cI cS mq mn me mo mt mx mp mz mu vn vz vc vv vp ve mK mA mB mC mf ml mc mL md mi mr mw) → va_S A s.heap H locs → (∀ (ls : Array Slot) (H : Heap) (locs : List Loc), lv_has ls 9 [(0, .ref (ad 17)), (1, .int xk), (2, .int (nI o)), (3, .int ov), (4, .int br), (6, .int (nI t)), (7, .int (nI q)), (8, .int (nI ((LMo_pool_178 n mK mB o q r mc).1)))] → va_P D vwCl (wM ad cI cS mq mn me mo mt mx mp mz mu vn vz vc vv vp ve mK mA mB mC mf ml ((LMo_pool_178 n mK mB o q r mc).2) mL md mi mr mw) H → va_D A (wM ad cI cS mq mn me mo mt mx mp mz mu vn vz vc vv vp ve mK mA mB mC mf ml ((LMo_pool_178 n mK mB o q r mc).2) mL md mi mr mw) → va_S A s.heap H locs → W p l e R s m args below meth c H locs 0 0 Q (F0 m 266 ls [])) → W p l e R s m args below meth c H locs 0 0 Q (F0 m 178 ls []) := by
  intro n
  induction n with
  | zero =>
    intro r mq mn me mo mt mx mp mz mu vn vz vc vv vp ve mK mA mB mC mf ml mc mL md mi mr mw ls H locs hrr hm hl hP hD hS kk
    exact absurd hm (Nat.not_lt_zero _)
  | succ n ih =>
    intro r mq mn me mo mt mx mp mz mu vn vz vc vv vp ve mK mA mB mC mf ml mc mL md mi mr mw ls H locs hrr hm hl hP hD hS kk
    refine lv_iload hx hb dMo_pool_178 (lv_at hl 7 rfl) ?_
    refine lv_iload hx hb dMo_pool_180 (lv_at hl 6 rfl) ?_
    refine lv_icmp_ge (tgt := 266) hx hb dMo_pool_182 (by decide) (fun h1 => ?_) (fun h1 => ?_)
    · have e9 : LMo_pool_178 (n + 1) mK mB o q r mc = (r, mc) := by simp only [LMo_pool_178, if_pos h1]
      rw [e9] at kk
      exact kk ls H locs (lv_sub hl [0, 1, 2, 3, 4, 5, 6, 7] rfl) hP hD hS
    · refine lv_aload_n hx hb dMo_pool_185 rfl (lv_at hl 0 rfl) ?_
      refine va_get (D := D) (ci := 5) (v := .ref (ad 18)) (C := RMo) (T := TMo) (N := 27) hx hb hw pinMo hown hE.1 hP 0 rfl rfl 2 (by decide) (hw _ wd_273) (fun _ h9 => h9) rfl dMo_pool_186 ?_
      refine lv_iload hx hb dMo_pool_189 (lv_at hl 6 rfl) ?_
      refine va_iald hx hb hE.1 hP 1 0 rfl rfl (vp_in_nI hq (by decide)) dMo_pool_191 ?_
      refine lv_bipush (v := 10) hx hb dMo_pool_192 (by first | rfl | decide) ?_
      refine lv_icmp_ne (tgt := 266) hx hb dMo_pool_194 (by decide) (fun h2 => ?_) (fun h2 => ?_)
      · have e9 : LMo_pool_178 (n + 1) mK mB o q r mc = (r, mc) := by simp only [LMo_pool_178, if_neg h1, if_neg h2]
        rw [e9] at kk
        exact kk ls H locs (lv_sub hl [0, 1, 2, 3, 4, 5, 6, 7] rfl) hP hD hS
      · refine lv_aload_n hx hb dMo_pool_197 rfl (lv_at hl 0 rfl) ?_
        refine va_get (D := D) (ci := 5) (v := .ref (ad 24)) (C := RMo) (T := TMo) (N := 27) hx hb hw pinMo hown hE.1 hP 0 rfl rfl 8 (by decide) (hw _ wd_283) (fun _ h9 => h9) rfl dMo_pool_198 ?_
        refine lv_iload hx hb dMo_pool_201 (lv_at hl 6 rfl) ?_
        refine lv_aload_n hx hb dMo_pool_203 rfl (lv_at hl 0 rfl) ?_
        refine va_get (D := D) (ci := 5) (v := .ref (ad 18)) (C := RMo) (T := TMo) (N := 27) hx hb hw pinMo hown hE.1 hP 0 rfl rfl 2 (by decide) (hw _ wd_273) (fun _ h9 => h9) rfl dMo_pool_204 ?_
        refine lv_iload hx hb dMo_pool_207 (lv_at hl 7 rfl) ?_
        refine va_iald hx hb hE.1 hP 1 0 rfl rfl (pq_ix (c := q) rfl (Nat.le_of_lt hq) (by decide) hrr (by assumption)) dMo_pool_209 ?_
        refine lv_bipush (v := 10) hx hb dMo_pool_210 (by first | rfl | decide) ?_
        refine lv_icmp_ne (tgt := 252) hx hb dMo_pool_212 (by decide) (fun h3 => ?_) (fun h3 => ?_)
        · refine lv_aload_n hx hb dMo_pool_252 rfl (lv_at hl 0 rfl) ?_
          refine va_get (D := D) (ci := 5) (v := .ref (ad 24)) (C := RMo) (T := TMo) (N := 27) hx hb hw pinMo hown hE.1 hP 0 rfl rfl 8 (by decide) (hw _ wd_283) (fun _ h9 => h9) rfl dMo_pool_253 ?_
          refine lv_iload hx hb dMo_pool_256 (lv_at hl 6 rfl) ?_
          refine va_iald hx hb hE.1 hP 7 0 rfl rfl (vp_in_nI hq (by decide)) dMo_pool_258 ?_
          refine va_iast hx hb hE.1 hP hD hS 7 0 rfl rfl (vp_in_nI hq (by decide)) dMo_pool_259 (fun H locs hP hD hS => ?_)
          have hP : va_P D vwCl (wM ad cI cS mq mn me mo mt mx mp mz mu vn vz vc vv vp ve mK mA mB mC mf ml (upd mc (nI q).toNatClampNeg (mc (nI q).toNatClampNeg)) mL md mi mr mw) H := hP
          have hD : va_D _ (wM ad cI cS mq mn me mo mt mx mp mz mu vn vz vc vv vp ve mK mA mB mC mf ml (upd mc (nI q).toNatClampNeg (mc (nI q).toNatClampNeg)) mL md mi mr mw) := hD
          refine lv_iinc (k := 7) (v := (nI r) + 1) (lv' := [(8, .int ((nI r) + 1)), (0, .ref (ad 17)), (1, .int xk), (2, .int (nI o)), (3, .int ov), (4, .int br), (6, .int (nI t)), (7, .int (nI q))]) hx hb dMo_pool_260 hl rfl (by first | rfl | decide) (by decide) rfl (fun ls hl => ?_)
          refine lv_goto (tgt := 178) hx hb dMo_pool_263 (by decide) ?_
          have e9 : LMo_pool_178 (n + 1) mK mB o q r mc = LMo_pool_178 n mK mB o q (r + 1) (upd mc (nI q).toNatClampNeg (mc (nI q).toNatClampNeg)) := by simp only [LMo_pool_178, if_neg h1, if_pos h2, if_neg h3]
          rw [e9] at kk
          rw [nI_1] at hl
          exact ih (r + 1) mq mn me mo mt mx mp mz mu vn vz vc vv vp ve mK mA mB mC mf ml (upd mc (nI q).toNatClampNeg (mc (nI q).toNatClampNeg)) mL md mi mr mw ls H locs (by have := pq_lt (c := q) (j := r) rfl (by omega) hrr (by assumption); omega) (by have := pq_lt (c := q) (j := r) rfl (by omega) hrr (by assumption); omega) (lv_sub hl [1, 2, 3, 4, 5, 6, 7, 0] rfl) hP hD hS kk
        · refine lv_aload_n hx hb dMo_pool_215 rfl (lv_at hl 0 rfl) ?_
          refine va_get (D := D) (ci := 5) (v := .ref (ad 20)) (C := RMo) (T := TMo) (N := 27) hx hb hw pinMo hown hE.1 hP 0 rfl rfl 4 (by decide) (hw _ wd_275) (fun _ h9 => h9) rfl dMo_pool_216 ?_
          refine lv_iload hx hb dMo_pool_219 (lv_at hl 7 rfl) ?_
          refine va_iald hx hb hE.1 hP 3 0 rfl rfl (pq_ix (c := q) rfl (Nat.le_of_lt hq) (by decide) hrr (by assumption)) dMo_pool_221 ?_
          refine lv_aload_n hx hb dMo_pool_222 rfl (lv_at hl 0 rfl) ?_
          refine va_get (D := D) (ci := 5) (v := .ref (ad 20)) (C := RMo) (T := TMo) (N := 27) hx hb hw pinMo hown hE.1 hP 0 rfl rfl 4 (by decide) (hw _ wd_275) (fun _ h9 => h9) rfl dMo_pool_223 ?_
          refine lv_iload hx hb dMo_pool_226 (lv_at hl 6 rfl) ?_
          refine va_iald hx hb hE.1 hP 3 0 rfl rfl (vp_in_nI hq (by decide)) dMo_pool_228 ?_
          refine lv_icmp_ne (tgt := 252) hx hb dMo_pool_229 (by decide) (fun h4 => ?_) (fun h4 => ?_)
          · refine lv_aload_n hx hb dMo_pool_252 rfl (lv_at hl 0 rfl) ?_
            refine va_get (D := D) (ci := 5) (v := .ref (ad 24)) (C := RMo) (T := TMo) (N := 27) hx hb hw pinMo hown hE.1 hP 0 rfl rfl 8 (by decide) (hw _ wd_283) (fun _ h9 => h9) rfl dMo_pool_253 ?_
            refine lv_iload hx hb dMo_pool_256 (lv_at hl 6 rfl) ?_
            refine va_iald hx hb hE.1 hP 7 0 rfl rfl (vp_in_nI hq (by decide)) dMo_pool_258 ?_
            refine va_iast hx hb hE.1 hP hD hS 7 0 rfl rfl (vp_in_nI hq (by decide)) dMo_pool_259 (fun H locs hP hD hS => ?_)
            have hP : va_P D vwCl (wM ad cI cS mq mn me mo mt mx mp mz mu vn vz vc vv vp ve mK mA mB mC mf ml (upd mc (nI q).toNatClampNeg (mc (nI q).toNatClampNeg)) mL md mi mr mw) H := hP
            have hD : va_D _ (wM ad cI cS mq mn me mo mt mx mp mz mu vn vz vc vv vp ve mK mA mB mC mf ml (upd mc (nI q).toNatClampNeg (mc (nI q).toNatClampNeg)) mL md mi mr mw) := hD
            refine lv_iinc (k := 7) (v := (nI r) + 1) (lv' := [(8, .int ((nI r) + 1)), (0, .ref (ad 17)), (1, .int xk), (2, .int (nI o)), (3, .int ov), (4, .int br), (6, .int (nI t)), (7, .int (nI q))]) hx hb dMo_pool_260 hl rfl (by first | rfl | decide) (by decide) rfl (fun ls hl => ?_)
            refine lv_goto (tgt := 178) hx hb dMo_pool_263 (by decide) ?_
            have e9 : LMo_pool_178 (n + 1) mK mB o q r mc = LMo_pool_178 n mK mB o q (r + 1) (upd mc (nI q).toNatClampNeg (mc (nI q).toNatClampNeg)) := by simp only [LMo_pool_178, if_neg h1, if_pos h2, if_pos h3, if_neg h4]
            rw [e9] at kk
            rw [nI_1] at hl
            exact ih (r + 1) mq mn me mo mt mx mp mz mu vn vz vc vv vp ve mK mA mB mC mf ml (upd mc (nI q).toNatClampNeg (mc (nI q).toNatClampNeg)) mL md mi mr mw ls H locs (by have := pq_lt (c := q) (j := r) rfl (by omega) hrr (by assumption); omega) (by have := pq_lt (c := q) (j := r) rfl (by omega) hrr (by assumption); omega) (lv_sub hl [1, 2, 3, 4, 5, 6, 7, 0] rfl) hP hD hS kk
          · refine lv_aload_n hx hb dMo_pool_232 rfl (lv_at hl 0 rfl) ?_
            refine lv_iload_n hx hb dMo_pool_233 rfl (lv_at hl 2 rfl) ?_
            refine lv_iload hx hb dMo_pool_234 (lv_at hl 7 rfl) ?_
            refine pq_calli (fr := (FMo_fresh (nI o) (nI r) mK mB)) (wc := (wM ad cI cS mq mn me mo mt mx mp mz mu vn vz vc vv vp ve mK mA mB mC mf ml mc mL md mi mr mw)) (wr := ([] : List Nat).filterMap (fun i => (wM ad cI cS mq mn me mo mt mx mp mz mu vn vz vc vv vp ve mK mA mB mC mf ml mc mL md mi mr mw)[i]?)) hP hD hS hA [0, 1, 2, 3, 4, 5, 6, 7, 8, 9, 10, 11, 12] [] rfl rfl (by decide) (by decide) (va_runV (own := RMo) (C := RMo) (As := [.int (nI o), .int (nI r)]) (rest := [.int (nI q), .ref (ad 24)]) ⟨hx, hb, hml, hown, hw⟩ (k_Mo_fresh l D ad cI cS (nI o) (nI r) mq mn me mo mt mx mp mz mu vn vz vc vv vp ve mK mA mB mC mf ml mc mL md mi mr mw (nI_pos ho) (pq_ix (c := q) rfl (Nat.le_of_lt hq) (by decide) hrr (by assumption)) H.size) ⟨pq_cwB 2 hw wd_280 wd_186 wd_279 rfl rfl (by decide +kernel) ⟨Nat.le_trans (by decide) hR.1, Nat.le_trans (by decide) hR.2⟩, hw _ wd_281, hw _ wd_282⟩ (pq_preV (ci := 5) (C := RMo) (T := TMo) (N := 27) hE (hP.sub [0, 1, 2, 3, 4, 5, 6, 7, 8, 9, 10, 11, 12] rfl) (hD.sub [0, 1, 2, 3, 4, 5, 6, 7, 8, 9, 10, 11, 12] (by decide) rfl) rfl 0 rfl) rfl rfl hl.1 rfl (lv_room (Nat.le_of_ble_eq_true rfl)) dMo_pool_236 ⟨Nat.zero_le _, Nat.zero_le _⟩) (fun H locs hP hD hS => ?_)
            have hP : va_P D vwCl (wM ad cI cS mq mn me mo mt mx mp mz mu vn vz vc vv vp ve mK mA mB mC mf ml mc mL md mi mr mw) H := hP.sub [0, 1, 2, 3, 4, 5, 6, 7, 8, 9, 10, 11, 12] rfl
            have hD : va_D _ (wM ad cI cS mq mn me mo mt mx mp mz mu vn vz vc vv vp ve mK mA mB mC mf ml mc mL md mi mr mw) := hD.sub [0, 1, 2, 3, 4, 5, 6, 7, 8, 9, 10, 11, 12] (by decide) rfl
            refine lv_if_eq (tgt := 252) hx hb dMo_pool_239 (by decide) (fun h5 => ?_) (fun h5 => ?_)
            · refine lv_aload_n hx hb dMo_pool_252 rfl (lv_at hl 0 rfl) ?_
              refine va_get (D := D) (ci := 5) (v := .ref (ad 24)) (C := RMo) (T := TMo) (N := 27) hx hb hw pinMo hown hE.1 hP 0 rfl rfl 8 (by decide) (hw _ wd_283) (fun _ h9 => h9) rfl dMo_pool_253 ?_
              refine lv_iload hx hb dMo_pool_256 (lv_at hl 6 rfl) ?_
              refine va_iald hx hb hE.1 hP 7 0 rfl rfl (vp_in_nI hq (by decide)) dMo_pool_258 ?_
              refine va_iast hx hb hE.1 hP hD hS 7 0 rfl rfl (vp_in_nI hq (by decide)) dMo_pool_259 (fun H locs hP hD hS => ?_)
              have hP : va_P D vwCl (wM ad cI cS mq mn me mo mt mx mp mz mu vn vz vc vv vp ve mK mA mB mC mf ml (upd mc (nI q).toNatClampNeg (mc (nI q).toNatClampNeg)) mL md mi mr mw) H := hP
              have hD : va_D _ (wM ad cI cS mq mn me mo mt mx mp mz mu vn vz vc vv vp ve mK mA mB mC mf ml (upd mc (nI q).toNatClampNeg (mc (nI q).toNatClampNeg)) mL md mi mr mw) := hD
              refine lv_iinc (k := 7) (v := (nI r) + 1) (lv' := [(8, .int ((nI r) + 1)), (0, .ref (ad 17)), (1, .int xk), (2, .int (nI o)), (3, .int ov), (4, .int br), (6, .int (nI t)), (7, .int (nI q))]) hx hb dMo_pool_260 hl rfl (by first | rfl | decide) (by decide) rfl (fun ls hl => ?_)
              refine lv_goto (tgt := 178) hx hb dMo_pool_263 (by decide) ?_
              have e9 : LMo_pool_178 (n + 1) mK mB o q r mc = LMo_pool_178 n mK mB o q (r + 1) (upd mc (nI q).toNatClampNeg (mc (nI q).toNatClampNeg)) := by simp only [LMo_pool_178, if_neg h1, if_pos h2, if_pos h3, if_pos h4, if_pos h5]
              rw [e9] at kk
              rw [nI_1] at hl
              exact ih (r + 1) mq mn me mo mt mx mp mz mu vn vz vc vv vp ve mK mA mB mC mf ml (upd mc (nI q).toNatClampNeg (mc (nI q).toNatClampNeg)) mL md mi mr mw ls H locs (by have := pq_lt (c := q) (j := r) rfl (by omega) hrr (by assumption); omega) (by have := pq_lt (c := q) (j := r) rfl (by omega) hrr (by assumption); omega) (lv_sub hl [1, 2, 3, 4, 5, 6, 7, 0] rfl) hP hD hS kk
            · refine lv_aload_n hx hb dMo_pool_242 rfl (lv_at hl 0 rfl) ?_
              refine va_get (D := D) (ci := 5) (v := .ref (ad 24)) (C := RMo) (T := TMo) (N := 27) hx hb hw pinMo hown hE.1 hP 0 rfl rfl 8 (by decide) (hw _ wd_283) (fun _ h9 => h9) rfl dMo_pool_243 ?_
              refine lv_iload hx hb dMo_pool_246 (lv_at hl 7 rfl) ?_
              refine va_iald hx hb hE.1 hP 7 0 rfl rfl (pq_ix (c := q) rfl (Nat.le_of_lt hq) (by decide) hrr (by assumption)) dMo_pool_248 ?_
              refine lv_goto (tgt := 259) hx hb dMo_pool_249 (by decide) ?_
              refine va_iast hx hb hE.1 hP hD hS 7 0 rfl rfl (vp_in_nI hq (by decide)) dMo_pool_259 (fun H locs hP hD hS => ?_)
              have hP : va_P D vwCl (wM ad cI cS mq mn me mo mt mx mp mz mu vn vz vc vv vp ve mK mA mB mC mf ml (upd mc (nI q).toNatClampNeg (mc (nI r).toNatClampNeg)) mL md mi mr mw) H := hP
              have hD : va_D _ (wM ad cI cS mq mn me mo mt mx mp mz mu vn vz vc vv vp ve mK mA mB mC mf ml (upd mc (nI q).toNatClampNeg (mc (nI r).toNatClampNeg)) mL md mi mr mw) := hD
              refine lv_iinc (k := 7) (v := (nI r) + 1) (lv' := [(8, .int ((nI r) + 1)), (0, .ref (ad 17)), (1, .int xk), (2, .int (nI o)), (3, .int ov), (4, .int br), (6, .int (nI t)), (7, .int (nI q))]) hx hb dMo_pool_260 hl rfl (by first | rfl | decide) (by decide) rfl (fun ls hl => ?_)
              refine lv_goto (tgt := 178) hx hb dMo_pool_263 (by decide) ?_
              have e9 : LMo_pool_178 (n + 1) mK mB o q r mc = LMo_pool_178 n mK mB o q (r + 1) (upd mc (nI q).toNatClampNeg (mc (nI r).toNatClampNeg)) := by simp only [LMo_pool_178, if_neg h1, if_pos h2, if_pos h3, if_pos h4, if_neg h5]
              rw [e9] at kk
              rw [nI_1] at hl
              exact ih (r + 1) mq mn me mo mt mx mp mz mu vn vz vc vv vp ve mK mA mB mC mf ml (upd mc (nI q).toNatClampNeg (mc (nI r).toNatClampNeg)) mL md mi mr mw ls H locs (by have := pq_lt (c := q) (j := r) rfl (by omega) hrr (by assumption); omega) (by have := pq_lt (c := q) (j := r) rfl (by omega) hrr (by assumption); omega) (lv_sub hl [1, 2, 3, 4, 5, 6, 7, 0] rfl) hP hD hS kk
def LMo_pool_169 : Nat → (Int32) → (Nat → Int32) → (Nat → Int32) → (Nat) → (Nat) → (Nat → Int32) → Nat × (Nat → Int32)
  | 0, _, _, _, _, q, mc => (q, mc)
  | n + 1, xk, mK, mB, o, q, mc => if xk ≤ (nI q) then (q, mc) else LMo_pool_169 n xk mK mB o (q + 1) ((LMo_pool_178 (q + 1) mK mB o q o mc).2)
set_option maxHeartbeats 4000000 in
set_option maxRecDepth 100000 in
theorem qMo_pool_169 {p : Program} {l : Launch} {e : Env} {R : Room} {s : State} {m : MethodId} {args : Array Value} {below : List Frame} {meth : Method} {c : Code} {Q : State → Prop} {A : Nat → Prop} (D : va_G) (ad : Nat → Nat) (cI cS : ClassId) (hx : p.tables.exec = Jvm.exec) (hb : c.code = cMo_pool) (hml : c.maxLocals = 9) (hw : ∀ w ∈ pq_ws, w.before args s = true) (hown : s.vm.findClass RMo = some m.cls) (hE : pq_E D cI cS s) (hA : ∀ q : Nat, s.heap.size ≤ q → A q) (hR : 1 ≤ R.frames ∧ 23 ≤ R.locals) (xk : Int32) (o : Nat) (ov : Int32) (br : Int32) (t : Nat) (k : Nat) (hk : xk = nI k) (hk1 : k ≤ 160) (ho : o < 2 ^ 31) : ∀ (n : Nat) (q : Nat) (mq : Int32) (mn : Int32) (me : Int32) (mo : Int32) (mt : Int32) (mx : Int32) (mp : Int32) (mz : Int32) (mu : Int32) (vn : Int32) (vz : Int32) (vc : Int32) (vv : Int32) (vp : Int32) (ve : Int32) (mK : Nat → Int32) (mA : Nat → Int32) (mB : Nat → Int32) (mC : Nat → Int32) (mf : Nat → Int32) (ml : Nat → Int32) (mc : Nat → Int32) (mL : Nat → Int32) (md : Nat → Int32) (mi : Nat → Int32) (mr : Nat → Int32) (mw : Nat → Int32) (ls : Array Slot) (H : Heap) (locs : List Loc), (q < 2 ^ 31) → (k - q) < n → lv_has ls 9 [(0, .ref (ad 17)), (1, .int xk), (2, .int (nI o)), (3, .int ov), (4, .int br), (6, .int (nI t)), (7, .int (nI q))] → va_P D vwCl (wM ad cI cS mq mn me mo mt mx mp mz mu vn vz vc vv vp ve mK mA mB mC mf ml mc mL md mi mr mw) H → va_D A (wM ad cI cS mq mn me mo mt mx mp mz mu vn vz vc vv vp ve mK mA mB mC mf ml mc mL md mi mr mw) → va_S A s.heap H locs → (∀ (ls : Array Slot) (H : Heap) (locs : List Loc), lv_has ls 9 [(0, .ref (ad 17)), (1, .int xk), (2, .int (nI o)), (3, .int ov), (4, .int br), (6, .int (nI t)), (7, .int (nI ((LMo_pool_169 n xk mK mB o q mc).1)))] → va_P D vwCl (wM ad cI cS mq mn me mo mt mx mp mz mu vn vz vc vv vp ve mK mA mB mC mf ml ((LMo_pool_169 n xk mK mB o q mc).2) mL md mi mr mw) H → va_D A (wM ad cI cS mq mn me mo mt mx mp mz mu vn vz vc vv vp ve mK mA mB mC mf ml ((LMo_pool_169 n xk mK mB o q mc).2) mL md mi mr mw) → va_S A s.heap H locs → W p l e R s m args below meth c H locs 0 0 Q (F0 m 272 ls [])) → W p l e R s m args below meth c H locs 0 0 Q (F0 m 169 ls []) := by
  intro n
  induction n with
  | zero =>
    intro q mq mn me mo mt mx mp mz mu vn vz vc vv vp ve mK mA mB mC mf ml mc mL md mi mr mw ls H locs hq hm hl hP hD hS kk
    exact absurd hm (Nat.not_lt_zero _)
  | succ n ih =>
    intro q mq mn me mo mt mx mp mz mu vn vz vc vv vp ve mK mA mB mC mf ml mc mL md mi mr mw ls H locs hq hm hl hP hD hS kk
    refine lv_iload hx hb dMo_pool_169 (lv_at hl 6 rfl) ?_
    refine lv_iload_n hx hb dMo_pool_171 rfl (lv_at hl 1 rfl) ?_
    refine lv_icmp_ge (tgt := 272) hx hb dMo_pool_172 (by decide) (fun h1 => ?_) (fun h1 => ?_)
    · have e9 : LMo_pool_169 (n + 1) xk mK mB o q mc = (q, mc) := by simp only [LMo_pool_169, if_pos h1]
      rw [e9] at kk
      exact kk ls H locs (lv_sub hl [0, 1, 2, 3, 4, 5, 6] rfl) hP hD hS
    · refine lv_iload_n hx hb dMo_pool_175 rfl (lv_at hl 2 rfl) ?_
      refine lv_istore (lv' := [(8, .int (nI o)), (0, .ref (ad 17)), (1, .int xk), (2, .int (nI o)), (3, .int ov), (4, .int br), (6, .int (nI t)), (7, .int (nI q))]) hx hb dMo_pool_176 hl (by decide) rfl (fun ls hl => ?_)
      refine qMo_pool_178 D ad cI cS hx hb hml hw hown hE hA hR xk o ov br t q ho (by have := pq_lt (j := q) hk (by omega) hq (by assumption); omega) (q + 1) o mq mn me mo mt mx mp mz mu vn vz vc vv vp ve mK mA mB mC mf ml mc mL md mi mr mw ls H locs ho (by omega) (lv_sub hl [1, 2, 3, 4, 5, 6, 7, 0] rfl) hP hD hS (fun ls H locs hl hP hD hS => ?_)
      have hP : va_P D vwCl (wM ad cI cS mq mn me mo mt mx mp mz mu vn vz vc vv vp ve mK mA mB mC mf ml ((LMo_pool_178 (q + 1) mK mB o q o mc).2) mL md mi mr mw) H := hP
      have hD : va_D _ (wM ad cI cS mq mn me mo mt mx mp mz mu vn vz vc vv vp ve mK mA mB mC mf ml ((LMo_pool_178 (q + 1) mK mB o q o mc).2) mL md mi mr mw) := hD
      refine lv_iinc (k := 6) (v := (nI q) + 1) (lv' := [(7, .int ((nI q) + 1)), (0, .ref (ad 17)), (1, .int xk), (2, .int (nI o)), (3, .int ov), (4, .int br), (6, .int (nI t)), (8, .int (nI ((LMo_pool_178 (q + 1) mK mB o q o mc).1)))]) hx hb dMo_pool_266 hl rfl (by first | rfl | decide) (by decide) rfl (fun ls hl => ?_)
      refine lv_goto (tgt := 169) hx hb dMo_pool_269 (by decide) ?_
      have e9 : LMo_pool_169 (n + 1) xk mK mB o q mc = LMo_pool_169 n xk mK mB o (q + 1) ((LMo_pool_178 (q + 1) mK mB o q o mc).2) := by simp only [LMo_pool_169, if_neg h1]
      rw [e9] at kk
      rw [nI_1] at hl
      exact ih (q + 1) mq mn me mo mt mx mp mz mu vn vz vc vv vp ve mK mA mB mC mf ml ((LMo_pool_178 (q + 1) mK mB o q o mc).2) mL md mi mr mw ls H locs (by have := pq_lt (j := q) hk (by omega) hq (by assumption); omega) (by have := pq_lt (j := q) hk (by omega) hq (by assumption); omega) (lv_sub hl [1, 2, 3, 4, 5, 6, 0] rfl) hP hD hS kk
def FMo_pool (xk : Int32) (me : Int32) (mo : Int32) (mt : Int32) (mp : Int32) (mK : Nat → Int32) (mB : Nat → Int32) (mc : Nat → Int32) (md : Nat → Int32) : Int32 × Int32 × Int32 × Int32 × (Nat → Int32) × (Nat → Int32) := if mo = (-1) then (me, mo, mt, mp, mc, md) else if mt = 11 then if (FMo_up me) ≤ me then (nI (LMo_pool_89 (xk.toInt.toNat + 1) xk mK mB mo.toInt.toNat ((FMo_up me).toInt.toNat) mo.toInt.toNat mc md).1, (-1), 14, mp + 1, (LMo_pool_169 (xk.toInt.toNat + 1) xk mK mB mo.toInt.toNat mo.toInt.toNat (LMo_pool_89 (xk.toInt.toNat + 1) xk mK mB mo.toInt.toNat ((FMo_up me).toInt.toNat) mo.toInt.toNat mc md).2.2.1).2, (LMo_pool_89 (xk.toInt.toNat + 1) xk mK mB mo.toInt.toNat ((FMo_up me).toInt.toNat) mo.toInt.toNat mc md).2.2.2) else (nI (LMo_pool_89 (xk.toInt.toNat + 1) xk mK mB mo.toInt.toNat ((FMo_up me).toInt.toNat) mo.toInt.toNat mc (FMo_write me 18112 md)).1, (-1), 14, mp + 1, (LMo_pool_169 (xk.toInt.toNat + 1) xk mK mB mo.toInt.toNat mo.toInt.toNat (LMo_pool_89 (xk.toInt.toNat + 1) xk mK mB mo.toInt.toNat ((FMo_up me).toInt.toNat) mo.toInt.toNat mc (FMo_write me 18112 md)).2.2.1).2, (LMo_pool_89 (xk.toInt.toNat + 1) xk mK mB mo.toInt.toNat ((FMo_up me).toInt.toNat) mo.toInt.toNat mc (FMo_write me 18112 md)).2.2.2) else if mt = 15 then if (FMo_up me) ≤ me then (nI (LMo_pool_89 (xk.toInt.toNat + 1) xk mK mB mo.toInt.toNat ((FMo_up me).toInt.toNat) mo.toInt.toNat mc md).1, (-1), 14, mp + 1, (LMo_pool_169 (xk.toInt.toNat + 1) xk mK mB mo.toInt.toNat mo.toInt.toNat (LMo_pool_89 (xk.toInt.toNat + 1) xk mK mB mo.toInt.toNat ((FMo_up me).toInt.toNat) mo.toInt.toNat mc md).2.2.1).2, (LMo_pool_89 (xk.toInt.toNat + 1) xk mK mB mo.toInt.toNat ((FMo_up me).toInt.toNat) mo.toInt.toNat mc md).2.2.2) else (nI (LMo_pool_89 (xk.toInt.toNat + 1) xk mK mB mo.toInt.toNat ((FMo_up me).toInt.toNat) mo.toInt.toNat mc (FMo_write me 18112 md)).1, (-1), 14, mp + 1, (LMo_pool_169 (xk.toInt.toNat + 1) xk mK mB mo.toInt.toNat mo.toInt.toNat (LMo_pool_89 (xk.toInt.toNat + 1) xk mK mB mo.toInt.toNat ((FMo_up me).toInt.toNat) mo.toInt.toNat mc (FMo_write me 18112 md)).2.2.1).2, (LMo_pool_89 (xk.toInt.toNat + 1) xk mK mB mo.toInt.toNat ((FMo_up me).toInt.toNat) mo.toInt.toNat mc (FMo_write me 18112 md)).2.2.2) else if (FMo_up (me + 2)) ≤ (me + 2) then (nI (LMo_pool_89 (xk.toInt.toNat + 1) xk mK mB mo.toInt.toNat ((FMo_up (me + 2)).toInt.toNat) mo.toInt.toNat mc md).1, (-1), 14, mp + 1, (LMo_pool_169 (xk.toInt.toNat + 1) xk mK mB mo.toInt.toNat mo.toInt.toNat (LMo_pool_89 (xk.toInt.toNat + 1) xk mK mB mo.toInt.toNat ((FMo_up (me + 2)).toInt.toNat) mo.toInt.toNat mc md).2.2.1).2, (FMo_write me (57344 + (((((nI (LMo_pool_89 (xk.toInt.toNat + 1) xk mK mB mo.toInt.toNat ((FMo_up (me + 2)).toInt.toNat) mo.toInt.toNat mc md).1) - me) - 4) / 2) &&& (2047 : Int32))) (LMo_pool_89 (xk.toInt.toNat + 1) xk mK mB mo.toInt.toNat ((FMo_up (me + 2)).toInt.toNat) mo.toInt.toNat mc md).2.2.2)) else (nI (LMo_pool_89 (xk.toInt.toNat + 1) xk mK mB mo.toInt.toNat ((FMo_up (me + 2)).toInt.toNat) mo.toInt.toNat mc (FMo_write (me + 2) 18112 md)).1, (-1), 14, mp + 1, (LMo_pool_169 (xk.toInt.toNat + 1) xk mK mB mo.toInt.toNat mo.toInt.toNat (LMo_pool_89 (xk.toInt.toNat + 1) xk mK mB mo.toInt.toNat ((FMo_up (me + 2)).toInt.toNat) mo.toInt.toNat mc (FMo_write (me + 2) 18112 md)).2.2.1).2, (FMo_write me (57344 + (((((nI (LMo_pool_89 (xk.toInt.toNat + 1) xk mK mB mo.toInt.toNat ((FMo_up (me + 2)).toInt.toNat) mo.toInt.toNat mc (FMo_write (me + 2) 18112 md)).1) - me) - 4) / 2) &&& (2047 : Int32))) (LMo_pool_89 (xk.toInt.toNat + 1) xk mK mB mo.toInt.toNat ((FMo_up (me + 2)).toInt.toNat) mo.toInt.toNat mc (FMo_write (me + 2) 18112 md)).2.2.2))
set_option maxHeartbeats 4000000 in
set_option maxRecDepth 100000 in
theorem k_Mo_pool (l : Launch) (D : va_G) (ad : Nat → Nat) (cI cS : ClassId) (xk : Int32) (mq : Int32) (mn : Int32) (me : Int32) (mo : Int32) (mt : Int32) (mx : Int32) (mp : Int32) (mz : Int32) (mu : Int32) (vn : Int32) (vz : Int32) (vc : Int32) (vv : Int32) (vp : Int32) (ve : Int32) (mK : Nat → Int32) (mA : Nat → Int32) (mB : Nat → Int32) (mC : Nat → Int32) (mf : Nat → Int32) (ml : Nat → Int32) (mc : Nat → Int32) (mL : Nat → Int32) (md : Nat → Int32) (mi : Nat → Int32) (mr : Nat → Int32) (mw : Nat → Int32) (hxk0 : ¬ xk < 0) (hxk1 : xk.toInt ≤ 160) (bb : Int) (hpl : pq_phi me mo xk bb) (hB : bb ≤ 14400) : pq_VP l yMo_pool (.code yMo_pool cMo_pool 9 none :: pq_ws) { frames := 1, cells := 0, slots := 0, locals := 23 } D cI cS [.ref (ad 17), .int xk] (wM ad cI cS mq mn me mo mt mx mp mz mu vn vz vc vv vp ve mK mA mB mC mf ml mc mL md mi mr mw) ((((FMo_pool xk me mo mt mp mK mB mc md).2.1) = (-1) ∧ ¬ ((FMo_pool xk me mo mt mp mK mB mc md).1) < 0 ∧ ((FMo_pool xk me mo mt mp mK mB mc md).1).toInt ≤ bb)) (wM ad cI cS mq mn ((FMo_pool xk me mo mt mp mK mB mc md).1) ((FMo_pool xk me mo mt mp mK mB mc md).2.1) ((FMo_pool xk me mo mt mp mK mB mc md).2.2.1) mx ((FMo_pool xk me mo mt mp mK mB mc md).2.2.2.1) mz mu vn vz vc vv vp ve mK mA mB mC mf ml ((FMo_pool xk me mo mt mp mK mB mc md).2.2.2.2.1) mL ((FMo_pool xk me mo mt mp mK mB mc md).2.2.2.2.2) mi mr mw) := by
  intro sz
  refine Met.ofW (cc := cMo_pool) (maxL := 9) (ret := none) (by decide) rfl ?_
  intro p e s m args below meth c s₁ B hml hv
  obtain ⟨rfl, hsz, hP, hD0, hE⟩ := hv
  have hx := B.exec
  have hb := B.bytes
  have hr := B.returns
  have hts := atoms_spec (ws := (.code yMo_pool cMo_pool 9 none :: pq_ws : List Cond)) B.pre
  have hw : ∀ w ∈ pq_ws, w.before _ s = true := fun w h => hts w (List.mem_cons_of_mem _ h)
  have hown : s.vm.findClass RMo = some m.cls := findClass_of_methodNamed B.named
  have hlocks := B.notSynchronized
  subst hsz
  have hD := hD0.self (sz := s.heap.size)
  have hA : ∀ q : Nat, s.heap.size ≤ q → va_A (wM ad cI cS mq mn me mo mt mx mp mz mu vn vz vc vv vp ve mK mA mB mC mf ml mc mL md mi mr mw) s.heap.size q := fun q h => Or.inr h
  have hS : va_S (va_A (wM ad cI cS mq mn me mo mt mx mp mz mu vn vz vc vv vp ve mK mA mB mC mf ml mc mL md mi mr mw) s.heap.size) s.heap s.heap [] := va_S.rf
  have hl := lv_entry ([.ref (ad 17), .int xk] : List Value) (n := 9) (Nat.le_of_ble_eq_true rfl)
  rw [lg_entry_eq]
  generalize (lg_sl ([.ref (ad 17), .int xk] : List Value) ++ List.replicate (9 - (lg_sl ([.ref (ad 17), .int xk] : List Value)).length) Slot.unset).toArray = ls at hl ⊢
  have hl : lv_has ls 9 [(0, .ref (ad 17)), (1, .int xk)] := hl
  refine lv_aload_n hx hb dMo_pool_0 rfl (lv_at hl 0 rfl) ?_
  refine va_get (D := D) (ci := 5) (v := .int mo) (C := RMo) (T := TMo) (N := 27) hx hb hw pinMo hown hE.1 hP 0 rfl rfl 11 (by decide) (hw _ wd_288) (fun _ h9 => h9) rfl dMo_pool_1 ?_
  refine lv_iconst (v := (-1)) hx hb dMo_pool_4 (by first | rfl | decide) ?_
  refine lv_icmp_ne (tgt := 9) hx hb dMo_pool_5 (by decide) (fun h1 => ?_) (fun h1 => ?_)
  · obtain ⟨hme0, hmo0, hmo1, hmb⟩ := pq_phi1 hpl (by assumption)
    have hmei := pq_ge hme0
    have hmoi := pq_ge hmo0
    refine lv_aload_n hx hb dMo_pool_9 rfl (lv_at hl 0 rfl) ?_
    refine va_get (D := D) (ci := 5) (v := .int mo) (C := RMo) (T := TMo) (N := 27) hx hb hw pinMo hown hE.1 hP 0 rfl rfl 11 (by decide) (hw _ wd_288) (fun _ h9 => h9) rfl dMo_pool_10 ?_
    refine lv_istore_n (lv' := [(2, .int mo), (0, .ref (ad 17)), (1, .int xk)]) hx hb dMo_pool_13 rfl hl (by decide) rfl (fun ls hl => ?_)
    refine lv_aload_n hx hb dMo_pool_14 rfl (lv_at hl 1 rfl) ?_
    refine va_get (D := D) (ci := 5) (v := .int mt) (C := RMo) (T := TMo) (N := 27) hx hb hw pinMo hown hE.1 hP 0 rfl rfl 12 (by decide) (hw _ wd_289) (fun _ h9 => h9) rfl dMo_pool_15 ?_
    refine lv_bipush (v := 11) hx hb dMo_pool_18 (by first | rfl | decide) ?_
    refine lv_icmp_eq (tgt := 36) hx hb dMo_pool_20 (by decide) (fun h2 => ?_) (fun h2 => ?_)
    · refine lv_iconst (v := 0) hx hb dMo_pool_36 (by first | rfl | decide) ?_
      refine lv_istore_n (lv' := [(3, .int 0), (2, .int mo), (0, .ref (ad 17)), (1, .int xk)]) hx hb dMo_pool_37 rfl hl (by decide) rfl (fun ls hl => ?_)
      refine lv_aload_n hx hb dMo_pool_38 rfl (lv_at hl 2 rfl) ?_
      refine va_get (D := D) (ci := 5) (v := .int me) (C := RMo) (T := TMo) (N := 27) hx hb hw pinMo hown hE.1 hP 0 rfl rfl 10 (by decide) (hw _ wd_278) (fun _ h9 => h9) rfl dMo_pool_39 ?_
      refine lv_istore (lv' := [(4, .int me), (3, .int 0), (2, .int mo), (0, .ref (ad 17)), (1, .int xk)]) hx hb dMo_pool_42 hl (by decide) rfl (fun ls hl => ?_)
      refine lv_iload_n hx hb dMo_pool_44 rfl (lv_at hl 1 rfl) ?_
      refine lv_if_eq (tgt := 57) hx hb dMo_pool_45 (by decide) (fun _ => ?_) (fun h9 => absurd h9 (by decide))
      refine lv_aload_n hx hb dMo_pool_57 rfl (lv_at hl 3 rfl) ?_
      refine va_get (D := D) (ci := 5) (v := .int me) (C := RMo) (T := TMo) (N := 27) hx hb hw pinMo hown hE.1 hP 0 rfl rfl 10 (by decide) (hw _ wd_278) (fun _ h9 => h9) rfl dMo_pool_58 ?_
      refine lv_istore (lv' := [(5, .int me), (4, .int me), (3, .int 0), (2, .int mo), (0, .ref (ad 17)), (1, .int xk)]) hx hb dMo_pool_61 hl (by decide) rfl (fun ls hl => ?_)
      have hu := pq_upb (x := me) hme0 (by omega)
      have hui := pq_ge hu.1
      refine lv_iload hx hb dMo_pool_63 (lv_at hl 0 rfl) ?_
      refine pq_calli (fr := (FMo_up me)) (wc := (wN ad cI cS)) (wr := ([0, 1, 2, 3, 4, 5, 6, 7, 8, 9, 10, 11, 12] : List Nat).filterMap (fun i => (wM ad cI cS mq mn me mo mt mx mp mz mu vn vz vc vv vp ve mK mA mB mC mf ml mc mL md mi mr mw)[i]?)) hP hD hS hA [] [0, 1, 2, 3, 4, 5, 6, 7, 8, 9, 10, 11, 12] rfl rfl (by decide) (by decide) (va_runS (own := RMo) (As := [.int me]) (rest := []) ⟨hx, hb, hml, hown, hw⟩ (k_Mo_up l D ad cI cS me s.heap.size) ⟨pq_cwB 1 hw wd_291 wd_186 wd_290 rfl rfl (by decide +kernel) ⟨Nat.le_of_ble_eq_true rfl, Nat.le_of_ble_eq_true rfl⟩, hw _ wd_292⟩ (pq_preS hE (hP.sub [] rfl) (hD.sub [] (by decide) rfl)) rfl rfl hl.1 rfl (lv_room (Nat.le_of_ble_eq_true rfl)) dMo_pool_65 ⟨Nat.zero_le _, Nat.zero_le _⟩) (fun H locs hP hD hS => ?_)
      have hP : va_P D vwCl (wM ad cI cS mq mn me mo mt mx mp mz mu vn vz vc vv vp ve mK mA mB mC mf ml mc mL md mi mr mw) H := hP.sub [0, 1, 2, 3, 4, 5, 6, 7, 8, 9, 10, 11, 12] rfl
      have hD : va_D _ (wM ad cI cS mq mn me mo mt mx mp mz mu vn vz vc vv vp ve mK mA mB mC mf ml mc mL md mi mr mw) := hD.sub [0, 1, 2, 3, 4, 5, 6, 7, 8, 9, 10, 11, 12] (by decide) rfl
      refine lv_istore (lv' := [(6, .int (FMo_up me)), (5, .int me), (4, .int me), (3, .int 0), (2, .int mo), (0, .ref (ad 17)), (1, .int xk)]) hx hb dMo_pool_68 hl (by decide) rfl (fun ls hl => ?_)
      refine lv_iload hx hb dMo_pool_70 (lv_at hl 0 rfl) ?_
      refine lv_iload hx hb dMo_pool_72 (lv_at hl 1 rfl) ?_
      refine lv_icmp_le (tgt := 86) hx hb dMo_pool_74 (by decide) (fun h3 => ?_) (fun h3 => ?_)
      · refine lv_iload_n hx hb dMo_pool_86 rfl (lv_at hl 4 rfl) ?_
        refine lv_istore (lv' := [(7, .int mo), (6, .int (FMo_up me)), (5, .int me), (4, .int me), (3, .int 0), (2, .int mo), (0, .ref (ad 17)), (1, .int xk)]) hx hb dMo_pool_87 hl (by decide) rfl (fun ls hl => ?_)
        obtain ⟨g1, hg1⟩ : ∃ g9, LMo_pool_89 (xk.toInt.toNat + 1) xk mK mB mo.toInt.toNat ((FMo_up me).toInt.toNat) mo.toInt.toNat mc md = g9 := ⟨_, rfl⟩
        refine qMo_pool_89 D ad cI cS hx hb hml hw hown hE hA ⟨Nat.le_of_ble_eq_true rfl, Nat.le_of_ble_eq_true rfl⟩ xk mo.toInt.toNat 0 me xk.toInt.toNat bb.toNat (pq_nat hxk0) (pq_nat_le hxk1) (by omega) (pq_nat_lt _) (xk.toInt.toNat + 1) ((FMo_up me).toInt.toNat) mo.toInt.toNat mq mn me mo mt mx mp mz mu vn vz vc vv vp ve mK mA mB mC mf ml mc mL md mi mr mw ls H locs (pq_nat_lt _) (by omega) (by omega) (by rw [← pq_nat hmo0, ← pq_nat hu.1]; exact lv_sub hl [6, 7, 5, 4, 3, 1, 0] rfl) hP hD hS (fun ls H locs ht9 hl hP hD hS => ?_)
        try rw [hg1] at hl
        try rw [hg1] at hP
        try rw [hg1] at hD
        try rw [hg1] at ht9
        have hP : va_P D vwCl (wM ad cI cS mq mn me mo mt mx mp mz mu vn vz vc vv vp ve mK mA mB mC mf ml g1.2.2.1 mL g1.2.2.2 mi mr mw) H := hP
        have hD : va_D _ (wM ad cI cS mq mn me mo mt mx mp mz mu vn vz vc vv vp ve mK mA mB mC mf ml g1.2.2.1 mL g1.2.2.2 mi mr mw) := hD
        refine lv_iload_n hx hb dMo_pool_166 rfl (lv_at hl 2 rfl) ?_
        refine lv_istore (lv' := [(7, .int (nI mo.toInt.toNat)), (0, .ref (ad 17)), (1, .int xk), (2, .int (nI mo.toInt.toNat)), (3, .int 0), (4, .int me), (6, .int (nI g1.1))]) hx hb dMo_pool_167 hl (by decide) rfl (fun ls hl => ?_)
        refine qMo_pool_169 D ad cI cS hx hb hml hw hown hE hA ⟨Nat.le_of_ble_eq_true rfl, Nat.le_of_ble_eq_true rfl⟩ xk mo.toInt.toNat 0 me g1.1 xk.toInt.toNat (pq_nat hxk0) (pq_nat_le hxk1) (pq_nat_lt _) (xk.toInt.toNat + 1) mo.toInt.toNat mq mn me mo mt mx mp mz mu vn vz vc vv vp ve mK mA mB mC mf ml g1.2.2.1 mL g1.2.2.2 mi mr mw ls H locs (pq_nat_lt _) (by omega) (lv_sub hl [1, 2, 3, 4, 5, 6, 0] rfl) hP hD hS (fun ls H locs hl hP hD hS => ?_)
        have hP : va_P D vwCl (wM ad cI cS mq mn me mo mt mx mp mz mu vn vz vc vv vp ve mK mA mB mC mf ml ((LMo_pool_169 (xk.toInt.toNat + 1) xk mK mB mo.toInt.toNat mo.toInt.toNat g1.2.2.1).2) mL g1.2.2.2 mi mr mw) H := hP
        have hD : va_D _ (wM ad cI cS mq mn me mo mt mx mp mz mu vn vz vc vv vp ve mK mA mB mC mf ml ((LMo_pool_169 (xk.toInt.toNat + 1) xk mK mB mo.toInt.toNat mo.toInt.toNat g1.2.2.1).2) mL g1.2.2.2 mi mr mw) := hD
        refine lv_iload_n hx hb dMo_pool_272 rfl (lv_at hl 3 rfl) ?_
        refine lv_if_eq (tgt := 298) hx hb dMo_pool_273 (by decide) (fun _ => ?_) (fun h9 => absurd h9 (by decide))
        refine lv_aload_n hx hb dMo_pool_298 rfl (lv_at hl 0 rfl) ?_
        refine lv_iload hx hb dMo_pool_299 (lv_at hl 5 rfl) ?_
        refine va_put (D := D) (ci := 5) (v := .int (nI g1.1)) (ty := .int) (C := RMo) (T := TMo) (N := 27) hx hb hw pinMo tyMo tyMo_ok nmMo hown hE.1 hP hD hS 0 rfl rfl 10 (by decide) (hw _ wd_278) (fun _ h9 => h9) rfl (by decide +kernel) rfl rfl (Nat.le_of_ble_eq_true rfl) dMo_pool_301 (fun H locs hP hD hS => ?_)
        have hP : va_P D vwCl (wM ad cI cS mq mn (nI g1.1) mo mt mx mp mz mu vn vz vc vv vp ve mK mA mB mC mf ml ((LMo_pool_169 (xk.toInt.toNat + 1) xk mK mB mo.toInt.toNat mo.toInt.toNat g1.2.2.1).2) mL g1.2.2.2 mi mr mw) H := hP
        have hD : va_D _ (wM ad cI cS mq mn (nI g1.1) mo mt mx mp mz mu vn vz vc vv vp ve mK mA mB mC mf ml ((LMo_pool_169 (xk.toInt.toNat + 1) xk mK mB mo.toInt.toNat mo.toInt.toNat g1.2.2.1).2) mL g1.2.2.2 mi mr mw) := hD
        refine lv_aload_n hx hb dMo_pool_304 rfl (lv_at hl 0 rfl) ?_
        refine lv_iconst (v := (-1)) hx hb dMo_pool_305 (by first | rfl | decide) ?_
        refine va_put (D := D) (ci := 5) (v := .int (-1)) (ty := .int) (C := RMo) (T := TMo) (N := 27) hx hb hw pinMo tyMo tyMo_ok nmMo hown hE.1 hP hD hS 0 rfl rfl 11 (by decide) (hw _ wd_288) (fun _ h9 => h9) rfl (by decide +kernel) rfl rfl (Nat.le_of_ble_eq_true rfl) dMo_pool_306 (fun H locs hP hD hS => ?_)
        have hP : va_P D vwCl (wM ad cI cS mq mn (nI g1.1) (-1) mt mx mp mz mu vn vz vc vv vp ve mK mA mB mC mf ml ((LMo_pool_169 (xk.toInt.toNat + 1) xk mK mB mo.toInt.toNat mo.toInt.toNat g1.2.2.1).2) mL g1.2.2.2 mi mr mw) H := hP
        have hD : va_D _ (wM ad cI cS mq mn (nI g1.1) (-1) mt mx mp mz mu vn vz vc vv vp ve mK mA mB mC mf ml ((LMo_pool_169 (xk.toInt.toNat + 1) xk mK mB mo.toInt.toNat mo.toInt.toNat g1.2.2.1).2) mL g1.2.2.2 mi mr mw) := hD
        refine lv_aload_n hx hb dMo_pool_309 rfl (lv_at hl 0 rfl) ?_
        refine lv_bipush (v := 14) hx hb dMo_pool_310 (by first | rfl | decide) ?_
        refine va_put (D := D) (ci := 5) (v := .int 14) (ty := .int) (C := RMo) (T := TMo) (N := 27) hx hb hw pinMo tyMo tyMo_ok nmMo hown hE.1 hP hD hS 0 rfl rfl 12 (by decide) (hw _ wd_289) (fun _ h9 => h9) rfl (by decide +kernel) rfl rfl (Nat.le_of_ble_eq_true rfl) dMo_pool_312 (fun H locs hP hD hS => ?_)
        have hP : va_P D vwCl (wM ad cI cS mq mn (nI g1.1) (-1) 14 mx mp mz mu vn vz vc vv vp ve mK mA mB mC mf ml ((LMo_pool_169 (xk.toInt.toNat + 1) xk mK mB mo.toInt.toNat mo.toInt.toNat g1.2.2.1).2) mL g1.2.2.2 mi mr mw) H := hP
        have hD : va_D _ (wM ad cI cS mq mn (nI g1.1) (-1) 14 mx mp mz mu vn vz vc vv vp ve mK mA mB mC mf ml ((LMo_pool_169 (xk.toInt.toNat + 1) xk mK mB mo.toInt.toNat mo.toInt.toNat g1.2.2.1).2) mL g1.2.2.2 mi mr mw) := hD
        refine lv_aload_n hx hb dMo_pool_315 rfl (lv_at hl 0 rfl) ?_
        refine lv_dup hx hb dMo_pool_316 rfl ?_
        refine va_get (D := D) (ci := 5) (v := .int mp) (C := RMo) (T := TMo) (N := 27) hx hb hw pinMo hown hE.1 hP 0 rfl rfl 14 (by decide) (hw _ wd_293) (fun _ h9 => h9) rfl dMo_pool_317 ?_
        refine lv_iconst (v := 1) hx hb dMo_pool_320 (by first | rfl | decide) ?_
        refine lv_iadd hx hb dMo_pool_321 ?_
        refine va_put (D := D) (ci := 5) (v := .int (mp + 1)) (ty := .int) (C := RMo) (T := TMo) (N := 27) hx hb hw pinMo tyMo tyMo_ok nmMo hown hE.1 hP hD hS 0 rfl rfl 14 (by decide) (hw _ wd_293) (fun _ h9 => h9) rfl (by decide +kernel) rfl rfl (Nat.le_of_ble_eq_true rfl) dMo_pool_322 (fun H locs hP hD hS => ?_)
        have hP : va_P D vwCl (wM ad cI cS mq mn (nI g1.1) (-1) 14 mx (mp + 1) mz mu vn vz vc vv vp ve mK mA mB mC mf ml ((LMo_pool_169 (xk.toInt.toNat + 1) xk mK mB mo.toInt.toNat mo.toInt.toNat g1.2.2.1).2) mL g1.2.2.2 mi mr mw) H := hP
        have hD : va_D _ (wM ad cI cS mq mn (nI g1.1) (-1) 14 mx (mp + 1) mz mu vn vz vc vv vp ve mK mA mB mC mf ml ((LMo_pool_169 (xk.toInt.toNat + 1) xk mK mB mo.toInt.toNat mo.toInt.toNat g1.2.2.1).2) mL g1.2.2.2 mi mr mw) := hD
        have e9 : FMo_pool xk me mo mt mp mK mB mc md = (nI g1.1, (-1), 14, mp + 1, (LMo_pool_169 (xk.toInt.toNat + 1) xk mK mB mo.toInt.toNat mo.toInt.toNat g1.2.2.1).2, g1.2.2.2) := by simp only [FMo_pool, hg1, if_neg h1, if_pos h2, if_pos h3]
        have p9 : (((-1) : Int32) = (-1) ∧ ¬ (nI g1.1) < 0 ∧ (nI g1.1).toInt ≤ bb) := by first | exact pq_phi0 hpl (by assumption) | exact ⟨rfl, nI_pos (by omega), by rw [nI_toInt (by omega)]; omega⟩
        exact W.vret hx hb hr (fun t ht hW => ⟨⟨(), rfl, by rw [e9]; exact p9, by rw [e9, ht]; exact hP, by rw [e9]; exact hD⟩, hS.F ht⟩) hS.2.2 dMo_pool_325
      · refine lv_aload_n hx hb dMo_pool_77 rfl (lv_at hl 5 rfl) ?_
        refine lv_iload hx hb dMo_pool_78 (lv_at hl 1 rfl) ?_
        refine lv_sipush (v := 18112) hx hb dMo_pool_80 (by first | rfl | decide) ?_
        refine pq_callv (wc := (wM ad cI cS mq mn me mo mt mx mp mz mu vn vz vc vv vp ve mK mA mB mC mf ml mc mL md mi mr mw)) (wr := ([] : List Nat).filterMap (fun i => (wM ad cI cS mq mn me mo mt mx mp mz mu vn vz vc vv vp ve mK mA mB mC mf ml mc mL md mi mr mw)[i]?)) hP hD hS hA [0, 1, 2, 3, 4, 5, 6, 7, 8, 9, 10, 11, 12] [] rfl rfl (by decide) (by decide) (va_runV (own := RMo) (C := RMo) (As := [.int me, .int 18112]) (rest := []) ⟨hx, hb, hml, hown, hw⟩ (k_Mo_write l D ad cI cS me 18112 mq mn me mo mt mx mp mz mu vn vz vc vv vp ve mK mA mB mC mf ml mc mL md mi mr mw (pq_half (by first | exact ha2.1 | exact hme0) (by have q9 := pq_nle (show ¬ FMo_up me ≤ me by assumption); omega)) H.size) ⟨pq_cwB 2 hw wd_285 wd_186 wd_284 rfl rfl (by decide +kernel) ⟨Nat.le_of_ble_eq_true rfl, Nat.le_of_ble_eq_true rfl⟩, hw _ wd_286, hw _ wd_287⟩ (pq_preV (ci := 5) (C := RMo) (T := TMo) (N := 27) hE (hP.sub [0, 1, 2, 3, 4, 5, 6, 7, 8, 9, 10, 11, 12] rfl) (hD.sub [0, 1, 2, 3, 4, 5, 6, 7, 8, 9, 10, 11, 12] (by decide) rfl) rfl 0 rfl) rfl rfl hl.1 rfl (lv_room (Nat.le_of_ble_eq_true rfl)) dMo_pool_83 ⟨Nat.zero_le _, Nat.zero_le _⟩) (fun _ H locs hP hD hS => ?_)
        have hP : va_P D vwCl (wM ad cI cS mq mn me mo mt mx mp mz mu vn vz vc vv vp ve mK mA mB mC mf ml mc mL (FMo_write me 18112 md) mi mr mw) H := hP.sub [0, 1, 2, 3, 4, 5, 6, 7, 8, 9, 10, 11, 12] rfl
        have hD : va_D _ (wM ad cI cS mq mn me mo mt mx mp mz mu vn vz vc vv vp ve mK mA mB mC mf ml mc mL (FMo_write me 18112 md) mi mr mw) := hD.sub [0, 1, 2, 3, 4, 5, 6, 7, 8, 9, 10, 11, 12] (by decide) rfl
        refine lv_iload_n hx hb dMo_pool_86 rfl (lv_at hl 4 rfl) ?_
        refine lv_istore (lv' := [(7, .int mo), (6, .int (FMo_up me)), (5, .int me), (4, .int me), (3, .int 0), (2, .int mo), (0, .ref (ad 17)), (1, .int xk)]) hx hb dMo_pool_87 hl (by decide) rfl (fun ls hl => ?_)
        obtain ⟨g2, hg2⟩ : ∃ g9, LMo_pool_89 (xk.toInt.toNat + 1) xk mK mB mo.toInt.toNat ((FMo_up me).toInt.toNat) mo.toInt.toNat mc (FMo_write me 18112 md) = g9 := ⟨_, rfl⟩
        refine qMo_pool_89 D ad cI cS hx hb hml hw hown hE hA ⟨Nat.le_of_ble_eq_true rfl, Nat.le_of_ble_eq_true rfl⟩ xk mo.toInt.toNat 0 me xk.toInt.toNat bb.toNat (pq_nat hxk0) (pq_nat_le hxk1) (by omega) (pq_nat_lt _) (xk.toInt.toNat + 1) ((FMo_up me).toInt.toNat) mo.toInt.toNat mq mn me mo mt mx mp mz mu vn vz vc vv vp ve mK mA mB mC mf ml mc mL (FMo_write me 18112 md) mi mr mw ls H locs (pq_nat_lt _) (by omega) (by omega) (by rw [← pq_nat hmo0, ← pq_nat hu.1]; exact lv_sub hl [6, 7, 5, 4, 3, 1, 0] rfl) hP hD hS (fun ls H locs ht9 hl hP hD hS => ?_)
        try rw [hg2] at hl
        try rw [hg2] at hP
        try rw [hg2] at hD
        try rw [hg2] at ht9
        have hP : va_P D vwCl (wM ad cI cS mq mn me mo mt mx mp mz mu vn vz vc vv vp ve mK mA mB mC mf ml g2.2.2.1 mL g2.2.2.2 mi mr mw) H := hP
        have hD : va_D _ (wM ad cI cS mq mn me mo mt mx mp mz mu vn vz vc vv vp ve mK mA mB mC mf ml g2.2.2.1 mL g2.2.2.2 mi mr mw) := hD
        refine lv_iload_n hx hb dMo_pool_166 rfl (lv_at hl 2 rfl) ?_
        refine lv_istore (lv' := [(7, .int (nI mo.toInt.toNat)), (0, .ref (ad 17)), (1, .int xk), (2, .int (nI mo.toInt.toNat)), (3, .int 0), (4, .int me), (6, .int (nI g2.1))]) hx hb dMo_pool_167 hl (by decide) rfl (fun ls hl => ?_)
        refine qMo_pool_169 D ad cI cS hx hb hml hw hown hE hA ⟨Nat.le_of_ble_eq_true rfl, Nat.le_of_ble_eq_true rfl⟩ xk mo.toInt.toNat 0 me g2.1 xk.toInt.toNat (pq_nat hxk0) (pq_nat_le hxk1) (pq_nat_lt _) (xk.toInt.toNat + 1) mo.toInt.toNat mq mn me mo mt mx mp mz mu vn vz vc vv vp ve mK mA mB mC mf ml g2.2.2.1 mL g2.2.2.2 mi mr mw ls H locs (pq_nat_lt _) (by omega) (lv_sub hl [1, 2, 3, 4, 5, 6, 0] rfl) hP hD hS (fun ls H locs hl hP hD hS => ?_)
        have hP : va_P D vwCl (wM ad cI cS mq mn me mo mt mx mp mz mu vn vz vc vv vp ve mK mA mB mC mf ml ((LMo_pool_169 (xk.toInt.toNat + 1) xk mK mB mo.toInt.toNat mo.toInt.toNat g2.2.2.1).2) mL g2.2.2.2 mi mr mw) H := hP
        have hD : va_D _ (wM ad cI cS mq mn me mo mt mx mp mz mu vn vz vc vv vp ve mK mA mB mC mf ml ((LMo_pool_169 (xk.toInt.toNat + 1) xk mK mB mo.toInt.toNat mo.toInt.toNat g2.2.2.1).2) mL g2.2.2.2 mi mr mw) := hD
        refine lv_iload_n hx hb dMo_pool_272 rfl (lv_at hl 3 rfl) ?_
        refine lv_if_eq (tgt := 298) hx hb dMo_pool_273 (by decide) (fun _ => ?_) (fun h9 => absurd h9 (by decide))
        refine lv_aload_n hx hb dMo_pool_298 rfl (lv_at hl 0 rfl) ?_
        refine lv_iload hx hb dMo_pool_299 (lv_at hl 5 rfl) ?_
        refine va_put (D := D) (ci := 5) (v := .int (nI g2.1)) (ty := .int) (C := RMo) (T := TMo) (N := 27) hx hb hw pinMo tyMo tyMo_ok nmMo hown hE.1 hP hD hS 0 rfl rfl 10 (by decide) (hw _ wd_278) (fun _ h9 => h9) rfl (by decide +kernel) rfl rfl (Nat.le_of_ble_eq_true rfl) dMo_pool_301 (fun H locs hP hD hS => ?_)
        have hP : va_P D vwCl (wM ad cI cS mq mn (nI g2.1) mo mt mx mp mz mu vn vz vc vv vp ve mK mA mB mC mf ml ((LMo_pool_169 (xk.toInt.toNat + 1) xk mK mB mo.toInt.toNat mo.toInt.toNat g2.2.2.1).2) mL g2.2.2.2 mi mr mw) H := hP
        have hD : va_D _ (wM ad cI cS mq mn (nI g2.1) mo mt mx mp mz mu vn vz vc vv vp ve mK mA mB mC mf ml ((LMo_pool_169 (xk.toInt.toNat + 1) xk mK mB mo.toInt.toNat mo.toInt.toNat g2.2.2.1).2) mL g2.2.2.2 mi mr mw) := hD
        refine lv_aload_n hx hb dMo_pool_304 rfl (lv_at hl 0 rfl) ?_
        refine lv_iconst (v := (-1)) hx hb dMo_pool_305 (by first | rfl | decide) ?_
        refine va_put (D := D) (ci := 5) (v := .int (-1)) (ty := .int) (C := RMo) (T := TMo) (N := 27) hx hb hw pinMo tyMo tyMo_ok nmMo hown hE.1 hP hD hS 0 rfl rfl 11 (by decide) (hw _ wd_288) (fun _ h9 => h9) rfl (by decide +kernel) rfl rfl (Nat.le_of_ble_eq_true rfl) dMo_pool_306 (fun H locs hP hD hS => ?_)
        have hP : va_P D vwCl (wM ad cI cS mq mn (nI g2.1) (-1) mt mx mp mz mu vn vz vc vv vp ve mK mA mB mC mf ml ((LMo_pool_169 (xk.toInt.toNat + 1) xk mK mB mo.toInt.toNat mo.toInt.toNat g2.2.2.1).2) mL g2.2.2.2 mi mr mw) H := hP
        have hD : va_D _ (wM ad cI cS mq mn (nI g2.1) (-1) mt mx mp mz mu vn vz vc vv vp ve mK mA mB mC mf ml ((LMo_pool_169 (xk.toInt.toNat + 1) xk mK mB mo.toInt.toNat mo.toInt.toNat g2.2.2.1).2) mL g2.2.2.2 mi mr mw) := hD
        refine lv_aload_n hx hb dMo_pool_309 rfl (lv_at hl 0 rfl) ?_
        refine lv_bipush (v := 14) hx hb dMo_pool_310 (by first | rfl | decide) ?_
        refine va_put (D := D) (ci := 5) (v := .int 14) (ty := .int) (C := RMo) (T := TMo) (N := 27) hx hb hw pinMo tyMo tyMo_ok nmMo hown hE.1 hP hD hS 0 rfl rfl 12 (by decide) (hw _ wd_289) (fun _ h9 => h9) rfl (by decide +kernel) rfl rfl (Nat.le_of_ble_eq_true rfl) dMo_pool_312 (fun H locs hP hD hS => ?_)
        have hP : va_P D vwCl (wM ad cI cS mq mn (nI g2.1) (-1) 14 mx mp mz mu vn vz vc vv vp ve mK mA mB mC mf ml ((LMo_pool_169 (xk.toInt.toNat + 1) xk mK mB mo.toInt.toNat mo.toInt.toNat g2.2.2.1).2) mL g2.2.2.2 mi mr mw) H := hP
        have hD : va_D _ (wM ad cI cS mq mn (nI g2.1) (-1) 14 mx mp mz mu vn vz vc vv vp ve mK mA mB mC mf ml ((LMo_pool_169 (xk.toInt.toNat + 1) xk mK mB mo.toInt.toNat mo.toInt.toNat g2.2.2.1).2) mL g2.2.2.2 mi mr mw) := hD
        refine lv_aload_n hx hb dMo_pool_315 rfl (lv_at hl 0 rfl) ?_
        refine lv_dup hx hb dMo_pool_316 rfl ?_
        refine va_get (D := D) (ci := 5) (v := .int mp) (C := RMo) (T := TMo) (N := 27) hx hb hw pinMo hown hE.1 hP 0 rfl rfl 14 (by decide) (hw _ wd_293) (fun _ h9 => h9) rfl dMo_pool_317 ?_
        refine lv_iconst (v := 1) hx hb dMo_pool_320 (by first | rfl | decide) ?_
        refine lv_iadd hx hb dMo_pool_321 ?_
        refine va_put (D := D) (ci := 5) (v := .int (mp + 1)) (ty := .int) (C := RMo) (T := TMo) (N := 27) hx hb hw pinMo tyMo tyMo_ok nmMo hown hE.1 hP hD hS 0 rfl rfl 14 (by decide) (hw _ wd_293) (fun _ h9 => h9) rfl (by decide +kernel) rfl rfl (Nat.le_of_ble_eq_true rfl) dMo_pool_322 (fun H locs hP hD hS => ?_)
        have hP : va_P D vwCl (wM ad cI cS mq mn (nI g2.1) (-1) 14 mx (mp + 1) mz mu vn vz vc vv vp ve mK mA mB mC mf ml ((LMo_pool_169 (xk.toInt.toNat + 1) xk mK mB mo.toInt.toNat mo.toInt.toNat g2.2.2.1).2) mL g2.2.2.2 mi mr mw) H := hP
        have hD : va_D _ (wM ad cI cS mq mn (nI g2.1) (-1) 14 mx (mp + 1) mz mu vn vz vc vv vp ve mK mA mB mC mf ml ((LMo_pool_169 (xk.toInt.toNat + 1) xk mK mB mo.toInt.toNat mo.toInt.toNat g2.2.2.1).2) mL g2.2.2.2 mi mr mw) := hD
        have e9 : FMo_pool xk me mo mt mp mK mB mc md = (nI g2.1, (-1), 14, mp + 1, (LMo_pool_169 (xk.toInt.toNat + 1) xk mK mB mo.toInt.toNat mo.toInt.toNat g2.2.2.1).2, g2.2.2.2) := by simp only [FMo_pool, hg2, if_neg h1, if_pos h2, if_neg h3]
        have p9 : (((-1) : Int32) = (-1) ∧ ¬ (nI g2.1) < 0 ∧ (nI g2.1).toInt ≤ bb) := by first | exact pq_phi0 hpl (by assumption) | exact ⟨rfl, nI_pos (by omega), by rw [nI_toInt (by omega)]; omega⟩
        exact W.vret hx hb hr (fun t ht hW => ⟨⟨(), rfl, by rw [e9]; exact p9, by rw [e9, ht]; exact hP, by rw [e9]; exact hD⟩, hS.F ht⟩) hS.2.2 dMo_pool_325
    · refine lv_aload_n hx hb dMo_pool_23 rfl (lv_at hl 1 rfl) ?_
      refine va_get (D := D) (ci := 5) (v := .int mt) (C := RMo) (T := TMo) (N := 27) hx hb hw pinMo hown hE.1 hP 0 rfl rfl 12 (by decide) (hw _ wd_289) (fun _ h9 => h9) rfl dMo_pool_24 ?_
      refine lv_bipush (v := 15) hx hb dMo_pool_27 (by first | rfl | decide) ?_
      refine lv_icmp_eq (tgt := 36) hx hb dMo_pool_29 (by decide) (fun h4 => ?_) (fun h4 => ?_)
      · refine lv_iconst (v := 0) hx hb dMo_pool_36 (by first | rfl | decide) ?_
        refine lv_istore_n (lv' := [(3, .int 0), (2, .int mo), (0, .ref (ad 17)), (1, .int xk)]) hx hb dMo_pool_37 rfl hl (by decide) rfl (fun ls hl => ?_)
        refine lv_aload_n hx hb dMo_pool_38 rfl (lv_at hl 2 rfl) ?_
        refine va_get (D := D) (ci := 5) (v := .int me) (C := RMo) (T := TMo) (N := 27) hx hb hw pinMo hown hE.1 hP 0 rfl rfl 10 (by decide) (hw _ wd_278) (fun _ h9 => h9) rfl dMo_pool_39 ?_
        refine lv_istore (lv' := [(4, .int me), (3, .int 0), (2, .int mo), (0, .ref (ad 17)), (1, .int xk)]) hx hb dMo_pool_42 hl (by decide) rfl (fun ls hl => ?_)
        refine lv_iload_n hx hb dMo_pool_44 rfl (lv_at hl 1 rfl) ?_
        refine lv_if_eq (tgt := 57) hx hb dMo_pool_45 (by decide) (fun _ => ?_) (fun h9 => absurd h9 (by decide))
        refine lv_aload_n hx hb dMo_pool_57 rfl (lv_at hl 3 rfl) ?_
        refine va_get (D := D) (ci := 5) (v := .int me) (C := RMo) (T := TMo) (N := 27) hx hb hw pinMo hown hE.1 hP 0 rfl rfl 10 (by decide) (hw _ wd_278) (fun _ h9 => h9) rfl dMo_pool_58 ?_
        refine lv_istore (lv' := [(5, .int me), (4, .int me), (3, .int 0), (2, .int mo), (0, .ref (ad 17)), (1, .int xk)]) hx hb dMo_pool_61 hl (by decide) rfl (fun ls hl => ?_)
        have hu := pq_upb (x := me) hme0 (by omega)
        have hui := pq_ge hu.1
        refine lv_iload hx hb dMo_pool_63 (lv_at hl 0 rfl) ?_
        refine pq_calli (fr := (FMo_up me)) (wc := (wN ad cI cS)) (wr := ([0, 1, 2, 3, 4, 5, 6, 7, 8, 9, 10, 11, 12] : List Nat).filterMap (fun i => (wM ad cI cS mq mn me mo mt mx mp mz mu vn vz vc vv vp ve mK mA mB mC mf ml mc mL md mi mr mw)[i]?)) hP hD hS hA [] [0, 1, 2, 3, 4, 5, 6, 7, 8, 9, 10, 11, 12] rfl rfl (by decide) (by decide) (va_runS (own := RMo) (As := [.int me]) (rest := []) ⟨hx, hb, hml, hown, hw⟩ (k_Mo_up l D ad cI cS me s.heap.size) ⟨pq_cwB 1 hw wd_291 wd_186 wd_290 rfl rfl (by decide +kernel) ⟨Nat.le_of_ble_eq_true rfl, Nat.le_of_ble_eq_true rfl⟩, hw _ wd_292⟩ (pq_preS hE (hP.sub [] rfl) (hD.sub [] (by decide) rfl)) rfl rfl hl.1 rfl (lv_room (Nat.le_of_ble_eq_true rfl)) dMo_pool_65 ⟨Nat.zero_le _, Nat.zero_le _⟩) (fun H locs hP hD hS => ?_)
        have hP : va_P D vwCl (wM ad cI cS mq mn me mo mt mx mp mz mu vn vz vc vv vp ve mK mA mB mC mf ml mc mL md mi mr mw) H := hP.sub [0, 1, 2, 3, 4, 5, 6, 7, 8, 9, 10, 11, 12] rfl
        have hD : va_D _ (wM ad cI cS mq mn me mo mt mx mp mz mu vn vz vc vv vp ve mK mA mB mC mf ml mc mL md mi mr mw) := hD.sub [0, 1, 2, 3, 4, 5, 6, 7, 8, 9, 10, 11, 12] (by decide) rfl
        refine lv_istore (lv' := [(6, .int (FMo_up me)), (5, .int me), (4, .int me), (3, .int 0), (2, .int mo), (0, .ref (ad 17)), (1, .int xk)]) hx hb dMo_pool_68 hl (by decide) rfl (fun ls hl => ?_)
        refine lv_iload hx hb dMo_pool_70 (lv_at hl 0 rfl) ?_
        refine lv_iload hx hb dMo_pool_72 (lv_at hl 1 rfl) ?_
        refine lv_icmp_le (tgt := 86) hx hb dMo_pool_74 (by decide) (fun h5 => ?_) (fun h5 => ?_)
        · refine lv_iload_n hx hb dMo_pool_86 rfl (lv_at hl 4 rfl) ?_
          refine lv_istore (lv' := [(7, .int mo), (6, .int (FMo_up me)), (5, .int me), (4, .int me), (3, .int 0), (2, .int mo), (0, .ref (ad 17)), (1, .int xk)]) hx hb dMo_pool_87 hl (by decide) rfl (fun ls hl => ?_)
          obtain ⟨g3, hg3⟩ : ∃ g9, LMo_pool_89 (xk.toInt.toNat + 1) xk mK mB mo.toInt.toNat ((FMo_up me).toInt.toNat) mo.toInt.toNat mc md = g9 := ⟨_, rfl⟩
          refine qMo_pool_89 D ad cI cS hx hb hml hw hown hE hA ⟨Nat.le_of_ble_eq_true rfl, Nat.le_of_ble_eq_true rfl⟩ xk mo.toInt.toNat 0 me xk.toInt.toNat bb.toNat (pq_nat hxk0) (pq_nat_le hxk1) (by omega) (pq_nat_lt _) (xk.toInt.toNat + 1) ((FMo_up me).toInt.toNat) mo.toInt.toNat mq mn me mo mt mx mp mz mu vn vz vc vv vp ve mK mA mB mC mf ml mc mL md mi mr mw ls H locs (pq_nat_lt _) (by omega) (by omega) (by rw [← pq_nat hmo0, ← pq_nat hu.1]; exact lv_sub hl [6, 7, 5, 4, 3, 1, 0] rfl) hP hD hS (fun ls H locs ht9 hl hP hD hS => ?_)
          try rw [hg3] at hl
          try rw [hg3] at hP
          try rw [hg3] at hD
          try rw [hg3] at ht9
          have hP : va_P D vwCl (wM ad cI cS mq mn me mo mt mx mp mz mu vn vz vc vv vp ve mK mA mB mC mf ml g3.2.2.1 mL g3.2.2.2 mi mr mw) H := hP
          have hD : va_D _ (wM ad cI cS mq mn me mo mt mx mp mz mu vn vz vc vv vp ve mK mA mB mC mf ml g3.2.2.1 mL g3.2.2.2 mi mr mw) := hD
          refine lv_iload_n hx hb dMo_pool_166 rfl (lv_at hl 2 rfl) ?_
          refine lv_istore (lv' := [(7, .int (nI mo.toInt.toNat)), (0, .ref (ad 17)), (1, .int xk), (2, .int (nI mo.toInt.toNat)), (3, .int 0), (4, .int me), (6, .int (nI g3.1))]) hx hb dMo_pool_167 hl (by decide) rfl (fun ls hl => ?_)
          refine qMo_pool_169 D ad cI cS hx hb hml hw hown hE hA ⟨Nat.le_of_ble_eq_true rfl, Nat.le_of_ble_eq_true rfl⟩ xk mo.toInt.toNat 0 me g3.1 xk.toInt.toNat (pq_nat hxk0) (pq_nat_le hxk1) (pq_nat_lt _) (xk.toInt.toNat + 1) mo.toInt.toNat mq mn me mo mt mx mp mz mu vn vz vc vv vp ve mK mA mB mC mf ml g3.2.2.1 mL g3.2.2.2 mi mr mw ls H locs (pq_nat_lt _) (by omega) (lv_sub hl [1, 2, 3, 4, 5, 6, 0] rfl) hP hD hS (fun ls H locs hl hP hD hS => ?_)
          have hP : va_P D vwCl (wM ad cI cS mq mn me mo mt mx mp mz mu vn vz vc vv vp ve mK mA mB mC mf ml ((LMo_pool_169 (xk.toInt.toNat + 1) xk mK mB mo.toInt.toNat mo.toInt.toNat g3.2.2.1).2) mL g3.2.2.2 mi mr mw) H := hP
          have hD : va_D _ (wM ad cI cS mq mn me mo mt mx mp mz mu vn vz vc vv vp ve mK mA mB mC mf ml ((LMo_pool_169 (xk.toInt.toNat + 1) xk mK mB mo.toInt.toNat mo.toInt.toNat g3.2.2.1).2) mL g3.2.2.2 mi mr mw) := hD
          refine lv_iload_n hx hb dMo_pool_272 rfl (lv_at hl 3 rfl) ?_
          refine lv_if_eq (tgt := 298) hx hb dMo_pool_273 (by decide) (fun _ => ?_) (fun h9 => absurd h9 (by decide))
          refine lv_aload_n hx hb dMo_pool_298 rfl (lv_at hl 0 rfl) ?_
          refine lv_iload hx hb dMo_pool_299 (lv_at hl 5 rfl) ?_
          refine va_put (D := D) (ci := 5) (v := .int (nI g3.1)) (ty := .int) (C := RMo) (T := TMo) (N := 27) hx hb hw pinMo tyMo tyMo_ok nmMo hown hE.1 hP hD hS 0 rfl rfl 10 (by decide) (hw _ wd_278) (fun _ h9 => h9) rfl (by decide +kernel) rfl rfl (Nat.le_of_ble_eq_true rfl) dMo_pool_301 (fun H locs hP hD hS => ?_)
          have hP : va_P D vwCl (wM ad cI cS mq mn (nI g3.1) mo mt mx mp mz mu vn vz vc vv vp ve mK mA mB mC mf ml ((LMo_pool_169 (xk.toInt.toNat + 1) xk mK mB mo.toInt.toNat mo.toInt.toNat g3.2.2.1).2) mL g3.2.2.2 mi mr mw) H := hP
          have hD : va_D _ (wM ad cI cS mq mn (nI g3.1) mo mt mx mp mz mu vn vz vc vv vp ve mK mA mB mC mf ml ((LMo_pool_169 (xk.toInt.toNat + 1) xk mK mB mo.toInt.toNat mo.toInt.toNat g3.2.2.1).2) mL g3.2.2.2 mi mr mw) := hD
          refine lv_aload_n hx hb dMo_pool_304 rfl (lv_at hl 0 rfl) ?_
          refine lv_iconst (v := (-1)) hx hb dMo_pool_305 (by first | rfl | decide) ?_
          refine va_put (D := D) (ci := 5) (v := .int (-1)) (ty := .int) (C := RMo) (T := TMo) (N := 27) hx hb hw pinMo tyMo tyMo_ok nmMo hown hE.1 hP hD hS 0 rfl rfl 11 (by decide) (hw _ wd_288) (fun _ h9 => h9) rfl (by decide +kernel) rfl rfl (Nat.le_of_ble_eq_true rfl) dMo_pool_306 (fun H locs hP hD hS => ?_)
          have hP : va_P D vwCl (wM ad cI cS mq mn (nI g3.1) (-1) mt mx mp mz mu vn vz vc vv vp ve mK mA mB mC mf ml ((LMo_pool_169 (xk.toInt.toNat + 1) xk mK mB mo.toInt.toNat mo.toInt.toNat g3.2.2.1).2) mL g3.2.2.2 mi mr mw) H := hP
          have hD : va_D _ (wM ad cI cS mq mn (nI g3.1) (-1) mt mx mp mz mu vn vz vc vv vp ve mK mA mB mC mf ml ((LMo_pool_169 (xk.toInt.toNat + 1) xk mK mB mo.toInt.toNat mo.toInt.toNat g3.2.2.1).2) mL g3.2.2.2 mi mr mw) := hD
          refine lv_aload_n hx hb dMo_pool_309 rfl (lv_at hl 0 rfl) ?_
          refine lv_bipush (v := 14) hx hb dMo_pool_310 (by first | rfl | decide) ?_
          refine va_put (D := D) (ci := 5) (v := .int 14) (ty := .int) (C := RMo) (T := TMo) (N := 27) hx hb hw pinMo tyMo tyMo_ok nmMo hown hE.1 hP hD hS 0 rfl rfl 12 (by decide) (hw _ wd_289) (fun _ h9 => h9) rfl (by decide +kernel) rfl rfl (Nat.le_of_ble_eq_true rfl) dMo_pool_312 (fun H locs hP hD hS => ?_)
          have hP : va_P D vwCl (wM ad cI cS mq mn (nI g3.1) (-1) 14 mx mp mz mu vn vz vc vv vp ve mK mA mB mC mf ml ((LMo_pool_169 (xk.toInt.toNat + 1) xk mK mB mo.toInt.toNat mo.toInt.toNat g3.2.2.1).2) mL g3.2.2.2 mi mr mw) H := hP
          have hD : va_D _ (wM ad cI cS mq mn (nI g3.1) (-1) 14 mx mp mz mu vn vz vc vv vp ve mK mA mB mC mf ml ((LMo_pool_169 (xk.toInt.toNat + 1) xk mK mB mo.toInt.toNat mo.toInt.toNat g3.2.2.1).2) mL g3.2.2.2 mi mr mw) := hD
          refine lv_aload_n hx hb dMo_pool_315 rfl (lv_at hl 0 rfl) ?_
          refine lv_dup hx hb dMo_pool_316 rfl ?_
          refine va_get (D := D) (ci := 5) (v := .int mp) (C := RMo) (T := TMo) (N := 27) hx hb hw pinMo hown hE.1 hP 0 rfl rfl 14 (by decide) (hw _ wd_293) (fun _ h9 => h9) rfl dMo_pool_317 ?_
          refine lv_iconst (v := 1) hx hb dMo_pool_320 (by first | rfl | decide) ?_
          refine lv_iadd hx hb dMo_pool_321 ?_
          refine va_put (D := D) (ci := 5) (v := .int (mp + 1)) (ty := .int) (C := RMo) (T := TMo) (N := 27) hx hb hw pinMo tyMo tyMo_ok nmMo hown hE.1 hP hD hS 0 rfl rfl 14 (by decide) (hw _ wd_293) (fun _ h9 => h9) rfl (by decide +kernel) rfl rfl (Nat.le_of_ble_eq_true rfl) dMo_pool_322 (fun H locs hP hD hS => ?_)
          have hP : va_P D vwCl (wM ad cI cS mq mn (nI g3.1) (-1) 14 mx (mp + 1) mz mu vn vz vc vv vp ve mK mA mB mC mf ml ((LMo_pool_169 (xk.toInt.toNat + 1) xk mK mB mo.toInt.toNat mo.toInt.toNat g3.2.2.1).2) mL g3.2.2.2 mi mr mw) H := hP
          have hD : va_D _ (wM ad cI cS mq mn (nI g3.1) (-1) 14 mx (mp + 1) mz mu vn vz vc vv vp ve mK mA mB mC mf ml ((LMo_pool_169 (xk.toInt.toNat + 1) xk mK mB mo.toInt.toNat mo.toInt.toNat g3.2.2.1).2) mL g3.2.2.2 mi mr mw) := hD
          have e9 : FMo_pool xk me mo mt mp mK mB mc md = (nI g3.1, (-1), 14, mp + 1, (LMo_pool_169 (xk.toInt.toNat + 1) xk mK mB mo.toInt.toNat mo.toInt.toNat g3.2.2.1).2, g3.2.2.2) := by simp only [FMo_pool, hg3, if_neg h1, if_neg h2, if_pos h4, if_pos h5]
          have p9 : (((-1) : Int32) = (-1) ∧ ¬ (nI g3.1) < 0 ∧ (nI g3.1).toInt ≤ bb) := by first | exact pq_phi0 hpl (by assumption) | exact ⟨rfl, nI_pos (by omega), by rw [nI_toInt (by omega)]; omega⟩
          exact W.vret hx hb hr (fun t ht hW => ⟨⟨(), rfl, by rw [e9]; exact p9, by rw [e9, ht]; exact hP, by rw [e9]; exact hD⟩, hS.F ht⟩) hS.2.2 dMo_pool_325
        · refine lv_aload_n hx hb dMo_pool_77 rfl (lv_at hl 5 rfl) ?_
          refine lv_iload hx hb dMo_pool_78 (lv_at hl 1 rfl) ?_
          refine lv_sipush (v := 18112) hx hb dMo_pool_80 (by first | rfl | decide) ?_
          refine pq_callv (wc := (wM ad cI cS mq mn me mo mt mx mp mz mu vn vz vc vv vp ve mK mA mB mC mf ml mc mL md mi mr mw)) (wr := ([] : List Nat).filterMap (fun i => (wM ad cI cS mq mn me mo mt mx mp mz mu vn vz vc vv vp ve mK mA mB mC mf ml mc mL md mi mr mw)[i]?)) hP hD hS hA [0, 1, 2, 3, 4, 5, 6, 7, 8, 9, 10, 11, 12] [] rfl rfl (by decide) (by decide) (va_runV (own := RMo) (C := RMo) (As := [.int me, .int 18112]) (rest := []) ⟨hx, hb, hml, hown, hw⟩ (k_Mo_write l D ad cI cS me 18112 mq mn me mo mt mx mp mz mu vn vz vc vv vp ve mK mA mB mC mf ml mc mL md mi mr mw (pq_half (by first | exact ha2.1 | exact hme0) (by have q9 := pq_nle (show ¬ FMo_up me ≤ me by assumption); omega)) H.size) ⟨pq_cwB 2 hw wd_285 wd_186 wd_284 rfl rfl (by decide +kernel) ⟨Nat.le_of_ble_eq_true rfl, Nat.le_of_ble_eq_true rfl⟩, hw _ wd_286, hw _ wd_287⟩ (pq_preV (ci := 5) (C := RMo) (T := TMo) (N := 27) hE (hP.sub [0, 1, 2, 3, 4, 5, 6, 7, 8, 9, 10, 11, 12] rfl) (hD.sub [0, 1, 2, 3, 4, 5, 6, 7, 8, 9, 10, 11, 12] (by decide) rfl) rfl 0 rfl) rfl rfl hl.1 rfl (lv_room (Nat.le_of_ble_eq_true rfl)) dMo_pool_83 ⟨Nat.zero_le _, Nat.zero_le _⟩) (fun _ H locs hP hD hS => ?_)
          have hP : va_P D vwCl (wM ad cI cS mq mn me mo mt mx mp mz mu vn vz vc vv vp ve mK mA mB mC mf ml mc mL (FMo_write me 18112 md) mi mr mw) H := hP.sub [0, 1, 2, 3, 4, 5, 6, 7, 8, 9, 10, 11, 12] rfl
          have hD : va_D _ (wM ad cI cS mq mn me mo mt mx mp mz mu vn vz vc vv vp ve mK mA mB mC mf ml mc mL (FMo_write me 18112 md) mi mr mw) := hD.sub [0, 1, 2, 3, 4, 5, 6, 7, 8, 9, 10, 11, 12] (by decide) rfl
          refine lv_iload_n hx hb dMo_pool_86 rfl (lv_at hl 4 rfl) ?_
          refine lv_istore (lv' := [(7, .int mo), (6, .int (FMo_up me)), (5, .int me), (4, .int me), (3, .int 0), (2, .int mo), (0, .ref (ad 17)), (1, .int xk)]) hx hb dMo_pool_87 hl (by decide) rfl (fun ls hl => ?_)
          obtain ⟨g4, hg4⟩ : ∃ g9, LMo_pool_89 (xk.toInt.toNat + 1) xk mK mB mo.toInt.toNat ((FMo_up me).toInt.toNat) mo.toInt.toNat mc (FMo_write me 18112 md) = g9 := ⟨_, rfl⟩
          refine qMo_pool_89 D ad cI cS hx hb hml hw hown hE hA ⟨Nat.le_of_ble_eq_true rfl, Nat.le_of_ble_eq_true rfl⟩ xk mo.toInt.toNat 0 me xk.toInt.toNat bb.toNat (pq_nat hxk0) (pq_nat_le hxk1) (by omega) (pq_nat_lt _) (xk.toInt.toNat + 1) ((FMo_up me).toInt.toNat) mo.toInt.toNat mq mn me mo mt mx mp mz mu vn vz vc vv vp ve mK mA mB mC mf ml mc mL (FMo_write me 18112 md) mi mr mw ls H locs (pq_nat_lt _) (by omega) (by omega) (by rw [← pq_nat hmo0, ← pq_nat hu.1]; exact lv_sub hl [6, 7, 5, 4, 3, 1, 0] rfl) hP hD hS (fun ls H locs ht9 hl hP hD hS => ?_)
          try rw [hg4] at hl
          try rw [hg4] at hP
          try rw [hg4] at hD
          try rw [hg4] at ht9
          have hP : va_P D vwCl (wM ad cI cS mq mn me mo mt mx mp mz mu vn vz vc vv vp ve mK mA mB mC mf ml g4.2.2.1 mL g4.2.2.2 mi mr mw) H := hP
          have hD : va_D _ (wM ad cI cS mq mn me mo mt mx mp mz mu vn vz vc vv vp ve mK mA mB mC mf ml g4.2.2.1 mL g4.2.2.2 mi mr mw) := hD
          refine lv_iload_n hx hb dMo_pool_166 rfl (lv_at hl 2 rfl) ?_
          refine lv_istore (lv' := [(7, .int (nI mo.toInt.toNat)), (0, .ref (ad 17)), (1, .int xk), (2, .int (nI mo.toInt.toNat)), (3, .int 0), (4, .int me), (6, .int (nI g4.1))]) hx hb dMo_pool_167 hl (by decide) rfl (fun ls hl => ?_)
          refine qMo_pool_169 D ad cI cS hx hb hml hw hown hE hA ⟨Nat.le_of_ble_eq_true rfl, Nat.le_of_ble_eq_true rfl⟩ xk mo.toInt.toNat 0 me g4.1 xk.toInt.toNat (pq_nat hxk0) (pq_nat_le hxk1) (pq_nat_lt _) (xk.toInt.toNat + 1) mo.toInt.toNat mq mn me mo mt mx mp mz mu vn vz vc vv vp ve mK mA mB mC mf ml g4.2.2.1 mL g4.2.2.2 mi mr mw ls H locs (pq_nat_lt _) (by omega) (lv_sub hl [1, 2, 3, 4, 5, 6, 0] rfl) hP hD hS (fun ls H locs hl hP hD hS => ?_)
          have hP : va_P D vwCl (wM ad cI cS mq mn me mo mt mx mp mz mu vn vz vc vv vp ve mK mA mB mC mf ml ((LMo_pool_169 (xk.toInt.toNat + 1) xk mK mB mo.toInt.toNat mo.toInt.toNat g4.2.2.1).2) mL g4.2.2.2 mi mr mw) H := hP
          have hD : va_D _ (wM ad cI cS mq mn me mo mt mx mp mz mu vn vz vc vv vp ve mK mA mB mC mf ml ((LMo_pool_169 (xk.toInt.toNat + 1) xk mK mB mo.toInt.toNat mo.toInt.toNat g4.2.2.1).2) mL g4.2.2.2 mi mr mw) := hD
          refine lv_iload_n hx hb dMo_pool_272 rfl (lv_at hl 3 rfl) ?_
          refine lv_if_eq (tgt := 298) hx hb dMo_pool_273 (by decide) (fun _ => ?_) (fun h9 => absurd h9 (by decide))
          refine lv_aload_n hx hb dMo_pool_298 rfl (lv_at hl 0 rfl) ?_
          refine lv_iload hx hb dMo_pool_299 (lv_at hl 5 rfl) ?_
          refine va_put (D := D) (ci := 5) (v := .int (nI g4.1)) (ty := .int) (C := RMo) (T := TMo) (N := 27) hx hb hw pinMo tyMo tyMo_ok nmMo hown hE.1 hP hD hS 0 rfl rfl 10 (by decide) (hw _ wd_278) (fun _ h9 => h9) rfl (by decide +kernel) rfl rfl (Nat.le_of_ble_eq_true rfl) dMo_pool_301 (fun H locs hP hD hS => ?_)
          have hP : va_P D vwCl (wM ad cI cS mq mn (nI g4.1) mo mt mx mp mz mu vn vz vc vv vp ve mK mA mB mC mf ml ((LMo_pool_169 (xk.toInt.toNat + 1) xk mK mB mo.toInt.toNat mo.toInt.toNat g4.2.2.1).2) mL g4.2.2.2 mi mr mw) H := hP
          have hD : va_D _ (wM ad cI cS mq mn (nI g4.1) mo mt mx mp mz mu vn vz vc vv vp ve mK mA mB mC mf ml ((LMo_pool_169 (xk.toInt.toNat + 1) xk mK mB mo.toInt.toNat mo.toInt.toNat g4.2.2.1).2) mL g4.2.2.2 mi mr mw) := hD
          refine lv_aload_n hx hb dMo_pool_304 rfl (lv_at hl 0 rfl) ?_
          refine lv_iconst (v := (-1)) hx hb dMo_pool_305 (by first | rfl | decide) ?_
          refine va_put (D := D) (ci := 5) (v := .int (-1)) (ty := .int) (C := RMo) (T := TMo) (N := 27) hx hb hw pinMo tyMo tyMo_ok nmMo hown hE.1 hP hD hS 0 rfl rfl 11 (by decide) (hw _ wd_288) (fun _ h9 => h9) rfl (by decide +kernel) rfl rfl (Nat.le_of_ble_eq_true rfl) dMo_pool_306 (fun H locs hP hD hS => ?_)
          have hP : va_P D vwCl (wM ad cI cS mq mn (nI g4.1) (-1) mt mx mp mz mu vn vz vc vv vp ve mK mA mB mC mf ml ((LMo_pool_169 (xk.toInt.toNat + 1) xk mK mB mo.toInt.toNat mo.toInt.toNat g4.2.2.1).2) mL g4.2.2.2 mi mr mw) H := hP
          have hD : va_D _ (wM ad cI cS mq mn (nI g4.1) (-1) mt mx mp mz mu vn vz vc vv vp ve mK mA mB mC mf ml ((LMo_pool_169 (xk.toInt.toNat + 1) xk mK mB mo.toInt.toNat mo.toInt.toNat g4.2.2.1).2) mL g4.2.2.2 mi mr mw) := hD
          refine lv_aload_n hx hb dMo_pool_309 rfl (lv_at hl 0 rfl) ?_
          refine lv_bipush (v := 14) hx hb dMo_pool_310 (by first | rfl | decide) ?_
          refine va_put (D := D) (ci := 5) (v := .int 14) (ty := .int) (C := RMo) (T := TMo) (N := 27) hx hb hw pinMo tyMo tyMo_ok nmMo hown hE.1 hP hD hS 0 rfl rfl 12 (by decide) (hw _ wd_289) (fun _ h9 => h9) rfl (by decide +kernel) rfl rfl (Nat.le_of_ble_eq_true rfl) dMo_pool_312 (fun H locs hP hD hS => ?_)
          have hP : va_P D vwCl (wM ad cI cS mq mn (nI g4.1) (-1) 14 mx mp mz mu vn vz vc vv vp ve mK mA mB mC mf ml ((LMo_pool_169 (xk.toInt.toNat + 1) xk mK mB mo.toInt.toNat mo.toInt.toNat g4.2.2.1).2) mL g4.2.2.2 mi mr mw) H := hP
          have hD : va_D _ (wM ad cI cS mq mn (nI g4.1) (-1) 14 mx mp mz mu vn vz vc vv vp ve mK mA mB mC mf ml ((LMo_pool_169 (xk.toInt.toNat + 1) xk mK mB mo.toInt.toNat mo.toInt.toNat g4.2.2.1).2) mL g4.2.2.2 mi mr mw) := hD
          refine lv_aload_n hx hb dMo_pool_315 rfl (lv_at hl 0 rfl) ?_
          refine lv_dup hx hb dMo_pool_316 rfl ?_
          refine va_get (D := D) (ci := 5) (v := .int mp) (C := RMo) (T := TMo) (N := 27) hx hb hw pinMo hown hE.1 hP 0 rfl rfl 14 (by decide) (hw _ wd_293) (fun _ h9 => h9) rfl dMo_pool_317 ?_
          refine lv_iconst (v := 1) hx hb dMo_pool_320 (by first | rfl | decide) ?_
          refine lv_iadd hx hb dMo_pool_321 ?_
          refine va_put (D := D) (ci := 5) (v := .int (mp + 1)) (ty := .int) (C := RMo) (T := TMo) (N := 27) hx hb hw pinMo tyMo tyMo_ok nmMo hown hE.1 hP hD hS 0 rfl rfl 14 (by decide) (hw _ wd_293) (fun _ h9 => h9) rfl (by decide +kernel) rfl rfl (Nat.le_of_ble_eq_true rfl) dMo_pool_322 (fun H locs hP hD hS => ?_)
          have hP : va_P D vwCl (wM ad cI cS mq mn (nI g4.1) (-1) 14 mx (mp + 1) mz mu vn vz vc vv vp ve mK mA mB mC mf ml ((LMo_pool_169 (xk.toInt.toNat + 1) xk mK mB mo.toInt.toNat mo.toInt.toNat g4.2.2.1).2) mL g4.2.2.2 mi mr mw) H := hP
          have hD : va_D _ (wM ad cI cS mq mn (nI g4.1) (-1) 14 mx (mp + 1) mz mu vn vz vc vv vp ve mK mA mB mC mf ml ((LMo_pool_169 (xk.toInt.toNat + 1) xk mK mB mo.toInt.toNat mo.toInt.toNat g4.2.2.1).2) mL g4.2.2.2 mi mr mw) := hD
          have e9 : FMo_pool xk me mo mt mp mK mB mc md = (nI g4.1, (-1), 14, mp + 1, (LMo_pool_169 (xk.toInt.toNat + 1) xk mK mB mo.toInt.toNat mo.toInt.toNat g4.2.2.1).2, g4.2.2.2) := by simp only [FMo_pool, hg4, if_neg h1, if_neg h2, if_pos h4, if_neg h5]
          have p9 : (((-1) : Int32) = (-1) ∧ ¬ (nI g4.1) < 0 ∧ (nI g4.1).toInt ≤ bb) := by first | exact pq_phi0 hpl (by assumption) | exact ⟨rfl, nI_pos (by omega), by rw [nI_toInt (by omega)]; omega⟩
          exact W.vret hx hb hr (fun t ht hW => ⟨⟨(), rfl, by rw [e9]; exact p9, by rw [e9, ht]; exact hP, by rw [e9]; exact hD⟩, hS.F ht⟩) hS.2.2 dMo_pool_325
      · refine lv_iconst (v := 1) hx hb dMo_pool_32 (by first | rfl | decide) ?_
        refine lv_goto (tgt := 37) hx hb dMo_pool_33 (by decide) ?_
        refine lv_istore_n (lv' := [(3, .int 1), (2, .int mo), (0, .ref (ad 17)), (1, .int xk)]) hx hb dMo_pool_37 rfl hl (by decide) rfl (fun ls hl => ?_)
        refine lv_aload_n hx hb dMo_pool_38 rfl (lv_at hl 2 rfl) ?_
        refine va_get (D := D) (ci := 5) (v := .int me) (C := RMo) (T := TMo) (N := 27) hx hb hw pinMo hown hE.1 hP 0 rfl rfl 10 (by decide) (hw _ wd_278) (fun _ h9 => h9) rfl dMo_pool_39 ?_
        refine lv_istore (lv' := [(4, .int me), (3, .int 1), (2, .int mo), (0, .ref (ad 17)), (1, .int xk)]) hx hb dMo_pool_42 hl (by decide) rfl (fun ls hl => ?_)
        refine lv_iload_n hx hb dMo_pool_44 rfl (lv_at hl 1 rfl) ?_
        refine lv_if_eq (tgt := 57) hx hb dMo_pool_45 (by decide) (fun h9 => absurd h9 (by decide)) (fun _ => ?_)
        refine lv_aload_n hx hb dMo_pool_48 rfl (lv_at hl 3 rfl) ?_
        refine va_get (D := D) (ci := 5) (v := .int me) (C := RMo) (T := TMo) (N := 27) hx hb hw pinMo hown hE.1 hP 0 rfl rfl 10 (by decide) (hw _ wd_278) (fun _ h9 => h9) rfl dMo_pool_49 ?_
        refine lv_iconst (v := 2) hx hb dMo_pool_52 (by first | rfl | decide) ?_
        refine lv_iadd hx hb dMo_pool_53 ?_
        refine lv_goto (tgt := 61) hx hb dMo_pool_54 (by decide) ?_
        refine lv_istore (lv' := [(5, .int (me + 2)), (4, .int me), (3, .int 1), (2, .int mo), (0, .ref (ad 17)), (1, .int xk)]) hx hb dMo_pool_61 hl (by decide) rfl (fun ls hl => ?_)
        have ha2 := pq_add2 hme0 (by omega)
        have hu := pq_upb (x := me + 2) ha2.1 (by omega)
        have hui := pq_ge hu.1
        refine lv_iload hx hb dMo_pool_63 (lv_at hl 0 rfl) ?_
        refine pq_calli (fr := (FMo_up (me + 2))) (wc := (wN ad cI cS)) (wr := ([0, 1, 2, 3, 4, 5, 6, 7, 8, 9, 10, 11, 12] : List Nat).filterMap (fun i => (wM ad cI cS mq mn me mo mt mx mp mz mu vn vz vc vv vp ve mK mA mB mC mf ml mc mL md mi mr mw)[i]?)) hP hD hS hA [] [0, 1, 2, 3, 4, 5, 6, 7, 8, 9, 10, 11, 12] rfl rfl (by decide) (by decide) (va_runS (own := RMo) (As := [.int (me + 2)]) (rest := []) ⟨hx, hb, hml, hown, hw⟩ (k_Mo_up l D ad cI cS (me + 2) s.heap.size) ⟨pq_cwB 1 hw wd_291 wd_186 wd_290 rfl rfl (by decide +kernel) ⟨Nat.le_of_ble_eq_true rfl, Nat.le_of_ble_eq_true rfl⟩, hw _ wd_292⟩ (pq_preS hE (hP.sub [] rfl) (hD.sub [] (by decide) rfl)) rfl rfl hl.1 rfl (lv_room (Nat.le_of_ble_eq_true rfl)) dMo_pool_65 ⟨Nat.zero_le _, Nat.zero_le _⟩) (fun H locs hP hD hS => ?_)
        have hP : va_P D vwCl (wM ad cI cS mq mn me mo mt mx mp mz mu vn vz vc vv vp ve mK mA mB mC mf ml mc mL md mi mr mw) H := hP.sub [0, 1, 2, 3, 4, 5, 6, 7, 8, 9, 10, 11, 12] rfl
        have hD : va_D _ (wM ad cI cS mq mn me mo mt mx mp mz mu vn vz vc vv vp ve mK mA mB mC mf ml mc mL md mi mr mw) := hD.sub [0, 1, 2, 3, 4, 5, 6, 7, 8, 9, 10, 11, 12] (by decide) rfl
        refine lv_istore (lv' := [(6, .int (FMo_up (me + 2))), (5, .int (me + 2)), (4, .int me), (3, .int 1), (2, .int mo), (0, .ref (ad 17)), (1, .int xk)]) hx hb dMo_pool_68 hl (by decide) rfl (fun ls hl => ?_)
        refine lv_iload hx hb dMo_pool_70 (lv_at hl 0 rfl) ?_
        refine lv_iload hx hb dMo_pool_72 (lv_at hl 1 rfl) ?_
        refine lv_icmp_le (tgt := 86) hx hb dMo_pool_74 (by decide) (fun h6 => ?_) (fun h6 => ?_)
        · refine lv_iload_n hx hb dMo_pool_86 rfl (lv_at hl 4 rfl) ?_
          refine lv_istore (lv' := [(7, .int mo), (6, .int (FMo_up (me + 2))), (5, .int (me + 2)), (4, .int me), (3, .int 1), (2, .int mo), (0, .ref (ad 17)), (1, .int xk)]) hx hb dMo_pool_87 hl (by decide) rfl (fun ls hl => ?_)
          obtain ⟨g5, hg5⟩ : ∃ g9, LMo_pool_89 (xk.toInt.toNat + 1) xk mK mB mo.toInt.toNat ((FMo_up (me + 2)).toInt.toNat) mo.toInt.toNat mc md = g9 := ⟨_, rfl⟩
          refine qMo_pool_89 D ad cI cS hx hb hml hw hown hE hA ⟨Nat.le_of_ble_eq_true rfl, Nat.le_of_ble_eq_true rfl⟩ xk mo.toInt.toNat 1 me xk.toInt.toNat bb.toNat (pq_nat hxk0) (pq_nat_le hxk1) (by omega) (pq_nat_lt _) (xk.toInt.toNat + 1) ((FMo_up (me + 2)).toInt.toNat) mo.toInt.toNat mq mn me mo mt mx mp mz mu vn vz vc vv vp ve mK mA mB mC mf ml mc mL md mi mr mw ls H locs (pq_nat_lt _) (by omega) (by omega) (by rw [← pq_nat hmo0, ← pq_nat hu.1]; exact lv_sub hl [6, 7, 5, 4, 3, 1, 0] rfl) hP hD hS (fun ls H locs ht9 hl hP hD hS => ?_)
          try rw [hg5] at hl
          try rw [hg5] at hP
          try rw [hg5] at hD
          try rw [hg5] at ht9
          have hP : va_P D vwCl (wM ad cI cS mq mn me mo mt mx mp mz mu vn vz vc vv vp ve mK mA mB mC mf ml g5.2.2.1 mL g5.2.2.2 mi mr mw) H := hP
          have hD : va_D _ (wM ad cI cS mq mn me mo mt mx mp mz mu vn vz vc vv vp ve mK mA mB mC mf ml g5.2.2.1 mL g5.2.2.2 mi mr mw) := hD
          refine lv_iload_n hx hb dMo_pool_166 rfl (lv_at hl 2 rfl) ?_
          refine lv_istore (lv' := [(7, .int (nI mo.toInt.toNat)), (0, .ref (ad 17)), (1, .int xk), (2, .int (nI mo.toInt.toNat)), (3, .int 1), (4, .int me), (6, .int (nI g5.1))]) hx hb dMo_pool_167 hl (by decide) rfl (fun ls hl => ?_)
          refine qMo_pool_169 D ad cI cS hx hb hml hw hown hE hA ⟨Nat.le_of_ble_eq_true rfl, Nat.le_of_ble_eq_true rfl⟩ xk mo.toInt.toNat 1 me g5.1 xk.toInt.toNat (pq_nat hxk0) (pq_nat_le hxk1) (pq_nat_lt _) (xk.toInt.toNat + 1) mo.toInt.toNat mq mn me mo mt mx mp mz mu vn vz vc vv vp ve mK mA mB mC mf ml g5.2.2.1 mL g5.2.2.2 mi mr mw ls H locs (pq_nat_lt _) (by omega) (lv_sub hl [1, 2, 3, 4, 5, 6, 0] rfl) hP hD hS (fun ls H locs hl hP hD hS => ?_)
          have hP : va_P D vwCl (wM ad cI cS mq mn me mo mt mx mp mz mu vn vz vc vv vp ve mK mA mB mC mf ml ((LMo_pool_169 (xk.toInt.toNat + 1) xk mK mB mo.toInt.toNat mo.toInt.toNat g5.2.2.1).2) mL g5.2.2.2 mi mr mw) H := hP
          have hD : va_D _ (wM ad cI cS mq mn me mo mt mx mp mz mu vn vz vc vv vp ve mK mA mB mC mf ml ((LMo_pool_169 (xk.toInt.toNat + 1) xk mK mB mo.toInt.toNat mo.toInt.toNat g5.2.2.1).2) mL g5.2.2.2 mi mr mw) := hD
          refine lv_iload_n hx hb dMo_pool_272 rfl (lv_at hl 3 rfl) ?_
          refine lv_if_eq (tgt := 298) hx hb dMo_pool_273 (by decide) (fun h9 => absurd h9 (by decide)) (fun _ => ?_)
          refine lv_aload_n hx hb dMo_pool_276 rfl (lv_at hl 0 rfl) ?_
          refine lv_iload hx hb dMo_pool_277 (lv_at hl 4 rfl) ?_
          refine lv_ldc hx hb hown (hw _ wd_229) dMo_pool_279 ?_
          refine lv_iload hx hb dMo_pool_281 (lv_at hl 5 rfl) ?_
          refine lv_iload hx hb dMo_pool_283 (lv_at hl 4 rfl) ?_
          refine lv_isub hx hb dMo_pool_285 ?_
          refine lv_iconst (v := 4) hx hb dMo_pool_286 (by first | rfl | decide) ?_
          refine lv_isub hx hb dMo_pool_287 ?_
          refine lv_iconst (v := 2) hx hb dMo_pool_288 (by first | rfl | decide) ?_
          refine lv_idiv hx hb dMo_pool_289 (by decide) ?_
          refine lv_sipush (v := 2047) hx hb dMo_pool_290 (by first | rfl | decide) ?_
          refine lv_iand hx hb dMo_pool_293 ?_
          refine lv_iadd hx hb dMo_pool_294 ?_
          refine pq_callv (wc := (wM ad cI cS mq mn me mo mt mx mp mz mu vn vz vc vv vp ve mK mA mB mC mf ml ((LMo_pool_169 (xk.toInt.toNat + 1) xk mK mB mo.toInt.toNat mo.toInt.toNat g5.2.2.1).2) mL g5.2.2.2 mi mr mw)) (wr := ([] : List Nat).filterMap (fun i => (wM ad cI cS mq mn me mo mt mx mp mz mu vn vz vc vv vp ve mK mA mB mC mf ml ((LMo_pool_169 (xk.toInt.toNat + 1) xk mK mB mo.toInt.toNat mo.toInt.toNat g5.2.2.1).2) mL g5.2.2.2 mi mr mw)[i]?)) hP hD hS hA [0, 1, 2, 3, 4, 5, 6, 7, 8, 9, 10, 11, 12] [] rfl rfl (by decide) (by decide) (va_runV (own := RMo) (C := RMo) (As := [.int me, .int (57344 + (((((nI g5.1) - me) - 4) / 2) &&& (2047 : Int32)))]) (rest := []) ⟨hx, hb, hml, hown, hw⟩ (k_Mo_write l D ad cI cS me (57344 + (((((nI g5.1) - me) - 4) / 2) &&& (2047 : Int32))) mq mn me mo mt mx mp mz mu vn vz vc vv vp ve mK mA mB mC mf ml ((LMo_pool_169 (xk.toInt.toNat + 1) xk mK mB mo.toInt.toNat mo.toInt.toNat g5.2.2.1).2) mL g5.2.2.2 mi mr mw (pq_half hme0 (by omega)) H.size) ⟨pq_cwB 2 hw wd_285 wd_186 wd_284 rfl rfl (by decide +kernel) ⟨Nat.le_of_ble_eq_true rfl, Nat.le_of_ble_eq_true rfl⟩, hw _ wd_286, hw _ wd_287⟩ (pq_preV (ci := 5) (C := RMo) (T := TMo) (N := 27) hE (hP.sub [0, 1, 2, 3, 4, 5, 6, 7, 8, 9, 10, 11, 12] rfl) (hD.sub [0, 1, 2, 3, 4, 5, 6, 7, 8, 9, 10, 11, 12] (by decide) rfl) rfl 0 rfl) rfl rfl hl.1 rfl (lv_room (Nat.le_of_ble_eq_true rfl)) dMo_pool_295 ⟨Nat.zero_le _, Nat.zero_le _⟩) (fun _ H locs hP hD hS => ?_)
          have hP : va_P D vwCl (wM ad cI cS mq mn me mo mt mx mp mz mu vn vz vc vv vp ve mK mA mB mC mf ml ((LMo_pool_169 (xk.toInt.toNat + 1) xk mK mB mo.toInt.toNat mo.toInt.toNat g5.2.2.1).2) mL (FMo_write me (57344 + (((((nI g5.1) - me) - 4) / 2) &&& (2047 : Int32))) g5.2.2.2) mi mr mw) H := hP.sub [0, 1, 2, 3, 4, 5, 6, 7, 8, 9, 10, 11, 12] rfl
          have hD : va_D _ (wM ad cI cS mq mn me mo mt mx mp mz mu vn vz vc vv vp ve mK mA mB mC mf ml ((LMo_pool_169 (xk.toInt.toNat + 1) xk mK mB mo.toInt.toNat mo.toInt.toNat g5.2.2.1).2) mL (FMo_write me (57344 + (((((nI g5.1) - me) - 4) / 2) &&& (2047 : Int32))) g5.2.2.2) mi mr mw) := hD.sub [0, 1, 2, 3, 4, 5, 6, 7, 8, 9, 10, 11, 12] (by decide) rfl
          refine lv_aload_n hx hb dMo_pool_298 rfl (lv_at hl 0 rfl) ?_
          refine lv_iload hx hb dMo_pool_299 (lv_at hl 5 rfl) ?_
          refine va_put (D := D) (ci := 5) (v := .int (nI g5.1)) (ty := .int) (C := RMo) (T := TMo) (N := 27) hx hb hw pinMo tyMo tyMo_ok nmMo hown hE.1 hP hD hS 0 rfl rfl 10 (by decide) (hw _ wd_278) (fun _ h9 => h9) rfl (by decide +kernel) rfl rfl (Nat.le_of_ble_eq_true rfl) dMo_pool_301 (fun H locs hP hD hS => ?_)
          have hP : va_P D vwCl (wM ad cI cS mq mn (nI g5.1) mo mt mx mp mz mu vn vz vc vv vp ve mK mA mB mC mf ml ((LMo_pool_169 (xk.toInt.toNat + 1) xk mK mB mo.toInt.toNat mo.toInt.toNat g5.2.2.1).2) mL (FMo_write me (57344 + (((((nI g5.1) - me) - 4) / 2) &&& (2047 : Int32))) g5.2.2.2) mi mr mw) H := hP
          have hD : va_D _ (wM ad cI cS mq mn (nI g5.1) mo mt mx mp mz mu vn vz vc vv vp ve mK mA mB mC mf ml ((LMo_pool_169 (xk.toInt.toNat + 1) xk mK mB mo.toInt.toNat mo.toInt.toNat g5.2.2.1).2) mL (FMo_write me (57344 + (((((nI g5.1) - me) - 4) / 2) &&& (2047 : Int32))) g5.2.2.2) mi mr mw) := hD
          refine lv_aload_n hx hb dMo_pool_304 rfl (lv_at hl 0 rfl) ?_
          refine lv_iconst (v := (-1)) hx hb dMo_pool_305 (by first | rfl | decide) ?_
          refine va_put (D := D) (ci := 5) (v := .int (-1)) (ty := .int) (C := RMo) (T := TMo) (N := 27) hx hb hw pinMo tyMo tyMo_ok nmMo hown hE.1 hP hD hS 0 rfl rfl 11 (by decide) (hw _ wd_288) (fun _ h9 => h9) rfl (by decide +kernel) rfl rfl (Nat.le_of_ble_eq_true rfl) dMo_pool_306 (fun H locs hP hD hS => ?_)
          have hP : va_P D vwCl (wM ad cI cS mq mn (nI g5.1) (-1) mt mx mp mz mu vn vz vc vv vp ve mK mA mB mC mf ml ((LMo_pool_169 (xk.toInt.toNat + 1) xk mK mB mo.toInt.toNat mo.toInt.toNat g5.2.2.1).2) mL (FMo_write me (57344 + (((((nI g5.1) - me) - 4) / 2) &&& (2047 : Int32))) g5.2.2.2) mi mr mw) H := hP
          have hD : va_D _ (wM ad cI cS mq mn (nI g5.1) (-1) mt mx mp mz mu vn vz vc vv vp ve mK mA mB mC mf ml ((LMo_pool_169 (xk.toInt.toNat + 1) xk mK mB mo.toInt.toNat mo.toInt.toNat g5.2.2.1).2) mL (FMo_write me (57344 + (((((nI g5.1) - me) - 4) / 2) &&& (2047 : Int32))) g5.2.2.2) mi mr mw) := hD
          refine lv_aload_n hx hb dMo_pool_309 rfl (lv_at hl 0 rfl) ?_
          refine lv_bipush (v := 14) hx hb dMo_pool_310 (by first | rfl | decide) ?_
          refine va_put (D := D) (ci := 5) (v := .int 14) (ty := .int) (C := RMo) (T := TMo) (N := 27) hx hb hw pinMo tyMo tyMo_ok nmMo hown hE.1 hP hD hS 0 rfl rfl 12 (by decide) (hw _ wd_289) (fun _ h9 => h9) rfl (by decide +kernel) rfl rfl (Nat.le_of_ble_eq_true rfl) dMo_pool_312 (fun H locs hP hD hS => ?_)
          have hP : va_P D vwCl (wM ad cI cS mq mn (nI g5.1) (-1) 14 mx mp mz mu vn vz vc vv vp ve mK mA mB mC mf ml ((LMo_pool_169 (xk.toInt.toNat + 1) xk mK mB mo.toInt.toNat mo.toInt.toNat g5.2.2.1).2) mL (FMo_write me (57344 + (((((nI g5.1) - me) - 4) / 2) &&& (2047 : Int32))) g5.2.2.2) mi mr mw) H := hP
          have hD : va_D _ (wM ad cI cS mq mn (nI g5.1) (-1) 14 mx mp mz mu vn vz vc vv vp ve mK mA mB mC mf ml ((LMo_pool_169 (xk.toInt.toNat + 1) xk mK mB mo.toInt.toNat mo.toInt.toNat g5.2.2.1).2) mL (FMo_write me (57344 + (((((nI g5.1) - me) - 4) / 2) &&& (2047 : Int32))) g5.2.2.2) mi mr mw) := hD
          refine lv_aload_n hx hb dMo_pool_315 rfl (lv_at hl 0 rfl) ?_
          refine lv_dup hx hb dMo_pool_316 rfl ?_
          refine va_get (D := D) (ci := 5) (v := .int mp) (C := RMo) (T := TMo) (N := 27) hx hb hw pinMo hown hE.1 hP 0 rfl rfl 14 (by decide) (hw _ wd_293) (fun _ h9 => h9) rfl dMo_pool_317 ?_
          refine lv_iconst (v := 1) hx hb dMo_pool_320 (by first | rfl | decide) ?_
          refine lv_iadd hx hb dMo_pool_321 ?_
          refine va_put (D := D) (ci := 5) (v := .int (mp + 1)) (ty := .int) (C := RMo) (T := TMo) (N := 27) hx hb hw pinMo tyMo tyMo_ok nmMo hown hE.1 hP hD hS 0 rfl rfl 14 (by decide) (hw _ wd_293) (fun _ h9 => h9) rfl (by decide +kernel) rfl rfl (Nat.le_of_ble_eq_true rfl) dMo_pool_322 (fun H locs hP hD hS => ?_)
          have hP : va_P D vwCl (wM ad cI cS mq mn (nI g5.1) (-1) 14 mx (mp + 1) mz mu vn vz vc vv vp ve mK mA mB mC mf ml ((LMo_pool_169 (xk.toInt.toNat + 1) xk mK mB mo.toInt.toNat mo.toInt.toNat g5.2.2.1).2) mL (FMo_write me (57344 + (((((nI g5.1) - me) - 4) / 2) &&& (2047 : Int32))) g5.2.2.2) mi mr mw) H := hP
          have hD : va_D _ (wM ad cI cS mq mn (nI g5.1) (-1) 14 mx (mp + 1) mz mu vn vz vc vv vp ve mK mA mB mC mf ml ((LMo_pool_169 (xk.toInt.toNat + 1) xk mK mB mo.toInt.toNat mo.toInt.toNat g5.2.2.1).2) mL (FMo_write me (57344 + (((((nI g5.1) - me) - 4) / 2) &&& (2047 : Int32))) g5.2.2.2) mi mr mw) := hD
          have e9 : FMo_pool xk me mo mt mp mK mB mc md = (nI g5.1, (-1), 14, mp + 1, (LMo_pool_169 (xk.toInt.toNat + 1) xk mK mB mo.toInt.toNat mo.toInt.toNat g5.2.2.1).2, (FMo_write me (57344 + (((((nI g5.1) - me) - 4) / 2) &&& (2047 : Int32))) g5.2.2.2)) := by simp only [FMo_pool, hg5, if_neg h1, if_neg h2, if_neg h4, if_pos h6]
          have p9 : (((-1) : Int32) = (-1) ∧ ¬ (nI g5.1) < 0 ∧ (nI g5.1).toInt ≤ bb) := by first | exact pq_phi0 hpl (by assumption) | exact ⟨rfl, nI_pos (by omega), by rw [nI_toInt (by omega)]; omega⟩
          exact W.vret hx hb hr (fun t ht hW => ⟨⟨(), rfl, by rw [e9]; exact p9, by rw [e9, ht]; exact hP, by rw [e9]; exact hD⟩, hS.F ht⟩) hS.2.2 dMo_pool_325
        · refine lv_aload_n hx hb dMo_pool_77 rfl (lv_at hl 5 rfl) ?_
          refine lv_iload hx hb dMo_pool_78 (lv_at hl 1 rfl) ?_
          refine lv_sipush (v := 18112) hx hb dMo_pool_80 (by first | rfl | decide) ?_
          refine pq_callv (wc := (wM ad cI cS mq mn me mo mt mx mp mz mu vn vz vc vv vp ve mK mA mB mC mf ml mc mL md mi mr mw)) (wr := ([] : List Nat).filterMap (fun i => (wM ad cI cS mq mn me mo mt mx mp mz mu vn vz vc vv vp ve mK mA mB mC mf ml mc mL md mi mr mw)[i]?)) hP hD hS hA [0, 1, 2, 3, 4, 5, 6, 7, 8, 9, 10, 11, 12] [] rfl rfl (by decide) (by decide) (va_runV (own := RMo) (C := RMo) (As := [.int (me + 2), .int 18112]) (rest := []) ⟨hx, hb, hml, hown, hw⟩ (k_Mo_write l D ad cI cS (me + 2) 18112 mq mn me mo mt mx mp mz mu vn vz vc vv vp ve mK mA mB mC mf ml mc mL md mi mr mw (pq_half (by first | exact ha2.1 | exact hme0) (by have q9 := pq_nle (show ¬ FMo_up (me + 2) ≤ (me + 2) by assumption); omega)) H.size) ⟨pq_cwB 2 hw wd_285 wd_186 wd_284 rfl rfl (by decide +kernel) ⟨Nat.le_of_ble_eq_true rfl, Nat.le_of_ble_eq_true rfl⟩, hw _ wd_286, hw _ wd_287⟩ (pq_preV (ci := 5) (C := RMo) (T := TMo) (N := 27) hE (hP.sub [0, 1, 2, 3, 4, 5, 6, 7, 8, 9, 10, 11, 12] rfl) (hD.sub [0, 1, 2, 3, 4, 5, 6, 7, 8, 9, 10, 11, 12] (by decide) rfl) rfl 0 rfl) rfl rfl hl.1 rfl (lv_room (Nat.le_of_ble_eq_true rfl)) dMo_pool_83 ⟨Nat.zero_le _, Nat.zero_le _⟩) (fun _ H locs hP hD hS => ?_)
          have hP : va_P D vwCl (wM ad cI cS mq mn me mo mt mx mp mz mu vn vz vc vv vp ve mK mA mB mC mf ml mc mL (FMo_write (me + 2) 18112 md) mi mr mw) H := hP.sub [0, 1, 2, 3, 4, 5, 6, 7, 8, 9, 10, 11, 12] rfl
          have hD : va_D _ (wM ad cI cS mq mn me mo mt mx mp mz mu vn vz vc vv vp ve mK mA mB mC mf ml mc mL (FMo_write (me + 2) 18112 md) mi mr mw) := hD.sub [0, 1, 2, 3, 4, 5, 6, 7, 8, 9, 10, 11, 12] (by decide) rfl
          refine lv_iload_n hx hb dMo_pool_86 rfl (lv_at hl 4 rfl) ?_
          refine lv_istore (lv' := [(7, .int mo), (6, .int (FMo_up (me + 2))), (5, .int (me + 2)), (4, .int me), (3, .int 1), (2, .int mo), (0, .ref (ad 17)), (1, .int xk)]) hx hb dMo_pool_87 hl (by decide) rfl (fun ls hl => ?_)
          obtain ⟨g6, hg6⟩ : ∃ g9, LMo_pool_89 (xk.toInt.toNat + 1) xk mK mB mo.toInt.toNat ((FMo_up (me + 2)).toInt.toNat) mo.toInt.toNat mc (FMo_write (me + 2) 18112 md) = g9 := ⟨_, rfl⟩
          refine qMo_pool_89 D ad cI cS hx hb hml hw hown hE hA ⟨Nat.le_of_ble_eq_true rfl, Nat.le_of_ble_eq_true rfl⟩ xk mo.toInt.toNat 1 me xk.toInt.toNat bb.toNat (pq_nat hxk0) (pq_nat_le hxk1) (by omega) (pq_nat_lt _) (xk.toInt.toNat + 1) ((FMo_up (me + 2)).toInt.toNat) mo.toInt.toNat mq mn me mo mt mx mp mz mu vn vz vc vv vp ve mK mA mB mC mf ml mc mL (FMo_write (me + 2) 18112 md) mi mr mw ls H locs (pq_nat_lt _) (by omega) (by omega) (by rw [← pq_nat hmo0, ← pq_nat hu.1]; exact lv_sub hl [6, 7, 5, 4, 3, 1, 0] rfl) hP hD hS (fun ls H locs ht9 hl hP hD hS => ?_)
          try rw [hg6] at hl
          try rw [hg6] at hP
          try rw [hg6] at hD
          try rw [hg6] at ht9
          have hP : va_P D vwCl (wM ad cI cS mq mn me mo mt mx mp mz mu vn vz vc vv vp ve mK mA mB mC mf ml g6.2.2.1 mL g6.2.2.2 mi mr mw) H := hP
          have hD : va_D _ (wM ad cI cS mq mn me mo mt mx mp mz mu vn vz vc vv vp ve mK mA mB mC mf ml g6.2.2.1 mL g6.2.2.2 mi mr mw) := hD
          refine lv_iload_n hx hb dMo_pool_166 rfl (lv_at hl 2 rfl) ?_
          refine lv_istore (lv' := [(7, .int (nI mo.toInt.toNat)), (0, .ref (ad 17)), (1, .int xk), (2, .int (nI mo.toInt.toNat)), (3, .int 1), (4, .int me), (6, .int (nI g6.1))]) hx hb dMo_pool_167 hl (by decide) rfl (fun ls hl => ?_)
          refine qMo_pool_169 D ad cI cS hx hb hml hw hown hE hA ⟨Nat.le_of_ble_eq_true rfl, Nat.le_of_ble_eq_true rfl⟩ xk mo.toInt.toNat 1 me g6.1 xk.toInt.toNat (pq_nat hxk0) (pq_nat_le hxk1) (pq_nat_lt _) (xk.toInt.toNat + 1) mo.toInt.toNat mq mn me mo mt mx mp mz mu vn vz vc vv vp ve mK mA mB mC mf ml g6.2.2.1 mL g6.2.2.2 mi mr mw ls H locs (pq_nat_lt _) (by omega) (lv_sub hl [1, 2, 3, 4, 5, 6, 0] rfl) hP hD hS (fun ls H locs hl hP hD hS => ?_)
          have hP : va_P D vwCl (wM ad cI cS mq mn me mo mt mx mp mz mu vn vz vc vv vp ve mK mA mB mC mf ml ((LMo_pool_169 (xk.toInt.toNat + 1) xk mK mB mo.toInt.toNat mo.toInt.toNat g6.2.2.1).2) mL g6.2.2.2 mi mr mw) H := hP
          have hD : va_D _ (wM ad cI cS mq mn me mo mt mx mp mz mu vn vz vc vv vp ve mK mA mB mC mf ml ((LMo_pool_169 (xk.toInt.toNat + 1) xk mK mB mo.toInt.toNat mo.toInt.toNat g6.2.2.1).2) mL g6.2.2.2 mi mr mw) := hD
          refine lv_iload_n hx hb dMo_pool_272 rfl (lv_at hl 3 rfl) ?_
          refine lv_if_eq (tgt := 298) hx hb dMo_pool_273 (by decide) (fun h9 => absurd h9 (by decide)) (fun _ => ?_)
          refine lv_aload_n hx hb dMo_pool_276 rfl (lv_at hl 0 rfl) ?_
          refine lv_iload hx hb dMo_pool_277 (lv_at hl 4 rfl) ?_
          refine lv_ldc hx hb hown (hw _ wd_229) dMo_pool_279 ?_
          refine lv_iload hx hb dMo_pool_281 (lv_at hl 5 rfl) ?_
          refine lv_iload hx hb dMo_pool_283 (lv_at hl 4 rfl) ?_
          refine lv_isub hx hb dMo_pool_285 ?_
          refine lv_iconst (v := 4) hx hb dMo_pool_286 (by first | rfl | decide) ?_
          refine lv_isub hx hb dMo_pool_287 ?_
          refine lv_iconst (v := 2) hx hb dMo_pool_288 (by first | rfl | decide) ?_
          refine lv_idiv hx hb dMo_pool_289 (by decide) ?_
          refine lv_sipush (v := 2047) hx hb dMo_pool_290 (by first | rfl | decide) ?_
          refine lv_iand hx hb dMo_pool_293 ?_
          refine lv_iadd hx hb dMo_pool_294 ?_
          refine pq_callv (wc := (wM ad cI cS mq mn me mo mt mx mp mz mu vn vz vc vv vp ve mK mA mB mC mf ml ((LMo_pool_169 (xk.toInt.toNat + 1) xk mK mB mo.toInt.toNat mo.toInt.toNat g6.2.2.1).2) mL g6.2.2.2 mi mr mw)) (wr := ([] : List Nat).filterMap (fun i => (wM ad cI cS mq mn me mo mt mx mp mz mu vn vz vc vv vp ve mK mA mB mC mf ml ((LMo_pool_169 (xk.toInt.toNat + 1) xk mK mB mo.toInt.toNat mo.toInt.toNat g6.2.2.1).2) mL g6.2.2.2 mi mr mw)[i]?)) hP hD hS hA [0, 1, 2, 3, 4, 5, 6, 7, 8, 9, 10, 11, 12] [] rfl rfl (by decide) (by decide) (va_runV (own := RMo) (C := RMo) (As := [.int me, .int (57344 + (((((nI g6.1) - me) - 4) / 2) &&& (2047 : Int32)))]) (rest := []) ⟨hx, hb, hml, hown, hw⟩ (k_Mo_write l D ad cI cS me (57344 + (((((nI g6.1) - me) - 4) / 2) &&& (2047 : Int32))) mq mn me mo mt mx mp mz mu vn vz vc vv vp ve mK mA mB mC mf ml ((LMo_pool_169 (xk.toInt.toNat + 1) xk mK mB mo.toInt.toNat mo.toInt.toNat g6.2.2.1).2) mL g6.2.2.2 mi mr mw (pq_half hme0 (by omega)) H.size) ⟨pq_cwB 2 hw wd_285 wd_186 wd_284 rfl rfl (by decide +kernel) ⟨Nat.le_of_ble_eq_true rfl, Nat.le_of_ble_eq_true rfl⟩, hw _ wd_286, hw _ wd_287⟩ (pq_preV (ci := 5) (C := RMo) (T := TMo) (N := 27) hE (hP.sub [0, 1, 2, 3, 4, 5, 6, 7, 8, 9, 10, 11, 12] rfl) (hD.sub [0, 1, 2, 3, 4, 5, 6, 7, 8, 9, 10, 11, 12] (by decide) rfl) rfl 0 rfl) rfl rfl hl.1 rfl (lv_room (Nat.le_of_ble_eq_true rfl)) dMo_pool_295 ⟨Nat.zero_le _, Nat.zero_le _⟩) (fun _ H locs hP hD hS => ?_)
          have hP : va_P D vwCl (wM ad cI cS mq mn me mo mt mx mp mz mu vn vz vc vv vp ve mK mA mB mC mf ml ((LMo_pool_169 (xk.toInt.toNat + 1) xk mK mB mo.toInt.toNat mo.toInt.toNat g6.2.2.1).2) mL (FMo_write me (57344 + (((((nI g6.1) - me) - 4) / 2) &&& (2047 : Int32))) g6.2.2.2) mi mr mw) H := hP.sub [0, 1, 2, 3, 4, 5, 6, 7, 8, 9, 10, 11, 12] rfl
          have hD : va_D _ (wM ad cI cS mq mn me mo mt mx mp mz mu vn vz vc vv vp ve mK mA mB mC mf ml ((LMo_pool_169 (xk.toInt.toNat + 1) xk mK mB mo.toInt.toNat mo.toInt.toNat g6.2.2.1).2) mL (FMo_write me (57344 + (((((nI g6.1) - me) - 4) / 2) &&& (2047 : Int32))) g6.2.2.2) mi mr mw) := hD.sub [0, 1, 2, 3, 4, 5, 6, 7, 8, 9, 10, 11, 12] (by decide) rfl
          refine lv_aload_n hx hb dMo_pool_298 rfl (lv_at hl 0 rfl) ?_
          refine lv_iload hx hb dMo_pool_299 (lv_at hl 5 rfl) ?_
          refine va_put (D := D) (ci := 5) (v := .int (nI g6.1)) (ty := .int) (C := RMo) (T := TMo) (N := 27) hx hb hw pinMo tyMo tyMo_ok nmMo hown hE.1 hP hD hS 0 rfl rfl 10 (by decide) (hw _ wd_278) (fun _ h9 => h9) rfl (by decide +kernel) rfl rfl (Nat.le_of_ble_eq_true rfl) dMo_pool_301 (fun H locs hP hD hS => ?_)
          have hP : va_P D vwCl (wM ad cI cS mq mn (nI g6.1) mo mt mx mp mz mu vn vz vc vv vp ve mK mA mB mC mf ml ((LMo_pool_169 (xk.toInt.toNat + 1) xk mK mB mo.toInt.toNat mo.toInt.toNat g6.2.2.1).2) mL (FMo_write me (57344 + (((((nI g6.1) - me) - 4) / 2) &&& (2047 : Int32))) g6.2.2.2) mi mr mw) H := hP
          have hD : va_D _ (wM ad cI cS mq mn (nI g6.1) mo mt mx mp mz mu vn vz vc vv vp ve mK mA mB mC mf ml ((LMo_pool_169 (xk.toInt.toNat + 1) xk mK mB mo.toInt.toNat mo.toInt.toNat g6.2.2.1).2) mL (FMo_write me (57344 + (((((nI g6.1) - me) - 4) / 2) &&& (2047 : Int32))) g6.2.2.2) mi mr mw) := hD
          refine lv_aload_n hx hb dMo_pool_304 rfl (lv_at hl 0 rfl) ?_
          refine lv_iconst (v := (-1)) hx hb dMo_pool_305 (by first | rfl | decide) ?_
          refine va_put (D := D) (ci := 5) (v := .int (-1)) (ty := .int) (C := RMo) (T := TMo) (N := 27) hx hb hw pinMo tyMo tyMo_ok nmMo hown hE.1 hP hD hS 0 rfl rfl 11 (by decide) (hw _ wd_288) (fun _ h9 => h9) rfl (by decide +kernel) rfl rfl (Nat.le_of_ble_eq_true rfl) dMo_pool_306 (fun H locs hP hD hS => ?_)
          have hP : va_P D vwCl (wM ad cI cS mq mn (nI g6.1) (-1) mt mx mp mz mu vn vz vc vv vp ve mK mA mB mC mf ml ((LMo_pool_169 (xk.toInt.toNat + 1) xk mK mB mo.toInt.toNat mo.toInt.toNat g6.2.2.1).2) mL (FMo_write me (57344 + (((((nI g6.1) - me) - 4) / 2) &&& (2047 : Int32))) g6.2.2.2) mi mr mw) H := hP
          have hD : va_D _ (wM ad cI cS mq mn (nI g6.1) (-1) mt mx mp mz mu vn vz vc vv vp ve mK mA mB mC mf ml ((LMo_pool_169 (xk.toInt.toNat + 1) xk mK mB mo.toInt.toNat mo.toInt.toNat g6.2.2.1).2) mL (FMo_write me (57344 + (((((nI g6.1) - me) - 4) / 2) &&& (2047 : Int32))) g6.2.2.2) mi mr mw) := hD
          refine lv_aload_n hx hb dMo_pool_309 rfl (lv_at hl 0 rfl) ?_
          refine lv_bipush (v := 14) hx hb dMo_pool_310 (by first | rfl | decide) ?_
          refine va_put (D := D) (ci := 5) (v := .int 14) (ty := .int) (C := RMo) (T := TMo) (N := 27) hx hb hw pinMo tyMo tyMo_ok nmMo hown hE.1 hP hD hS 0 rfl rfl 12 (by decide) (hw _ wd_289) (fun _ h9 => h9) rfl (by decide +kernel) rfl rfl (Nat.le_of_ble_eq_true rfl) dMo_pool_312 (fun H locs hP hD hS => ?_)
          have hP : va_P D vwCl (wM ad cI cS mq mn (nI g6.1) (-1) 14 mx mp mz mu vn vz vc vv vp ve mK mA mB mC mf ml ((LMo_pool_169 (xk.toInt.toNat + 1) xk mK mB mo.toInt.toNat mo.toInt.toNat g6.2.2.1).2) mL (FMo_write me (57344 + (((((nI g6.1) - me) - 4) / 2) &&& (2047 : Int32))) g6.2.2.2) mi mr mw) H := hP
          have hD : va_D _ (wM ad cI cS mq mn (nI g6.1) (-1) 14 mx mp mz mu vn vz vc vv vp ve mK mA mB mC mf ml ((LMo_pool_169 (xk.toInt.toNat + 1) xk mK mB mo.toInt.toNat mo.toInt.toNat g6.2.2.1).2) mL (FMo_write me (57344 + (((((nI g6.1) - me) - 4) / 2) &&& (2047 : Int32))) g6.2.2.2) mi mr mw) := hD
          refine lv_aload_n hx hb dMo_pool_315 rfl (lv_at hl 0 rfl) ?_
          refine lv_dup hx hb dMo_pool_316 rfl ?_
          refine va_get (D := D) (ci := 5) (v := .int mp) (C := RMo) (T := TMo) (N := 27) hx hb hw pinMo hown hE.1 hP 0 rfl rfl 14 (by decide) (hw _ wd_293) (fun _ h9 => h9) rfl dMo_pool_317 ?_
          refine lv_iconst (v := 1) hx hb dMo_pool_320 (by first | rfl | decide) ?_
          refine lv_iadd hx hb dMo_pool_321 ?_
          refine va_put (D := D) (ci := 5) (v := .int (mp + 1)) (ty := .int) (C := RMo) (T := TMo) (N := 27) hx hb hw pinMo tyMo tyMo_ok nmMo hown hE.1 hP hD hS 0 rfl rfl 14 (by decide) (hw _ wd_293) (fun _ h9 => h9) rfl (by decide +kernel) rfl rfl (Nat.le_of_ble_eq_true rfl) dMo_pool_322 (fun H locs hP hD hS => ?_)
          have hP : va_P D vwCl (wM ad cI cS mq mn (nI g6.1) (-1) 14 mx (mp + 1) mz mu vn vz vc vv vp ve mK mA mB mC mf ml ((LMo_pool_169 (xk.toInt.toNat + 1) xk mK mB mo.toInt.toNat mo.toInt.toNat g6.2.2.1).2) mL (FMo_write me (57344 + (((((nI g6.1) - me) - 4) / 2) &&& (2047 : Int32))) g6.2.2.2) mi mr mw) H := hP
          have hD : va_D _ (wM ad cI cS mq mn (nI g6.1) (-1) 14 mx (mp + 1) mz mu vn vz vc vv vp ve mK mA mB mC mf ml ((LMo_pool_169 (xk.toInt.toNat + 1) xk mK mB mo.toInt.toNat mo.toInt.toNat g6.2.2.1).2) mL (FMo_write me (57344 + (((((nI g6.1) - me) - 4) / 2) &&& (2047 : Int32))) g6.2.2.2) mi mr mw) := hD
          have e9 : FMo_pool xk me mo mt mp mK mB mc md = (nI g6.1, (-1), 14, mp + 1, (LMo_pool_169 (xk.toInt.toNat + 1) xk mK mB mo.toInt.toNat mo.toInt.toNat g6.2.2.1).2, (FMo_write me (57344 + (((((nI g6.1) - me) - 4) / 2) &&& (2047 : Int32))) g6.2.2.2)) := by simp only [FMo_pool, hg6, if_neg h1, if_neg h2, if_neg h4, if_neg h6]
          have p9 : (((-1) : Int32) = (-1) ∧ ¬ (nI g6.1) < 0 ∧ (nI g6.1).toInt ≤ bb) := by first | exact pq_phi0 hpl (by assumption) | exact ⟨rfl, nI_pos (by omega), by rw [nI_toInt (by omega)]; omega⟩
          exact W.vret hx hb hr (fun t ht hW => ⟨⟨(), rfl, by rw [e9]; exact p9, by rw [e9, ht]; exact hP, by rw [e9]; exact hD⟩, hS.F ht⟩) hS.2.2 dMo_pool_325
  · have e9 : FMo_pool xk me mo mt mp mK mB mc md = (me, mo, mt, mp, mc, md) := by simp only [FMo_pool, if_pos h1]
    have p9 : (mo = (-1) ∧ ¬ me < 0 ∧ me.toInt ≤ bb) := by first | exact pq_phi0 hpl (by assumption) | exact ⟨rfl, nI_pos (by omega), by rw [nI_toInt (by omega)]; omega⟩
    exact W.vret hx hb hr (fun t ht hW => ⟨⟨(), rfl, by rw [e9]; exact p9, by rw [e9, ht]; exact hP, by rw [e9]; exact hD⟩, hS.F ht⟩) hS.2.2 dMo_pool_8
