theorem pq_out {x a b : Int32} (h : FMo_outside x a b = 0) : a.toInt ≤ x.toInt ∧ x.toInt ≤ b.toInt := by
  unfold FMo_outside at h
  split at h
  · exact absurd h (by decide)
  · rename_i h1
    split at h
    · rename_i h2
      rw [Int32.lt_iff_toInt_lt] at h1
      rw [Int32.le_iff_toInt_le] at h2
      omega
    · exact absurd h (by decide)
theorem pq_div0 {x d : Int32} (h : ¬ x < 0) (hd : 0 < d) : ¬ x / d < 0 := by
  obtain ⟨j, hj, rfl⟩ := nI_of h
  have hd0 : ¬ d < 0 := by
    rw [Int32.lt_iff_toInt_lt] at hd ⊢
    have : (0 : Int32).toInt = 0 := rfl
    omega
  obtain ⟨k, hk, rfl⟩ := nI_of hd0
  have h0 : 0 < k := by
    have h1 : nI 0 < nI k := hd
    exact (nI_ltI (by omega) hk).mp h1
  rw [pk_div hj h0 hk]
  exact nI_pos (Nat.lt_of_le_of_lt (Nat.div_le_self _ _) hj)
theorem pq_rem8 {x : Int32} (h : ¬ x < 0) : vp_in (x - x / 8 * 8) 8 := by
  obtain ⟨j, hj, rfl⟩ := nI_of h
  show vp_in (nI j - nI j / nI 8 * nI 8) 8
  rw [pk_rem hj (by omega) (by omega)]
  exact vp_in_nI (Nat.mod_lt _ (by omega)) (by omega)
theorem pq_ge0 {h a : Int32} (ha : ¬ h < a) (a0 : ¬ a < 0) : ¬ h < 0 := by
  rw [Int32.lt_iff_toInt_lt] at ha a0 ⊢
  omega
theorem pq_r8a {h a : Int32} (ha : ¬ h < a) (a0 : ¬ a < 0) : vp_in (h - h / 8 * 8) 8 := pq_rem8 (pq_ge0 ha a0)
theorem pq_r8b {h a : Int32} (ha : ¬ h < a) (a0 : ¬ a < 0) : vp_in (h / 8 - h / 8 / 8 * 8) 8 := pq_rem8 (pq_div0 (pq_ge0 ha a0) (by decide))
theorem pq_r8c {h a : Int32} (ha : ¬ h < a) (a0 : ¬ a < 0) : vp_in (h / 64 - h / 64 / 8 * 8) 8 := pq_rem8 (pq_div0 (pq_ge0 ha a0) (by decide))
theorem pq_subI {h a : Int32} (ha : ¬ h < a) (a0 : ¬ a < 0) : (h - a).toInt = h.toInt - a.toInt := by
  rw [Int32.lt_iff_toInt_lt] at ha a0
  have h0 : (0 : Int32).toInt = 0 := rfl
  have h1 := Int32.toInt_lt h
  rw [Int32.toInt_sub]
  exact Int.bmod_eq_of_le (by omega) (by omega)
theorem pq_sub0 {h a : Int32} (ha : ¬ h < a) (a0 : ¬ a < 0) : ¬ h - a < 0 := by
  rw [Int32.lt_iff_toInt_lt, pq_subI ha a0]
  rw [Int32.lt_iff_toInt_lt] at ha
  have h0 : (0 : Int32).toInt = 0 := rfl
  omega
theorem pq_sub1 {h : Int32} (ha : ¬ h < 18432) (hb : ¬ 20480 ≤ h) : h - 18432 < 2048 := by
  rw [Int32.lt_iff_toInt_lt, pq_subI ha (by decide)]
  rw [Int32.le_iff_toInt_le] at hb
  have h0 : (18432 : Int32).toInt = 18432 := rfl
  have h1 : (20480 : Int32).toInt = 20480 := rfl
  have h2 : (2048 : Int32).toInt = 2048 := rfl
  omega
theorem pq_d256 {x : Int32} (h : ¬ x < 0) (h1 : x < 2048) : vp_in (x / 256) 8 := by
  obtain ⟨j, hj, rfl⟩ := nI_of h
  have h2 : nI j < nI 2048 := h1
  rw [nI_ltI hj (by omega)] at h2
  show vp_in (nI j / nI 256) 8
  rw [pk_div hj (by omega) (by omega)]
  exact vp_in_nI (by omega) (by omega)
theorem pq_m4 {x : Int32} (h : FMo_outside x 4096 4220 = 0) : vp_in (x / 4 - 1024) 32 := by
  obtain ⟨h1, h2⟩ := pq_out h
  have e1 : (4096 : Int32).toInt = 4096 := rfl
  have e2 : (4220 : Int32).toInt = 4220 := rfl
  have h0 : ¬ x < 0 := by
    rw [Int32.lt_iff_toInt_lt]
    have : (0 : Int32).toInt = 0 := rfl
    omega
  obtain ⟨j, hj, rfl⟩ := nI_of h0
  rw [nI_toInt hj] at h1 h2
  show vp_in (nI j / nI 4 - nI 1024) 32
  rw [pk_div hj (by omega) (by omega), pk_sub (by omega)]
  exact vp_in_nI (by omega) (by omega)
theorem pq_ck {x v z : Int32} (hx : ¬ x < 0) (hv : ¬ v < 0) (hv1 : v.toInt ≤ 14400) (hz : z.toInt ≤ 7200) (h : FMo_base v / 2 + 2 * (x - x / 256 * 256) + 1 < z) : vp_in (FMo_base v / 2 + 2 * (x - x / 256 * 256)) 7200 ∧ vp_in (FMo_base v / 2 + 2 * (x - x / 256 * 256) + 1) 7200 := by
  obtain ⟨i, hi, rfl⟩ := nI_of hx
  obtain ⟨j, hj, rfl⟩ := nI_of hv
  rw [nI_toInt hj] at hv1
  have e : FMo_base (nI j) / 2 + 2 * (nI i - nI i / 256 * 256) = nI ((j + 4) / 4 * 4 / 2 + 2 * (i % 256)) := by
    show (nI j + nI 4) / nI 4 * nI 4 / nI 2 + nI 2 * (nI i - nI i / nI 256 * nI 256) = _
    rw [nI_add, pk_div (by omega) (by omega) (by omega), pk_mul, pk_div (by omega) (by omega) (by omega), pk_rem hi (by omega) (by omega), pk_mul, nI_add]
  rw [e] at h ⊢
  rw [nI_1] at h ⊢
  rw [Int32.lt_iff_toInt_lt, nI_toInt (by omega)] at h
  exact ⟨vp_in_nI (by omega) (by omega), vp_in_nI (by omega) (by omega)⟩
theorem pq_vpr {v z : Int32} (hz0 : ¬ z < 0) (hz : z.toInt ≤ 7200) (h : FMo_outside v 0 (2 * z - 1) = 0) : 0 ≤ v.toInt ∧ v.toInt < 14400 := by
  obtain ⟨h1, h2⟩ := pq_out h
  obtain ⟨k, hk, rfl⟩ := nI_of hz0
  rw [nI_toInt hk] at hz
  have e0 : (0 : Int32).toInt = 0 := rfl
  have e1 : (2 * nI k - 1 : Int32).toInt = 2 * (k : Int) - 1 := by
    show (nI 2 * nI k - nI 1).toInt = _
    rw [pk_mul, pk_sub_toInt (by omega) (by omega)]
    omega
  omega
theorem pq_vp0 {v z : Int32} (hz0 : ¬ z < 0) (hz : z.toInt ≤ 7200) (h : FMo_outside v 0 (2 * z - 1) = 0) : ¬ v < 0 := by
  have := pq_vpr hz0 hz h
  rw [Int32.lt_iff_toInt_lt]
  have e0 : (0 : Int32).toInt = 0 := rfl
  omega
theorem pq_vp1 {v z : Int32} (hz0 : ¬ z < 0) (hz : z.toInt ≤ 7200) (h : FMo_outside v 0 (2 * z - 1) = 0) : v.toInt ≤ 14400 := by
  have := pq_vpr hz0 hz h
  omega
theorem pq_half {v : Int32} (h0 : ¬ v < 0) (h1 : v.toInt < 14400) : vp_in (v / 2) 7200 := by
  obtain ⟨j, hj, rfl⟩ := nI_of h0
  rw [nI_toInt hj] at h1
  show vp_in (nI j / nI 2) 7200
  rw [pk_div hj (by omega) (by omega)]
  exact vp_in_nI (by omega) (by omega)
theorem pq_vp2 {v z : Int32} (hz0 : ¬ z < 0) (hz : z.toInt ≤ 7200) (h : FMo_outside v 0 (2 * z - 1) = 0) : vp_in (v / 2) 7200 := pq_half (pq_vp0 hz0 hz h) (pq_vpr hz0 hz h).2
theorem pq_out_in {x z : Int32} (hz0 : ¬ z < 0) (hz : z.toInt ≤ 7200) (h : FMo_outside x 0 (z - 1) = 0) : vp_in x 7200 := by
  obtain ⟨h1, h2⟩ := pq_out h
  obtain ⟨k, hk, rfl⟩ := nI_of hz0
  rw [nI_toInt hk] at hz
  have e0 : (0 : Int32).toInt = 0 := rfl
  have e1 : (nI k - 1 : Int32).toInt = (k : Int) - 1 := by
    show (nI k - nI 1).toInt = _
    rw [pk_sub_toInt (by omega) (by omega)]
    omega
  exact vp_in_iff.mpr (by omega)
theorem pq_out31 {x : Int32} (h : FMo_outside x 0 31 = 0) : vp_in x 32 := by
  obtain ⟨h1, h2⟩ := pq_out h
  have e0 : (0 : Int32).toInt = 0 := rfl
  have e1 : (31 : Int32).toInt = 31 := rfl
  exact vp_in_iff.mpr (by omega)
theorem pq_out8 {x : Int32} (h : FMo_outside x 0 9 = 0) (h8 : ¬ 8 ≤ x) : vp_in x 8 := by
  obtain ⟨h1, h2⟩ := pq_out h
  have e0 : (0 : Int32).toInt = 0 := rfl
  have e1 : (8 : Int32).toInt = 8 := rfl
  rw [Int32.le_iff_toInt_le] at h8
  exact vp_in_iff.mpr (by omega)
theorem pq_fit0 {k a b c : Int32} (h : ¬ FMo_fits k a b c = 0) (hk : k = 0) : vp_in a 16 := by
  subst hk
  have h2 : FMo_outside a 0 15 = 0 := by
    unfold FMo_fits at h
    simp only [if_pos] at h
    unfold FMo_outside at h ⊢
    repeat' split at h
    all_goals first | rfl | (exfalso; exact h rfl) | simp_all
  obtain ⟨h1, h2⟩ := pq_out h2
  have e0 : (0 : Int32).toInt = 0 := rfl
  have e1 : (15 : Int32).toInt = 15 := rfl
  exact vp_in_iff.mpr (by omega)
theorem pq_room {n : Int32} (h0 : ¬ n < 0) (h1 : n.toInt ≤ 160) (h : ¬ n = 160) : vp_in n 160 := by
  have h2 : n.toInt ≠ 160 := fun e => h (Int32.toInt_inj.mp (e.trans rfl))
  rw [Int32.lt_iff_toInt_lt] at h0
  have e0 : (0 : Int32).toInt = 0 := rfl
  exact vp_in_iff.mpr (by omega)
theorem pq_vk {x : Int32} {k : Nat} (h : x = nI k) (hk : k < 160) : vp_in x 160 := by
  rw [h]
  exact vp_in_nI hk (by decide)
theorem pq_vlt {x : Int32} {n : Nat} (h : vp_in x n) : x.toInt.toNat < n := by
  have := vp_in_iff.mp h
  omega

theorem wd_213 : Cond.fieldLink RMo 44 RMo "register" "[I" ∈ pq_ws := pq_memT 558 (by decide +kernel) (by decide +kernel)
theorem wd_214 : Cond.code yMo_difference cMo_difference 3 (some .int) ∈ pq_ws := pq_memT 738 (by decide +kernel) (by decide +kernel)
theorem wd_215 : Cond.methodLink RMo 158 yMo_difference ∈ pq_ws := pq_memT 735 (by decide +kernel) (by decide +kernel)
theorem wd_216 : Cond.instanceMethod yMo_difference ∈ pq_ws := pq_memT 737 (by decide +kernel) (by decide +kernel)
theorem wd_217 : Cond.selects RMo yMo_difference yMo_difference ∈ pq_ws := pq_mem (by decide +kernel) (by decide +kernel)
theorem wd_218 : Cond.code yMo_sum cMo_sum 3 (some .int) ∈ pq_ws := pq_memT 730 (by decide +kernel) (by decide +kernel)
theorem wd_219 : Cond.methodLink RMo 154 yMo_sum ∈ pq_ws := pq_memT 727 (by decide +kernel) (by decide +kernel)
theorem wd_220 : Cond.instanceMethod yMo_sum ∈ pq_ws := pq_memT 729 (by decide +kernel) (by decide +kernel)
theorem wd_221 : Cond.selects RMo yMo_sum yMo_sum ∈ pq_ws := pq_mem (by decide +kernel) (by decide +kernel)
theorem wd_222 : Cond.fieldLink RMo 47 RMo "data" "[I" ∈ pq_ws := pq_memT 559 (by decide +kernel) (by decide +kernel)
theorem wd_223 : Cond.code yMo_base cMo_base 1 (some .int) ∈ pq_ws := pq_memT 676 (by decide +kernel) (by decide +kernel)
theorem wd_224 : Cond.methodLink RMo 97 yMo_base ∈ pq_ws := pq_memT 674 (by decide +kernel) (by decide +kernel)
theorem wd_225 : Cond.static yMo_base ∈ pq_ws := pq_memT 675 (by decide +kernel) (by decide +kernel)
theorem wd_226 : Cond.fieldLink RMo 41 RMo "image" "[I" ∈ pq_ws := pq_memT 557 (by decide +kernel) (by decide +kernel)
def FMo_small (xr : Int32) (vc : Int32) (vv : Int32) (mr : Nat → Int32) : (Nat → Int32) × Int32 × Int32 × Int32 × Int32 := if (xr / 2048) = 0 then if (xr / 2048) = 1 then (mr, (FMo_result (xr - xr / 256 * 256)).2.1, (FMo_result (xr - xr / 256 * 256)).2.2, vc, vv) else (upd mr ((xr / 256) - (xr / 256) / 8 * 8).toNatClampNeg (FMo_result (xr - xr / 256 * 256)).1, (FMo_result (xr - xr / 256 * 256)).2.1, (FMo_result (xr - xr / 256 * 256)).2.2, vc, vv) else if (xr / 2048) = 2 then if (xr / 2048) = 1 then (mr, (FMo_sum (mr ((xr / 256) - (xr / 256) / 8 * 8).toNatClampNeg) (xr - xr / 256 * 256)).2.1, (FMo_sum (mr ((xr / 256) - (xr / 256) / 8 * 8).toNatClampNeg) (xr - xr / 256 * 256)).2.2.1, (FMo_sum (mr ((xr / 256) - (xr / 256) / 8 * 8).toNatClampNeg) (xr - xr / 256 * 256)).2.2.2.1, (FMo_sum (mr ((xr / 256) - (xr / 256) / 8 * 8).toNatClampNeg) (xr - xr / 256 * 256)).2.2.2.2) else (upd mr ((xr / 256) - (xr / 256) / 8 * 8).toNatClampNeg (FMo_sum (mr ((xr / 256) - (xr / 256) / 8 * 8).toNatClampNeg) (xr - xr / 256 * 256)).1, (FMo_sum (mr ((xr / 256) - (xr / 256) / 8 * 8).toNatClampNeg) (xr - xr / 256 * 256)).2.1, (FMo_sum (mr ((xr / 256) - (xr / 256) / 8 * 8).toNatClampNeg) (xr - xr / 256 * 256)).2.2.1, (FMo_sum (mr ((xr / 256) - (xr / 256) / 8 * 8).toNatClampNeg) (xr - xr / 256 * 256)).2.2.2.1, (FMo_sum (mr ((xr / 256) - (xr / 256) / 8 * 8).toNatClampNeg) (xr - xr / 256 * 256)).2.2.2.2) else if (xr / 2048) = 1 then (mr, (FMo_difference (mr ((xr / 256) - (xr / 256) / 8 * 8).toNatClampNeg) (xr - xr / 256 * 256)).2.1, (FMo_difference (mr ((xr / 256) - (xr / 256) / 8 * 8).toNatClampNeg) (xr - xr / 256 * 256)).2.2.1, (FMo_difference (mr ((xr / 256) - (xr / 256) / 8 * 8).toNatClampNeg) (xr - xr / 256 * 256)).2.2.2.1, (FMo_difference (mr ((xr / 256) - (xr / 256) / 8 * 8).toNatClampNeg) (xr - xr / 256 * 256)).2.2.2.2) else (upd mr ((xr / 256) - (xr / 256) / 8 * 8).toNatClampNeg (FMo_difference (mr ((xr / 256) - (xr / 256) / 8 * 8).toNatClampNeg) (xr - xr / 256 * 256)).1, (FMo_difference (mr ((xr / 256) - (xr / 256) / 8 * 8).toNatClampNeg) (xr - xr / 256 * 256)).2.1, (FMo_difference (mr ((xr / 256) - (xr / 256) / 8 * 8).toNatClampNeg) (xr - xr / 256 * 256)).2.2.1, (FMo_difference (mr ((xr / 256) - (xr / 256) / 8 * 8).toNatClampNeg) (xr - xr / 256 * 256)).2.2.2.1, (FMo_difference (mr ((xr / 256) - (xr / 256) / 8 * 8).toNatClampNeg) (xr - xr / 256 * 256)).2.2.2.2)
set_option maxHeartbeats 4000000 in
set_option maxRecDepth 100000 in
theorem k_Mo_small (l : Launch) (D : va_G) (ad : Nat → Nat) (cI cS : ClassId) (xr : Int32) (mq : Int32) (mn : Int32) (me : Int32) (mo : Int32) (mt : Int32) (mx : Int32) (mp : Int32) (mz : Int32) (mu : Int32) (vn : Int32) (vz : Int32) (vc : Int32) (vv : Int32) (vp : Int32) (ve : Int32) (mK : Nat → Int32) (mA : Nat → Int32) (mB : Nat → Int32) (mC : Nat → Int32) (mf : Nat → Int32) (ml : Nat → Int32) (mc : Nat → Int32) (mL : Nat → Int32) (md : Nat → Int32) (mi : Nat → Int32) (mr : Nat → Int32) (mw : Nat → Int32) (hx0 : ¬ xr < 0) (bn : narrow .boolean (.int vn) = .int vn) (bz : narrow .boolean (.int vz) = .int vz) (bc : narrow .boolean (.int vc) = .int vc) : pq_VP l yMo_small (.code yMo_small cMo_small 6 none :: pq_ws) { frames := 2, cells := 0, slots := 0, locals := 43 } D cI cS [.ref (ad 17), .int xr] (wM ad cI cS mq mn me mo mt mx mp mz mu vn vz vc vv vp ve mK mA mB mC mf ml mc mL md mi mr mw) ((narrow .boolean (.int ((FMo_small xr vc vv mr).2.1)) = .int ((FMo_small xr vc vv mr).2.1)) ∧ (narrow .boolean (.int ((FMo_small xr vc vv mr).2.2.1)) = .int ((FMo_small xr vc vv mr).2.2.1)) ∧ (narrow .boolean (.int ((FMo_small xr vc vv mr).2.2.2.1)) = .int ((FMo_small xr vc vv mr).2.2.2.1))) (wM ad cI cS mq mn me mo mt mx mp mz mu ((FMo_small xr vc vv mr).2.1) ((FMo_small xr vc vv mr).2.2.1) ((FMo_small xr vc vv mr).2.2.2.1) ((FMo_small xr vc vv mr).2.2.2.2) vp ve mK mA mB mC mf ml mc mL md mi ((FMo_small xr vc vv mr).1) mw) := by
  intro sz
  refine Met.ofW (cc := cMo_small) (maxL := 6) (ret := none) (by decide) rfl ?_
  intro p e s m args below meth c s₁ B hml hv
  obtain ⟨rfl, hsz, hP, hD0, hE⟩ := hv
  have hx := B.exec
  have hb := B.bytes
  have hr := B.returns
  have hts := atoms_spec (ws := (.code yMo_small cMo_small 6 none :: pq_ws : List Cond)) B.pre
  have hw : ∀ w ∈ pq_ws, w.before _ s = true := fun w h => hts w (List.mem_cons_of_mem _ h)
  have hown : s.vm.findClass RMo = some m.cls := findClass_of_methodNamed B.named
  have hlocks := B.notSynchronized
  subst hsz
  have hD := hD0.self (sz := s.heap.size)
  have hA : ∀ q : Nat, s.heap.size ≤ q → va_A (wM ad cI cS mq mn me mo mt mx mp mz mu vn vz vc vv vp ve mK mA mB mC mf ml mc mL md mi mr mw) s.heap.size q := fun q h => Or.inr h
  have hS : va_S (va_A (wM ad cI cS mq mn me mo mt mx mp mz mu vn vz vc vv vp ve mK mA mB mC mf ml mc mL md mi mr mw) s.heap.size) s.heap s.heap [] := va_S.rf
  have hl := lv_entry ([.ref (ad 17), .int xr] : List Value) (n := 6) (Nat.le_of_ble_eq_true rfl)
  rw [lg_entry_eq]
  generalize (lg_sl ([.ref (ad 17), .int xr] : List Value) ++ List.replicate (6 - (lg_sl ([.ref (ad 17), .int xr] : List Value)).length) Slot.unset).toArray = ls at hl ⊢
  have hl : lv_has ls 6 [(0, .ref (ad 17)), (1, .int xr)] := hl
  refine lv_iload_n hx hb dMo_small_0 rfl (lv_at hl 1 rfl) ?_
  refine lv_sipush (v := 2048) hx hb dMo_small_1 (by first | rfl | decide) ?_
  refine lv_idiv hx hb dMo_small_4 (by decide) ?_
  refine lv_istore_n (lv' := [(2, .int (xr / 2048)), (0, .ref (ad 17)), (1, .int xr)]) hx hb dMo_small_5 rfl hl (by decide) rfl (fun ls hl => ?_)
  refine lv_iload_n hx hb dMo_small_6 rfl (lv_at hl 2 rfl) ?_
  refine lv_sipush (v := 256) hx hb dMo_small_7 (by first | rfl | decide) ?_
  refine lv_idiv hx hb dMo_small_10 (by decide) ?_
  refine lv_bipush (v := 8) hx hb dMo_small_11 (by first | rfl | decide) ?_
  refine lv_irem hx hb dMo_small_13 (by decide) ?_
  refine lv_istore_n (lv' := [(3, .int ((xr / 256) - (xr / 256) / 8 * 8)), (2, .int (xr / 2048)), (0, .ref (ad 17)), (1, .int xr)]) hx hb dMo_small_14 rfl hl (by decide) rfl (fun ls hl => ?_)
  refine lv_iload_n hx hb dMo_small_15 rfl (lv_at hl 3 rfl) ?_
  refine lv_sipush (v := 256) hx hb dMo_small_16 (by first | rfl | decide) ?_
  refine lv_irem hx hb dMo_small_19 (by decide) ?_
  refine lv_istore (lv' := [(4, .int (xr - xr / 256 * 256)), (3, .int ((xr / 256) - (xr / 256) / 8 * 8)), (2, .int (xr / 2048)), (0, .ref (ad 17)), (1, .int xr)]) hx hb dMo_small_20 hl (by decide) rfl (fun ls hl => ?_)
  refine lv_iload_n hx hb dMo_small_22 rfl (lv_at hl 2 rfl) ?_
  refine lv_if_ne (tgt := 35) hx hb dMo_small_23 (by decide) (fun h1 => ?_) (fun h1 => ?_)
  · refine lv_iload_n hx hb dMo_small_35 rfl (lv_at hl 2 rfl) ?_
    refine lv_iconst (v := 2) hx hb dMo_small_36 (by first | rfl | decide) ?_
    refine lv_icmp_ne (tgt := 55) hx hb dMo_small_37 (by decide) (fun h2 => ?_) (fun h2 => ?_)
    · refine lv_aload_n hx hb dMo_small_55 rfl (lv_at hl 3 rfl) ?_
      refine lv_aload_n hx hb dMo_small_56 rfl (lv_at hl 3 rfl) ?_
      refine va_get (D := D) (ci := 5) (v := .ref (ad 28)) (C := RMo) (T := TMo) (N := 27) hx hb hw pinMo hown hE.1 hP 0 rfl rfl 19 (by decide) (hw _ wd_213) (fun _ h9 => h9) rfl dMo_small_57 ?_
      refine lv_iload_n hx hb dMo_small_60 rfl (lv_at hl 1 rfl) ?_
      refine va_iald hx hb hE.1 hP 11 0 rfl rfl (pq_rem8 (pq_div0 (d := 256) hx0 (by decide))) dMo_small_61 ?_
      refine lv_iload hx hb dMo_small_62 (lv_at hl 0 rfl) ?_
      obtain ⟨g1, hg1⟩ : ∃ g9, FMo_difference (mr ((xr / 256) - (xr / 256) / 8 * 8).toNatClampNeg) (xr - xr / 256 * 256) = g9 := ⟨_, rfl⟩
      have cg1 := k_Mo_difference l D ad cI cS (mr ((xr / 256) - (xr / 256) / 8 * 8).toNatClampNeg) (xr - xr / 256 * 256) mq mn me mo mt mx mp mz mu vn vz vc vv vp ve mK mA mB mC mf ml mc mL md mi mr mw
      rw [hg1] at cg1
      refine pq_callip (fr := g1.1) (wc := (wM ad cI cS mq mn me mo mt mx mp mz mu vn vz vc vv vp ve mK mA mB mC mf ml mc mL md mi mr mw)) (wr := ([] : List Nat).filterMap (fun i => (wM ad cI cS mq mn me mo mt mx mp mz mu vn vz vc vv vp ve mK mA mB mC mf ml mc mL md mi mr mw)[i]?)) hP hD hS hA [0, 1, 2, 3, 4, 5, 6, 7, 8, 9, 10, 11, 12] [] rfl rfl (by decide) (by decide) (va_runV (own := RMo) (C := RMo) (As := [.int (mr ((xr / 256) - (xr / 256) / 8 * 8).toNatClampNeg), .int (xr - xr / 256 * 256)]) (rest := []) ⟨hx, hb, hml, hown, hw⟩ (cg1 s.heap.size) ⟨pq_cwB 2 hw wd_215 wd_186 wd_214 rfl rfl (by decide +kernel) ⟨Nat.le_of_ble_eq_true rfl, Nat.le_of_ble_eq_true rfl⟩, hw _ wd_216, hw _ wd_217⟩ (pq_preV (ci := 5) (C := RMo) (T := TMo) (N := 27) hE (hP.sub [0, 1, 2, 3, 4, 5, 6, 7, 8, 9, 10, 11, 12] rfl) (hD.sub [0, 1, 2, 3, 4, 5, 6, 7, 8, 9, 10, 11, 12] (by decide) rfl) rfl 0 rfl) rfl rfl hl.1 rfl (lv_room (Nat.le_of_ble_eq_true rfl)) dMo_small_64 ⟨Nat.zero_le _, Nat.zero_le _⟩) (fun hq9 H locs hP hD hS => ?_)
      obtain ⟨bn, bz, bc⟩ := hq9
      have hP : va_P D vwCl (wM ad cI cS mq mn me mo mt mx mp mz mu g1.2.1 g1.2.2.1 g1.2.2.2.1 g1.2.2.2.2 vp ve mK mA mB mC mf ml mc mL md mi mr mw) H := hP.sub [0, 1, 2, 3, 4, 5, 6, 7, 8, 9, 10, 11, 12] rfl
      have hD : va_D _ (wM ad cI cS mq mn me mo mt mx mp mz mu g1.2.1 g1.2.2.1 g1.2.2.2.1 g1.2.2.2.2 vp ve mK mA mB mC mf ml mc mL md mi mr mw) := hD.sub [0, 1, 2, 3, 4, 5, 6, 7, 8, 9, 10, 11, 12] (by decide) rfl
      refine lv_istore (lv' := [(5, .int g1.1), (4, .int (xr - xr / 256 * 256)), (3, .int ((xr / 256) - (xr / 256) / 8 * 8)), (2, .int (xr / 2048)), (0, .ref (ad 17)), (1, .int xr)]) hx hb dMo_small_67 hl (by decide) rfl (fun ls hl => ?_)
      refine lv_iload_n hx hb dMo_small_69 rfl (lv_at hl 3 rfl) ?_
      refine lv_iconst (v := 1) hx hb dMo_small_70 (by first | rfl | decide) ?_
      refine lv_icmp_eq (tgt := 82) hx hb dMo_small_71 (by decide) (fun h3 => ?_) (fun h3 => ?_)
      · have e9 : FMo_small xr vc vv mr = (mr, g1.2.1, g1.2.2.1, g1.2.2.2.1, g1.2.2.2.2) := by simp only [FMo_small, hg1, if_neg h1, if_neg h2, if_pos h3]
        have p9 : (narrow .boolean (.int g1.2.1) = .int g1.2.1) ∧ (narrow .boolean (.int g1.2.2.1) = .int g1.2.2.1) ∧ (narrow .boolean (.int g1.2.2.2.1) = .int g1.2.2.2.1) := ⟨by first | with_reducible assumption | exact pq_b0 | exact pq_b1 | assumption, by first | with_reducible assumption | exact pq_b0 | exact pq_b1 | assumption, by first | with_reducible assumption | exact pq_b0 | exact pq_b1 | assumption⟩
        exact W.vret hx hb hr (fun t ht hW => ⟨⟨(), rfl, by rw [e9]; exact p9, by rw [e9, ht]; exact hP, by rw [e9]; exact hD⟩, hS.F ht⟩) hS.2.2 dMo_small_82
      · refine lv_aload_n hx hb dMo_small_74 rfl (lv_at hl 4 rfl) ?_
        refine va_get (D := D) (ci := 5) (v := .ref (ad 28)) (C := RMo) (T := TMo) (N := 27) hx hb hw pinMo hown hE.1 hP 0 rfl rfl 19 (by decide) (hw _ wd_213) (fun _ h9 => h9) rfl dMo_small_75 ?_
        refine lv_iload_n hx hb dMo_small_78 rfl (lv_at hl 2 rfl) ?_
        refine lv_iload hx hb dMo_small_79 (lv_at hl 0 rfl) ?_
        refine va_iast hx hb hE.1 hP hD hS 11 0 rfl rfl (pq_rem8 (pq_div0 (d := 256) hx0 (by decide))) dMo_small_81 (fun H locs hP hD hS => ?_)
        have hP : va_P D vwCl (wM ad cI cS mq mn me mo mt mx mp mz mu g1.2.1 g1.2.2.1 g1.2.2.2.1 g1.2.2.2.2 vp ve mK mA mB mC mf ml mc mL md mi (upd mr ((xr / 256) - (xr / 256) / 8 * 8).toNatClampNeg g1.1) mw) H := hP
        have hD : va_D _ (wM ad cI cS mq mn me mo mt mx mp mz mu g1.2.1 g1.2.2.1 g1.2.2.2.1 g1.2.2.2.2 vp ve mK mA mB mC mf ml mc mL md mi (upd mr ((xr / 256) - (xr / 256) / 8 * 8).toNatClampNeg g1.1) mw) := hD
        have e9 : FMo_small xr vc vv mr = (upd mr ((xr / 256) - (xr / 256) / 8 * 8).toNatClampNeg g1.1, g1.2.1, g1.2.2.1, g1.2.2.2.1, g1.2.2.2.2) := by simp only [FMo_small, hg1, if_neg h1, if_neg h2, if_neg h3]
        have p9 : (narrow .boolean (.int g1.2.1) = .int g1.2.1) ∧ (narrow .boolean (.int g1.2.2.1) = .int g1.2.2.1) ∧ (narrow .boolean (.int g1.2.2.2.1) = .int g1.2.2.2.1) := ⟨by first | with_reducible assumption | exact pq_b0 | exact pq_b1 | assumption, by first | with_reducible assumption | exact pq_b0 | exact pq_b1 | assumption, by first | with_reducible assumption | exact pq_b0 | exact pq_b1 | assumption⟩
        exact W.vret hx hb hr (fun t ht hW => ⟨⟨(), rfl, by rw [e9]; exact p9, by rw [e9, ht]; exact hP, by rw [e9]; exact hD⟩, hS.F ht⟩) hS.2.2 dMo_small_82
    · refine lv_aload_n hx hb dMo_small_40 rfl (lv_at hl 3 rfl) ?_
      refine lv_aload_n hx hb dMo_small_41 rfl (lv_at hl 3 rfl) ?_
      refine va_get (D := D) (ci := 5) (v := .ref (ad 28)) (C := RMo) (T := TMo) (N := 27) hx hb hw pinMo hown hE.1 hP 0 rfl rfl 19 (by decide) (hw _ wd_213) (fun _ h9 => h9) rfl dMo_small_42 ?_
      refine lv_iload_n hx hb dMo_small_45 rfl (lv_at hl 1 rfl) ?_
      refine va_iald hx hb hE.1 hP 11 0 rfl rfl (pq_rem8 (pq_div0 (d := 256) hx0 (by decide))) dMo_small_46 ?_
      refine lv_iload hx hb dMo_small_47 (lv_at hl 0 rfl) ?_
      obtain ⟨g2, hg2⟩ : ∃ g9, FMo_sum (mr ((xr / 256) - (xr / 256) / 8 * 8).toNatClampNeg) (xr - xr / 256 * 256) = g9 := ⟨_, rfl⟩
      have cg2 := k_Mo_sum l D ad cI cS (mr ((xr / 256) - (xr / 256) / 8 * 8).toNatClampNeg) (xr - xr / 256 * 256) mq mn me mo mt mx mp mz mu vn vz vc vv vp ve mK mA mB mC mf ml mc mL md mi mr mw
      rw [hg2] at cg2
      refine pq_callip (fr := g2.1) (wc := (wM ad cI cS mq mn me mo mt mx mp mz mu vn vz vc vv vp ve mK mA mB mC mf ml mc mL md mi mr mw)) (wr := ([] : List Nat).filterMap (fun i => (wM ad cI cS mq mn me mo mt mx mp mz mu vn vz vc vv vp ve mK mA mB mC mf ml mc mL md mi mr mw)[i]?)) hP hD hS hA [0, 1, 2, 3, 4, 5, 6, 7, 8, 9, 10, 11, 12] [] rfl rfl (by decide) (by decide) (va_runV (own := RMo) (C := RMo) (As := [.int (mr ((xr / 256) - (xr / 256) / 8 * 8).toNatClampNeg), .int (xr - xr / 256 * 256)]) (rest := []) ⟨hx, hb, hml, hown, hw⟩ (cg2 s.heap.size) ⟨pq_cwB 2 hw wd_219 wd_186 wd_218 rfl rfl (by decide +kernel) ⟨Nat.le_of_ble_eq_true rfl, Nat.le_of_ble_eq_true rfl⟩, hw _ wd_220, hw _ wd_221⟩ (pq_preV (ci := 5) (C := RMo) (T := TMo) (N := 27) hE (hP.sub [0, 1, 2, 3, 4, 5, 6, 7, 8, 9, 10, 11, 12] rfl) (hD.sub [0, 1, 2, 3, 4, 5, 6, 7, 8, 9, 10, 11, 12] (by decide) rfl) rfl 0 rfl) rfl rfl hl.1 rfl (lv_room (Nat.le_of_ble_eq_true rfl)) dMo_small_49 ⟨Nat.zero_le _, Nat.zero_le _⟩) (fun hq9 H locs hP hD hS => ?_)
      obtain ⟨bn, bz, bc⟩ := hq9
      have hP : va_P D vwCl (wM ad cI cS mq mn me mo mt mx mp mz mu g2.2.1 g2.2.2.1 g2.2.2.2.1 g2.2.2.2.2 vp ve mK mA mB mC mf ml mc mL md mi mr mw) H := hP.sub [0, 1, 2, 3, 4, 5, 6, 7, 8, 9, 10, 11, 12] rfl
      have hD : va_D _ (wM ad cI cS mq mn me mo mt mx mp mz mu g2.2.1 g2.2.2.1 g2.2.2.2.1 g2.2.2.2.2 vp ve mK mA mB mC mf ml mc mL md mi mr mw) := hD.sub [0, 1, 2, 3, 4, 5, 6, 7, 8, 9, 10, 11, 12] (by decide) rfl
      refine lv_goto (tgt := 67) hx hb dMo_small_52 (by decide) ?_
      refine lv_istore (lv' := [(5, .int g2.1), (4, .int (xr - xr / 256 * 256)), (3, .int ((xr / 256) - (xr / 256) / 8 * 8)), (2, .int (xr / 2048)), (0, .ref (ad 17)), (1, .int xr)]) hx hb dMo_small_67 hl (by decide) rfl (fun ls hl => ?_)
      refine lv_iload_n hx hb dMo_small_69 rfl (lv_at hl 3 rfl) ?_
      refine lv_iconst (v := 1) hx hb dMo_small_70 (by first | rfl | decide) ?_
      refine lv_icmp_eq (tgt := 82) hx hb dMo_small_71 (by decide) (fun h4 => ?_) (fun h4 => ?_)
      · have e9 : FMo_small xr vc vv mr = (mr, g2.2.1, g2.2.2.1, g2.2.2.2.1, g2.2.2.2.2) := by simp only [FMo_small, hg2, if_neg h1, if_pos h2, if_pos h4]
        have p9 : (narrow .boolean (.int g2.2.1) = .int g2.2.1) ∧ (narrow .boolean (.int g2.2.2.1) = .int g2.2.2.1) ∧ (narrow .boolean (.int g2.2.2.2.1) = .int g2.2.2.2.1) := ⟨by first | with_reducible assumption | exact pq_b0 | exact pq_b1 | assumption, by first | with_reducible assumption | exact pq_b0 | exact pq_b1 | assumption, by first | with_reducible assumption | exact pq_b0 | exact pq_b1 | assumption⟩
        exact W.vret hx hb hr (fun t ht hW => ⟨⟨(), rfl, by rw [e9]; exact p9, by rw [e9, ht]; exact hP, by rw [e9]; exact hD⟩, hS.F ht⟩) hS.2.2 dMo_small_82
      · refine lv_aload_n hx hb dMo_small_74 rfl (lv_at hl 4 rfl) ?_
        refine va_get (D := D) (ci := 5) (v := .ref (ad 28)) (C := RMo) (T := TMo) (N := 27) hx hb hw pinMo hown hE.1 hP 0 rfl rfl 19 (by decide) (hw _ wd_213) (fun _ h9 => h9) rfl dMo_small_75 ?_
        refine lv_iload_n hx hb dMo_small_78 rfl (lv_at hl 2 rfl) ?_
        refine lv_iload hx hb dMo_small_79 (lv_at hl 0 rfl) ?_
        refine va_iast hx hb hE.1 hP hD hS 11 0 rfl rfl (pq_rem8 (pq_div0 (d := 256) hx0 (by decide))) dMo_small_81 (fun H locs hP hD hS => ?_)
        have hP : va_P D vwCl (wM ad cI cS mq mn me mo mt mx mp mz mu g2.2.1 g2.2.2.1 g2.2.2.2.1 g2.2.2.2.2 vp ve mK mA mB mC mf ml mc mL md mi (upd mr ((xr / 256) - (xr / 256) / 8 * 8).toNatClampNeg g2.1) mw) H := hP
        have hD : va_D _ (wM ad cI cS mq mn me mo mt mx mp mz mu g2.2.1 g2.2.2.1 g2.2.2.2.1 g2.2.2.2.2 vp ve mK mA mB mC mf ml mc mL md mi (upd mr ((xr / 256) - (xr / 256) / 8 * 8).toNatClampNeg g2.1) mw) := hD
        have e9 : FMo_small xr vc vv mr = (upd mr ((xr / 256) - (xr / 256) / 8 * 8).toNatClampNeg g2.1, g2.2.1, g2.2.2.1, g2.2.2.2.1, g2.2.2.2.2) := by simp only [FMo_small, hg2, if_neg h1, if_pos h2, if_neg h4]
        have p9 : (narrow .boolean (.int g2.2.1) = .int g2.2.1) ∧ (narrow .boolean (.int g2.2.2.1) = .int g2.2.2.1) ∧ (narrow .boolean (.int g2.2.2.2.1) = .int g2.2.2.2.1) := ⟨by first | with_reducible assumption | exact pq_b0 | exact pq_b1 | assumption, by first | with_reducible assumption | exact pq_b0 | exact pq_b1 | assumption, by first | with_reducible assumption | exact pq_b0 | exact pq_b1 | assumption⟩
        exact W.vret hx hb hr (fun t ht hW => ⟨⟨(), rfl, by rw [e9]; exact p9, by rw [e9, ht]; exact hP, by rw [e9]; exact hD⟩, hS.F ht⟩) hS.2.2 dMo_small_82
  · refine lv_aload_n hx hb dMo_small_26 rfl (lv_at hl 3 rfl) ?_
    refine lv_iload hx hb dMo_small_27 (lv_at hl 0 rfl) ?_
    obtain ⟨g3, hg3⟩ : ∃ g9, FMo_result (xr - xr / 256 * 256) = g9 := ⟨_, rfl⟩
    have cg3 := k_Mo_result l D ad cI cS (xr - xr / 256 * 256) mq mn me mo mt mx mp mz mu vn vz vc vv vp ve mK mA mB mC mf ml mc mL md mi mr mw
    rw [hg3] at cg3
    refine pq_callip (fr := g3.1) (wc := (wM ad cI cS mq mn me mo mt mx mp mz mu vn vz vc vv vp ve mK mA mB mC mf ml mc mL md mi mr mw)) (wr := ([] : List Nat).filterMap (fun i => (wM ad cI cS mq mn me mo mt mx mp mz mu vn vz vc vv vp ve mK mA mB mC mf ml mc mL md mi mr mw)[i]?)) hP hD hS hA [0, 1, 2, 3, 4, 5, 6, 7, 8, 9, 10, 11, 12] [] rfl rfl (by decide) (by decide) (va_runV (own := RMo) (C := RMo) (As := [.int (xr - xr / 256 * 256)]) (rest := []) ⟨hx, hb, hml, hown, hw⟩ (cg3 s.heap.size) ⟨pq_cwB 1 hw wd_209 wd_186 wd_208 rfl rfl (by decide +kernel) ⟨Nat.le_of_ble_eq_true rfl, Nat.le_of_ble_eq_true rfl⟩, hw _ wd_210, hw _ wd_211⟩ (pq_preV (ci := 5) (C := RMo) (T := TMo) (N := 27) hE (hP.sub [0, 1, 2, 3, 4, 5, 6, 7, 8, 9, 10, 11, 12] rfl) (hD.sub [0, 1, 2, 3, 4, 5, 6, 7, 8, 9, 10, 11, 12] (by decide) rfl) rfl 0 rfl) rfl rfl hl.1 rfl (lv_room (Nat.le_of_ble_eq_true rfl)) dMo_small_29 ⟨Nat.zero_le _, Nat.zero_le _⟩) (fun hq9 H locs hP hD hS => ?_)
    obtain ⟨bn, bz⟩ := hq9
    have hP : va_P D vwCl (wM ad cI cS mq mn me mo mt mx mp mz mu g3.2.1 g3.2.2 vc vv vp ve mK mA mB mC mf ml mc mL md mi mr mw) H := hP.sub [0, 1, 2, 3, 4, 5, 6, 7, 8, 9, 10, 11, 12] rfl
    have hD : va_D _ (wM ad cI cS mq mn me mo mt mx mp mz mu g3.2.1 g3.2.2 vc vv vp ve mK mA mB mC mf ml mc mL md mi mr mw) := hD.sub [0, 1, 2, 3, 4, 5, 6, 7, 8, 9, 10, 11, 12] (by decide) rfl
    refine lv_goto (tgt := 67) hx hb dMo_small_32 (by decide) ?_
    refine lv_istore (lv' := [(5, .int g3.1), (4, .int (xr - xr / 256 * 256)), (3, .int ((xr / 256) - (xr / 256) / 8 * 8)), (2, .int (xr / 2048)), (0, .ref (ad 17)), (1, .int xr)]) hx hb dMo_small_67 hl (by decide) rfl (fun ls hl => ?_)
    refine lv_iload_n hx hb dMo_small_69 rfl (lv_at hl 3 rfl) ?_
    refine lv_iconst (v := 1) hx hb dMo_small_70 (by first | rfl | decide) ?_
    refine lv_icmp_eq (tgt := 82) hx hb dMo_small_71 (by decide) (fun h5 => ?_) (fun h5 => ?_)
    · have e9 : FMo_small xr vc vv mr = (mr, g3.2.1, g3.2.2, vc, vv) := by simp only [FMo_small, hg3, if_pos h1, if_pos h5]
      have p9 : (narrow .boolean (.int g3.2.1) = .int g3.2.1) ∧ (narrow .boolean (.int g3.2.2) = .int g3.2.2) ∧ (narrow .boolean (.int vc) = .int vc) := ⟨by first | with_reducible assumption | exact pq_b0 | exact pq_b1 | assumption, by first | with_reducible assumption | exact pq_b0 | exact pq_b1 | assumption, by first | with_reducible assumption | exact pq_b0 | exact pq_b1 | assumption⟩
      exact W.vret hx hb hr (fun t ht hW => ⟨⟨(), rfl, by rw [e9]; exact p9, by rw [e9, ht]; exact hP, by rw [e9]; exact hD⟩, hS.F ht⟩) hS.2.2 dMo_small_82
    · refine lv_aload_n hx hb dMo_small_74 rfl (lv_at hl 4 rfl) ?_
      refine va_get (D := D) (ci := 5) (v := .ref (ad 28)) (C := RMo) (T := TMo) (N := 27) hx hb hw pinMo hown hE.1 hP 0 rfl rfl 19 (by decide) (hw _ wd_213) (fun _ h9 => h9) rfl dMo_small_75 ?_
      refine lv_iload_n hx hb dMo_small_78 rfl (lv_at hl 2 rfl) ?_
      refine lv_iload hx hb dMo_small_79 (lv_at hl 0 rfl) ?_
      refine va_iast hx hb hE.1 hP hD hS 11 0 rfl rfl (pq_rem8 (pq_div0 (d := 256) hx0 (by decide))) dMo_small_81 (fun H locs hP hD hS => ?_)
      have hP : va_P D vwCl (wM ad cI cS mq mn me mo mt mx mp mz mu g3.2.1 g3.2.2 vc vv vp ve mK mA mB mC mf ml mc mL md mi (upd mr ((xr / 256) - (xr / 256) / 8 * 8).toNatClampNeg g3.1) mw) H := hP
      have hD : va_D _ (wM ad cI cS mq mn me mo mt mx mp mz mu g3.2.1 g3.2.2 vc vv vp ve mK mA mB mC mf ml mc mL md mi (upd mr ((xr / 256) - (xr / 256) / 8 * 8).toNatClampNeg g3.1) mw) := hD
      have e9 : FMo_small xr vc vv mr = (upd mr ((xr / 256) - (xr / 256) / 8 * 8).toNatClampNeg g3.1, g3.2.1, g3.2.2, vc, vv) := by simp only [FMo_small, hg3, if_pos h1, if_neg h5]
      have p9 : (narrow .boolean (.int g3.2.1) = .int g3.2.1) ∧ (narrow .boolean (.int g3.2.2) = .int g3.2.2) ∧ (narrow .boolean (.int vc) = .int vc) := ⟨by first | with_reducible assumption | exact pq_b0 | exact pq_b1 | assumption, by first | with_reducible assumption | exact pq_b0 | exact pq_b1 | assumption, by first | with_reducible assumption | exact pq_b0 | exact pq_b1 | assumption⟩
      exact W.vret hx hb hr (fun t ht hW => ⟨⟨(), rfl, by rw [e9]; exact p9, by rw [e9, ht]; exact hP, by rw [e9]; exact hD⟩, hS.F ht⟩) hS.2.2 dMo_small_82
def FMo_deed (xr : Int32) (vc : Int32) (vv : Int32) (mr : Nat → Int32) : (Nat → Int32) × Int32 × Int32 × Int32 × Int32 := if (xr / 64) = 0 then if (xr / 64) = 10 then (mr, (FMo_difference (mr (xr - xr / 8 * 8).toNatClampNeg) (mr ((xr / 8) - (xr / 8) / 8 * 8).toNatClampNeg)).2.1, (FMo_difference (mr (xr - xr / 8 * 8).toNatClampNeg) (mr ((xr / 8) - (xr / 8) / 8 * 8).toNatClampNeg)).2.2.1, (FMo_difference (mr (xr - xr / 8 * 8).toNatClampNeg) (mr ((xr / 8) - (xr / 8) / 8 * 8).toNatClampNeg)).2.2.2.1, (FMo_difference (mr (xr - xr / 8 * 8).toNatClampNeg) (mr ((xr / 8) - (xr / 8) / 8 * 8).toNatClampNeg)).2.2.2.2) else (upd mr (xr - xr / 8 * 8).toNatClampNeg (FMo_result ((mr (xr - xr / 8 * 8).toNatClampNeg) &&& (mr ((xr / 8) - (xr / 8) / 8 * 8).toNatClampNeg))).1, (FMo_result ((mr (xr - xr / 8 * 8).toNatClampNeg) &&& (mr ((xr / 8) - (xr / 8) / 8 * 8).toNatClampNeg))).2.1, (FMo_result ((mr (xr - xr / 8 * 8).toNatClampNeg) &&& (mr ((xr / 8) - (xr / 8) / 8 * 8).toNatClampNeg))).2.2, vc, vv) else if (xr / 64) = 1 then if (xr / 64) = 10 then (mr, (FMo_difference (mr (xr - xr / 8 * 8).toNatClampNeg) (mr ((xr / 8) - (xr / 8) / 8 * 8).toNatClampNeg)).2.1, (FMo_difference (mr (xr - xr / 8 * 8).toNatClampNeg) (mr ((xr / 8) - (xr / 8) / 8 * 8).toNatClampNeg)).2.2.1, (FMo_difference (mr (xr - xr / 8 * 8).toNatClampNeg) (mr ((xr / 8) - (xr / 8) / 8 * 8).toNatClampNeg)).2.2.2.1, (FMo_difference (mr (xr - xr / 8 * 8).toNatClampNeg) (mr ((xr / 8) - (xr / 8) / 8 * 8).toNatClampNeg)).2.2.2.2) else (upd mr (xr - xr / 8 * 8).toNatClampNeg (FMo_result ((mr (xr - xr / 8 * 8).toNatClampNeg) ^^^ (mr ((xr / 8) - (xr / 8) / 8 * 8).toNatClampNeg))).1, (FMo_result ((mr (xr - xr / 8 * 8).toNatClampNeg) ^^^ (mr ((xr / 8) - (xr / 8) / 8 * 8).toNatClampNeg))).2.1, (FMo_result ((mr (xr - xr / 8 * 8).toNatClampNeg) ^^^ (mr ((xr / 8) - (xr / 8) / 8 * 8).toNatClampNeg))).2.2, vc, vv) else if (xr / 64) = 12 then if (xr / 64) = 10 then (mr, (FMo_difference (mr (xr - xr / 8 * 8).toNatClampNeg) (mr ((xr / 8) - (xr / 8) / 8 * 8).toNatClampNeg)).2.1, (FMo_difference (mr (xr - xr / 8 * 8).toNatClampNeg) (mr ((xr / 8) - (xr / 8) / 8 * 8).toNatClampNeg)).2.2.1, (FMo_difference (mr (xr - xr / 8 * 8).toNatClampNeg) (mr ((xr / 8) - (xr / 8) / 8 * 8).toNatClampNeg)).2.2.2.1, (FMo_difference (mr (xr - xr / 8 * 8).toNatClampNeg) (mr ((xr / 8) - (xr / 8) / 8 * 8).toNatClampNeg)).2.2.2.2) else (upd mr (xr - xr / 8 * 8).toNatClampNeg (FMo_result ((mr (xr - xr / 8 * 8).toNatClampNeg) ||| (mr ((xr / 8) - (xr / 8) / 8 * 8).toNatClampNeg))).1, (FMo_result ((mr (xr - xr / 8 * 8).toNatClampNeg) ||| (mr ((xr / 8) - (xr / 8) / 8 * 8).toNatClampNeg))).2.1, (FMo_result ((mr (xr - xr / 8 * 8).toNatClampNeg) ||| (mr ((xr / 8) - (xr / 8) / 8 * 8).toNatClampNeg))).2.2, vc, vv) else if (xr / 64) = 13 then if (xr / 64) = 10 then (mr, (FMo_difference (mr (xr - xr / 8 * 8).toNatClampNeg) (mr ((xr / 8) - (xr / 8) / 8 * 8).toNatClampNeg)).2.1, (FMo_difference (mr (xr - xr / 8 * 8).toNatClampNeg) (mr ((xr / 8) - (xr / 8) / 8 * 8).toNatClampNeg)).2.2.1, (FMo_difference (mr (xr - xr / 8 * 8).toNatClampNeg) (mr ((xr / 8) - (xr / 8) / 8 * 8).toNatClampNeg)).2.2.2.1, (FMo_difference (mr (xr - xr / 8 * 8).toNatClampNeg) (mr ((xr / 8) - (xr / 8) / 8 * 8).toNatClampNeg)).2.2.2.2) else (upd mr (xr - xr / 8 * 8).toNatClampNeg (FMo_result ((mr (xr - xr / 8 * 8).toNatClampNeg) * (mr ((xr / 8) - (xr / 8) / 8 * 8).toNatClampNeg))).1, (FMo_result ((mr (xr - xr / 8 * 8).toNatClampNeg) * (mr ((xr / 8) - (xr / 8) / 8 * 8).toNatClampNeg))).2.1, (FMo_result ((mr (xr - xr / 8 * 8).toNatClampNeg) * (mr ((xr / 8) - (xr / 8) / 8 * 8).toNatClampNeg))).2.2, vc, vv) else if (xr / 64) = 14 then if (xr / 64) = 10 then (mr, (FMo_difference (mr (xr - xr / 8 * 8).toNatClampNeg) (mr ((xr / 8) - (xr / 8) / 8 * 8).toNatClampNeg)).2.1, (FMo_difference (mr (xr - xr / 8 * 8).toNatClampNeg) (mr ((xr / 8) - (xr / 8) / 8 * 8).toNatClampNeg)).2.2.1, (FMo_difference (mr (xr - xr / 8 * 8).toNatClampNeg) (mr ((xr / 8) - (xr / 8) / 8 * 8).toNatClampNeg)).2.2.2.1, (FMo_difference (mr (xr - xr / 8 * 8).toNatClampNeg) (mr ((xr / 8) - (xr / 8) / 8 * 8).toNatClampNeg)).2.2.2.2) else (upd mr (xr - xr / 8 * 8).toNatClampNeg (FMo_result ((mr (xr - xr / 8 * 8).toNatClampNeg) - ((mr (xr - xr / 8 * 8).toNatClampNeg) &&& (mr ((xr / 8) - (xr / 8) / 8 * 8).toNatClampNeg)))).1, (FMo_result ((mr (xr - xr / 8 * 8).toNatClampNeg) - ((mr (xr - xr / 8 * 8).toNatClampNeg) &&& (mr ((xr / 8) - (xr / 8) / 8 * 8).toNatClampNeg)))).2.1, (FMo_result ((mr (xr - xr / 8 * 8).toNatClampNeg) - ((mr (xr - xr / 8 * 8).toNatClampNeg) &&& (mr ((xr / 8) - (xr / 8) / 8 * 8).toNatClampNeg)))).2.2, vc, vv) else if (xr / 64) = 10 then (mr, (FMo_difference (mr (xr - xr / 8 * 8).toNatClampNeg) (mr ((xr / 8) - (xr / 8) / 8 * 8).toNatClampNeg)).2.1, (FMo_difference (mr (xr - xr / 8 * 8).toNatClampNeg) (mr ((xr / 8) - (xr / 8) / 8 * 8).toNatClampNeg)).2.2.1, (FMo_difference (mr (xr - xr / 8 * 8).toNatClampNeg) (mr ((xr / 8) - (xr / 8) / 8 * 8).toNatClampNeg)).2.2.2.1, (FMo_difference (mr (xr - xr / 8 * 8).toNatClampNeg) (mr ((xr / 8) - (xr / 8) / 8 * 8).toNatClampNeg)).2.2.2.2) else (upd mr (xr - xr / 8 * 8).toNatClampNeg (FMo_result ((-1) - (mr ((xr / 8) - (xr / 8) / 8 * 8).toNatClampNeg))).1, (FMo_result ((-1) - (mr ((xr / 8) - (xr / 8) / 8 * 8).toNatClampNeg))).2.1, (FMo_result ((-1) - (mr ((xr / 8) - (xr / 8) / 8 * 8).toNatClampNeg))).2.2, vc, vv)
set_option maxHeartbeats 4000000 in
set_option maxRecDepth 100000 in
theorem k_Mo_deed (l : Launch) (D : va_G) (ad : Nat → Nat) (cI cS : ClassId) (xr : Int32) (mq : Int32) (mn : Int32) (me : Int32) (mo : Int32) (mt : Int32) (mx : Int32) (mp : Int32) (mz : Int32) (mu : Int32) (vn : Int32) (vz : Int32) (vc : Int32) (vv : Int32) (vp : Int32) (ve : Int32) (mK : Nat → Int32) (mA : Nat → Int32) (mB : Nat → Int32) (mC : Nat → Int32) (mf : Nat → Int32) (ml : Nat → Int32) (mc : Nat → Int32) (mL : Nat → Int32) (md : Nat → Int32) (mi : Nat → Int32) (mr : Nat → Int32) (mw : Nat → Int32) (hx0 : ¬ xr < 0) (bn : narrow .boolean (.int vn) = .int vn) (bz : narrow .boolean (.int vz) = .int vz) (bc : narrow .boolean (.int vc) = .int vc) : pq_VP l yMo_deed (.code yMo_deed cMo_deed 7 none :: pq_ws) { frames := 2, cells := 0, slots := 0, locals := 43 } D cI cS [.ref (ad 17), .int xr] (wM ad cI cS mq mn me mo mt mx mp mz mu vn vz vc vv vp ve mK mA mB mC mf ml mc mL md mi mr mw) ((narrow .boolean (.int ((FMo_deed xr vc vv mr).2.1)) = .int ((FMo_deed xr vc vv mr).2.1)) ∧ (narrow .boolean (.int ((FMo_deed xr vc vv mr).2.2.1)) = .int ((FMo_deed xr vc vv mr).2.2.1)) ∧ (narrow .boolean (.int ((FMo_deed xr vc vv mr).2.2.2.1)) = .int ((FMo_deed xr vc vv mr).2.2.2.1))) (wM ad cI cS mq mn me mo mt mx mp mz mu ((FMo_deed xr vc vv mr).2.1) ((FMo_deed xr vc vv mr).2.2.1) ((FMo_deed xr vc vv mr).2.2.2.1) ((FMo_deed xr vc vv mr).2.2.2.2) vp ve mK mA mB mC mf ml mc mL md mi ((FMo_deed xr vc vv mr).1) mw) := by
  intro sz
  refine Met.ofW (cc := cMo_deed) (maxL := 7) (ret := none) (by decide) rfl ?_
  intro p e s m args below meth c s₁ B hml hv
  obtain ⟨rfl, hsz, hP, hD0, hE⟩ := hv
  have hx := B.exec
  have hb := B.bytes
  have hr := B.returns
  have hts := atoms_spec (ws := (.code yMo_deed cMo_deed 7 none :: pq_ws : List Cond)) B.pre
  have hw : ∀ w ∈ pq_ws, w.before _ s = true := fun w h => hts w (List.mem_cons_of_mem _ h)
  have hown : s.vm.findClass RMo = some m.cls := findClass_of_methodNamed B.named
  have hlocks := B.notSynchronized
  subst hsz
  have hD := hD0.self (sz := s.heap.size)
  have hA : ∀ q : Nat, s.heap.size ≤ q → va_A (wM ad cI cS mq mn me mo mt mx mp mz mu vn vz vc vv vp ve mK mA mB mC mf ml mc mL md mi mr mw) s.heap.size q := fun q h => Or.inr h
  have hS : va_S (va_A (wM ad cI cS mq mn me mo mt mx mp mz mu vn vz vc vv vp ve mK mA mB mC mf ml mc mL md mi mr mw) s.heap.size) s.heap s.heap [] := va_S.rf
  have hl := lv_entry ([.ref (ad 17), .int xr] : List Value) (n := 7) (Nat.le_of_ble_eq_true rfl)
  rw [lg_entry_eq]
  generalize (lg_sl ([.ref (ad 17), .int xr] : List Value) ++ List.replicate (7 - (lg_sl ([.ref (ad 17), .int xr] : List Value)).length) Slot.unset).toArray = ls at hl ⊢
  have hl : lv_has ls 7 [(0, .ref (ad 17)), (1, .int xr)] := hl
  refine lv_iload_n hx hb dMo_deed_0 rfl (lv_at hl 1 rfl) ?_
  refine lv_bipush (v := 8) hx hb dMo_deed_1 (by first | rfl | decide) ?_
  refine lv_irem hx hb dMo_deed_3 (by decide) ?_
  refine lv_istore_n (lv' := [(2, .int (xr - xr / 8 * 8)), (0, .ref (ad 17)), (1, .int xr)]) hx hb dMo_deed_4 rfl hl (by decide) rfl (fun ls hl => ?_)
  refine lv_aload_n hx hb dMo_deed_5 rfl (lv_at hl 1 rfl) ?_
  refine va_get (D := D) (ci := 5) (v := .ref (ad 28)) (C := RMo) (T := TMo) (N := 27) hx hb hw pinMo hown hE.1 hP 0 rfl rfl 19 (by decide) (hw _ wd_213) (fun _ h9 => h9) rfl dMo_deed_6 ?_
  refine lv_iload_n hx hb dMo_deed_9 rfl (lv_at hl 0 rfl) ?_
  refine va_iald hx hb hE.1 hP 11 0 rfl rfl (pq_rem8 hx0) dMo_deed_10 ?_
  refine lv_istore_n (lv' := [(3, .int (mr (xr - xr / 8 * 8).toNatClampNeg)), (2, .int (xr - xr / 8 * 8)), (0, .ref (ad 17)), (1, .int xr)]) hx hb dMo_deed_11 rfl hl (by decide) rfl (fun ls hl => ?_)
  refine lv_aload_n hx hb dMo_deed_12 rfl (lv_at hl 2 rfl) ?_
  refine va_get (D := D) (ci := 5) (v := .ref (ad 28)) (C := RMo) (T := TMo) (N := 27) hx hb hw pinMo hown hE.1 hP 0 rfl rfl 19 (by decide) (hw _ wd_213) (fun _ h9 => h9) rfl dMo_deed_13 ?_
  refine lv_iload_n hx hb dMo_deed_16 rfl (lv_at hl 3 rfl) ?_
  refine lv_bipush (v := 8) hx hb dMo_deed_17 (by first | rfl | decide) ?_
  refine lv_idiv hx hb dMo_deed_19 (by decide) ?_
  refine lv_bipush (v := 8) hx hb dMo_deed_20 (by first | rfl | decide) ?_
  refine lv_irem hx hb dMo_deed_22 (by decide) ?_
  refine va_iald hx hb hE.1 hP 11 0 rfl rfl (pq_rem8 (pq_div0 (d := 8) hx0 (by decide))) dMo_deed_23 ?_
  refine lv_istore (lv' := [(4, .int (mr ((xr / 8) - (xr / 8) / 8 * 8).toNatClampNeg)), (3, .int (mr (xr - xr / 8 * 8).toNatClampNeg)), (2, .int (xr - xr / 8 * 8)), (0, .ref (ad 17)), (1, .int xr)]) hx hb dMo_deed_24 hl (by decide) rfl (fun ls hl => ?_)
  refine lv_iload_n hx hb dMo_deed_26 rfl (lv_at hl 4 rfl) ?_
  refine lv_bipush (v := 64) hx hb dMo_deed_27 (by first | rfl | decide) ?_
  refine lv_idiv hx hb dMo_deed_29 (by decide) ?_
  refine lv_istore (lv' := [(5, .int (xr / 64)), (4, .int (mr ((xr / 8) - (xr / 8) / 8 * 8).toNatClampNeg)), (3, .int (mr (xr - xr / 8 * 8).toNatClampNeg)), (2, .int (xr - xr / 8 * 8)), (0, .ref (ad 17)), (1, .int xr)]) hx hb dMo_deed_30 hl (by decide) rfl (fun ls hl => ?_)
  refine lv_iload hx hb dMo_deed_32 (lv_at hl 0 rfl) ?_
  refine lv_if_ne (tgt := 44) hx hb dMo_deed_34 (by decide) (fun h1 => ?_) (fun h1 => ?_)
  · refine lv_iload hx hb dMo_deed_44 (lv_at hl 0 rfl) ?_
    refine lv_iconst (v := 1) hx hb dMo_deed_46 (by first | rfl | decide) ?_
    refine lv_icmp_ne (tgt := 57) hx hb dMo_deed_47 (by decide) (fun h2 => ?_) (fun h2 => ?_)
    · refine lv_iload hx hb dMo_deed_57 (lv_at hl 0 rfl) ?_
      refine lv_bipush (v := 12) hx hb dMo_deed_59 (by first | rfl | decide) ?_
      refine lv_icmp_ne (tgt := 71) hx hb dMo_deed_61 (by decide) (fun h3 => ?_) (fun h3 => ?_)
      · refine lv_iload hx hb dMo_deed_71 (lv_at hl 0 rfl) ?_
        refine lv_bipush (v := 13) hx hb dMo_deed_73 (by first | rfl | decide) ?_
        refine lv_icmp_ne (tgt := 85) hx hb dMo_deed_75 (by decide) (fun h4 => ?_) (fun h4 => ?_)
        · refine lv_iload hx hb dMo_deed_85 (lv_at hl 0 rfl) ?_
          refine lv_bipush (v := 14) hx hb dMo_deed_87 (by first | rfl | decide) ?_
          refine lv_icmp_ne (tgt := 101) hx hb dMo_deed_89 (by decide) (fun h5 => ?_) (fun h5 => ?_)
          · refine lv_iconst (v := (-1)) hx hb dMo_deed_101 (by first | rfl | decide) ?_
            refine lv_iload hx hb dMo_deed_102 (lv_at hl 1 rfl) ?_
            refine lv_isub hx hb dMo_deed_104 ?_
            refine lv_istore (lv' := [(6, .int ((-1) - (mr ((xr / 8) - (xr / 8) / 8 * 8).toNatClampNeg))), (5, .int (xr / 64)), (4, .int (mr ((xr / 8) - (xr / 8) / 8 * 8).toNatClampNeg)), (3, .int (mr (xr - xr / 8 * 8).toNatClampNeg)), (2, .int (xr - xr / 8 * 8)), (0, .ref (ad 17)), (1, .int xr)]) hx hb dMo_deed_105 hl (by decide) rfl (fun ls hl => ?_)
            refine lv_iload hx hb dMo_deed_107 (lv_at hl 1 rfl) ?_
            refine lv_bipush (v := 10) hx hb dMo_deed_109 (by first | rfl | decide) ?_
            refine lv_icmp_ne (tgt := 125) hx hb dMo_deed_111 (by decide) (fun h6 => ?_) (fun h6 => ?_)
            · refine lv_aload_n hx hb dMo_deed_125 rfl (lv_at hl 5 rfl) ?_
              refine va_get (D := D) (ci := 5) (v := .ref (ad 28)) (C := RMo) (T := TMo) (N := 27) hx hb hw pinMo hown hE.1 hP 0 rfl rfl 19 (by decide) (hw _ wd_213) (fun _ h9 => h9) rfl dMo_deed_126 ?_
              refine lv_iload_n hx hb dMo_deed_129 rfl (lv_at hl 4 rfl) ?_
              refine lv_aload_n hx hb dMo_deed_130 rfl (lv_at hl 5 rfl) ?_
              refine lv_iload hx hb dMo_deed_131 (lv_at hl 0 rfl) ?_
              obtain ⟨g1, hg1⟩ : ∃ g9, FMo_result ((-1) - (mr ((xr / 8) - (xr / 8) / 8 * 8).toNatClampNeg)) = g9 := ⟨_, rfl⟩
              have cg1 := k_Mo_result l D ad cI cS ((-1) - (mr ((xr / 8) - (xr / 8) / 8 * 8).toNatClampNeg)) mq mn me mo mt mx mp mz mu vn vz vc vv vp ve mK mA mB mC mf ml mc mL md mi mr mw
              rw [hg1] at cg1
              refine pq_callip (fr := g1.1) (wc := (wM ad cI cS mq mn me mo mt mx mp mz mu vn vz vc vv vp ve mK mA mB mC mf ml mc mL md mi mr mw)) (wr := ([] : List Nat).filterMap (fun i => (wM ad cI cS mq mn me mo mt mx mp mz mu vn vz vc vv vp ve mK mA mB mC mf ml mc mL md mi mr mw)[i]?)) hP hD hS hA [0, 1, 2, 3, 4, 5, 6, 7, 8, 9, 10, 11, 12] [] rfl rfl (by decide) (by decide) (va_runV (own := RMo) (C := RMo) (As := [.int ((-1) - (mr ((xr / 8) - (xr / 8) / 8 * 8).toNatClampNeg))]) (rest := [.int (xr - xr / 8 * 8), .ref (ad 28)]) ⟨hx, hb, hml, hown, hw⟩ (cg1 s.heap.size) ⟨pq_cwB 1 hw wd_209 wd_186 wd_208 rfl rfl (by decide +kernel) ⟨Nat.le_of_ble_eq_true rfl, Nat.le_of_ble_eq_true rfl⟩, hw _ wd_210, hw _ wd_211⟩ (pq_preV (ci := 5) (C := RMo) (T := TMo) (N := 27) hE (hP.sub [0, 1, 2, 3, 4, 5, 6, 7, 8, 9, 10, 11, 12] rfl) (hD.sub [0, 1, 2, 3, 4, 5, 6, 7, 8, 9, 10, 11, 12] (by decide) rfl) rfl 0 rfl) rfl rfl hl.1 rfl (lv_room (Nat.le_of_ble_eq_true rfl)) dMo_deed_133 ⟨Nat.zero_le _, Nat.zero_le _⟩) (fun hq9 H locs hP hD hS => ?_)
              obtain ⟨bn, bz⟩ := hq9
              have hP : va_P D vwCl (wM ad cI cS mq mn me mo mt mx mp mz mu g1.2.1 g1.2.2 vc vv vp ve mK mA mB mC mf ml mc mL md mi mr mw) H := hP.sub [0, 1, 2, 3, 4, 5, 6, 7, 8, 9, 10, 11, 12] rfl
              have hD : va_D _ (wM ad cI cS mq mn me mo mt mx mp mz mu g1.2.1 g1.2.2 vc vv vp ve mK mA mB mC mf ml mc mL md mi mr mw) := hD.sub [0, 1, 2, 3, 4, 5, 6, 7, 8, 9, 10, 11, 12] (by decide) rfl
              refine va_iast hx hb hE.1 hP hD hS 11 0 rfl rfl (pq_rem8 hx0) dMo_deed_136 (fun H locs hP hD hS => ?_)
              have hP : va_P D vwCl (wM ad cI cS mq mn me mo mt mx mp mz mu g1.2.1 g1.2.2 vc vv vp ve mK mA mB mC mf ml mc mL md mi (upd mr (xr - xr / 8 * 8).toNatClampNeg g1.1) mw) H := hP
              have hD : va_D _ (wM ad cI cS mq mn me mo mt mx mp mz mu g1.2.1 g1.2.2 vc vv vp ve mK mA mB mC mf ml mc mL md mi (upd mr (xr - xr / 8 * 8).toNatClampNeg g1.1) mw) := hD
              have e9 : FMo_deed xr vc vv mr = (upd mr (xr - xr / 8 * 8).toNatClampNeg g1.1, g1.2.1, g1.2.2, vc, vv) := by simp only [FMo_deed, hg1, if_neg h1, if_neg h2, if_neg h3, if_neg h4, if_neg h5, if_neg h6]
              have p9 : (narrow .boolean (.int g1.2.1) = .int g1.2.1) ∧ (narrow .boolean (.int g1.2.2) = .int g1.2.2) ∧ (narrow .boolean (.int vc) = .int vc) := ⟨by first | with_reducible assumption | exact pq_b0 | exact pq_b1 | assumption, by first | with_reducible assumption | exact pq_b0 | exact pq_b1 | assumption, by first | with_reducible assumption | exact pq_b0 | exact pq_b1 | assumption⟩
              exact W.vret hx hb hr (fun t ht hW => ⟨⟨(), rfl, by rw [e9]; exact p9, by rw [e9, ht]; exact hP, by rw [e9]; exact hD⟩, hS.F ht⟩) hS.2.2 dMo_deed_137
            · refine lv_aload_n hx hb dMo_deed_114 rfl (lv_at hl 5 rfl) ?_
              refine lv_iload_n hx hb dMo_deed_115 rfl (lv_at hl 3 rfl) ?_
              refine lv_iload hx hb dMo_deed_116 (lv_at hl 2 rfl) ?_
              obtain ⟨g2, hg2⟩ : ∃ g9, FMo_difference (mr (xr - xr / 8 * 8).toNatClampNeg) (mr ((xr / 8) - (xr / 8) / 8 * 8).toNatClampNeg) = g9 := ⟨_, rfl⟩
              have cg2 := k_Mo_difference l D ad cI cS (mr (xr - xr / 8 * 8).toNatClampNeg) (mr ((xr / 8) - (xr / 8) / 8 * 8).toNatClampNeg) mq mn me mo mt mx mp mz mu vn vz vc vv vp ve mK mA mB mC mf ml mc mL md mi mr mw
              rw [hg2] at cg2
              refine pq_callip (fr := g2.1) (wc := (wM ad cI cS mq mn me mo mt mx mp mz mu vn vz vc vv vp ve mK mA mB mC mf ml mc mL md mi mr mw)) (wr := ([] : List Nat).filterMap (fun i => (wM ad cI cS mq mn me mo mt mx mp mz mu vn vz vc vv vp ve mK mA mB mC mf ml mc mL md mi mr mw)[i]?)) hP hD hS hA [0, 1, 2, 3, 4, 5, 6, 7, 8, 9, 10, 11, 12] [] rfl rfl (by decide) (by decide) (va_runV (own := RMo) (C := RMo) (As := [.int (mr (xr - xr / 8 * 8).toNatClampNeg), .int (mr ((xr / 8) - (xr / 8) / 8 * 8).toNatClampNeg)]) (rest := []) ⟨hx, hb, hml, hown, hw⟩ (cg2 s.heap.size) ⟨pq_cwB 2 hw wd_215 wd_186 wd_214 rfl rfl (by decide +kernel) ⟨Nat.le_of_ble_eq_true rfl, Nat.le_of_ble_eq_true rfl⟩, hw _ wd_216, hw _ wd_217⟩ (pq_preV (ci := 5) (C := RMo) (T := TMo) (N := 27) hE (hP.sub [0, 1, 2, 3, 4, 5, 6, 7, 8, 9, 10, 11, 12] rfl) (hD.sub [0, 1, 2, 3, 4, 5, 6, 7, 8, 9, 10, 11, 12] (by decide) rfl) rfl 0 rfl) rfl rfl hl.1 rfl (lv_room (Nat.le_of_ble_eq_true rfl)) dMo_deed_118 ⟨Nat.zero_le _, Nat.zero_le _⟩) (fun hq9 H locs hP hD hS => ?_)
              obtain ⟨bn, bz, bc⟩ := hq9
              have hP : va_P D vwCl (wM ad cI cS mq mn me mo mt mx mp mz mu g2.2.1 g2.2.2.1 g2.2.2.2.1 g2.2.2.2.2 vp ve mK mA mB mC mf ml mc mL md mi mr mw) H := hP.sub [0, 1, 2, 3, 4, 5, 6, 7, 8, 9, 10, 11, 12] rfl
              have hD : va_D _ (wM ad cI cS mq mn me mo mt mx mp mz mu g2.2.1 g2.2.2.1 g2.2.2.2.1 g2.2.2.2.2 vp ve mK mA mB mC mf ml mc mL md mi mr mw) := hD.sub [0, 1, 2, 3, 4, 5, 6, 7, 8, 9, 10, 11, 12] (by decide) rfl
              refine lv_pop hx hb dMo_deed_121 rfl ?_
              refine lv_goto (tgt := 137) hx hb dMo_deed_122 (by decide) ?_
              have e9 : FMo_deed xr vc vv mr = (mr, g2.2.1, g2.2.2.1, g2.2.2.2.1, g2.2.2.2.2) := by simp only [FMo_deed, hg2, if_neg h1, if_neg h2, if_neg h3, if_neg h4, if_neg h5, if_pos h6]
              have p9 : (narrow .boolean (.int g2.2.1) = .int g2.2.1) ∧ (narrow .boolean (.int g2.2.2.1) = .int g2.2.2.1) ∧ (narrow .boolean (.int g2.2.2.2.1) = .int g2.2.2.2.1) := ⟨by first | with_reducible assumption | exact pq_b0 | exact pq_b1 | assumption, by first | with_reducible assumption | exact pq_b0 | exact pq_b1 | assumption, by first | with_reducible assumption | exact pq_b0 | exact pq_b1 | assumption⟩
              exact W.vret hx hb hr (fun t ht hW => ⟨⟨(), rfl, by rw [e9]; exact p9, by rw [e9, ht]; exact hP, by rw [e9]; exact hD⟩, hS.F ht⟩) hS.2.2 dMo_deed_137
          · refine lv_iload_n hx hb dMo_deed_92 rfl (lv_at hl 2 rfl) ?_
            refine lv_iload_n hx hb dMo_deed_93 rfl (lv_at hl 2 rfl) ?_
            refine lv_iload hx hb dMo_deed_94 (lv_at hl 1 rfl) ?_
            refine lv_iand hx hb dMo_deed_96 ?_
            refine lv_isub hx hb dMo_deed_97 ?_
            refine lv_goto (tgt := 105) hx hb dMo_deed_98 (by decide) ?_
            refine lv_istore (lv' := [(6, .int ((mr (xr - xr / 8 * 8).toNatClampNeg) - ((mr (xr - xr / 8 * 8).toNatClampNeg) &&& (mr ((xr / 8) - (xr / 8) / 8 * 8).toNatClampNeg)))), (5, .int (xr / 64)), (4, .int (mr ((xr / 8) - (xr / 8) / 8 * 8).toNatClampNeg)), (3, .int (mr (xr - xr / 8 * 8).toNatClampNeg)), (2, .int (xr - xr / 8 * 8)), (0, .ref (ad 17)), (1, .int xr)]) hx hb dMo_deed_105 hl (by decide) rfl (fun ls hl => ?_)
            refine lv_iload hx hb dMo_deed_107 (lv_at hl 1 rfl) ?_
            refine lv_bipush (v := 10) hx hb dMo_deed_109 (by first | rfl | decide) ?_
            refine lv_icmp_ne (tgt := 125) hx hb dMo_deed_111 (by decide) (fun h7 => ?_) (fun h7 => ?_)
            · refine lv_aload_n hx hb dMo_deed_125 rfl (lv_at hl 5 rfl) ?_
              refine va_get (D := D) (ci := 5) (v := .ref (ad 28)) (C := RMo) (T := TMo) (N := 27) hx hb hw pinMo hown hE.1 hP 0 rfl rfl 19 (by decide) (hw _ wd_213) (fun _ h9 => h9) rfl dMo_deed_126 ?_
              refine lv_iload_n hx hb dMo_deed_129 rfl (lv_at hl 4 rfl) ?_
              refine lv_aload_n hx hb dMo_deed_130 rfl (lv_at hl 5 rfl) ?_
              refine lv_iload hx hb dMo_deed_131 (lv_at hl 0 rfl) ?_
              obtain ⟨g3, hg3⟩ : ∃ g9, FMo_result ((mr (xr - xr / 8 * 8).toNatClampNeg) - ((mr (xr - xr / 8 * 8).toNatClampNeg) &&& (mr ((xr / 8) - (xr / 8) / 8 * 8).toNatClampNeg))) = g9 := ⟨_, rfl⟩
              have cg3 := k_Mo_result l D ad cI cS ((mr (xr - xr / 8 * 8).toNatClampNeg) - ((mr (xr - xr / 8 * 8).toNatClampNeg) &&& (mr ((xr / 8) - (xr / 8) / 8 * 8).toNatClampNeg))) mq mn me mo mt mx mp mz mu vn vz vc vv vp ve mK mA mB mC mf ml mc mL md mi mr mw
              rw [hg3] at cg3
              refine pq_callip (fr := g3.1) (wc := (wM ad cI cS mq mn me mo mt mx mp mz mu vn vz vc vv vp ve mK mA mB mC mf ml mc mL md mi mr mw)) (wr := ([] : List Nat).filterMap (fun i => (wM ad cI cS mq mn me mo mt mx mp mz mu vn vz vc vv vp ve mK mA mB mC mf ml mc mL md mi mr mw)[i]?)) hP hD hS hA [0, 1, 2, 3, 4, 5, 6, 7, 8, 9, 10, 11, 12] [] rfl rfl (by decide) (by decide) (va_runV (own := RMo) (C := RMo) (As := [.int ((mr (xr - xr / 8 * 8).toNatClampNeg) - ((mr (xr - xr / 8 * 8).toNatClampNeg) &&& (mr ((xr / 8) - (xr / 8) / 8 * 8).toNatClampNeg)))]) (rest := [.int (xr - xr / 8 * 8), .ref (ad 28)]) ⟨hx, hb, hml, hown, hw⟩ (cg3 s.heap.size) ⟨pq_cwB 1 hw wd_209 wd_186 wd_208 rfl rfl (by decide +kernel) ⟨Nat.le_of_ble_eq_true rfl, Nat.le_of_ble_eq_true rfl⟩, hw _ wd_210, hw _ wd_211⟩ (pq_preV (ci := 5) (C := RMo) (T := TMo) (N := 27) hE (hP.sub [0, 1, 2, 3, 4, 5, 6, 7, 8, 9, 10, 11, 12] rfl) (hD.sub [0, 1, 2, 3, 4, 5, 6, 7, 8, 9, 10, 11, 12] (by decide) rfl) rfl 0 rfl) rfl rfl hl.1 rfl (lv_room (Nat.le_of_ble_eq_true rfl)) dMo_deed_133 ⟨Nat.zero_le _, Nat.zero_le _⟩) (fun hq9 H locs hP hD hS => ?_)
              obtain ⟨bn, bz⟩ := hq9
              have hP : va_P D vwCl (wM ad cI cS mq mn me mo mt mx mp mz mu g3.2.1 g3.2.2 vc vv vp ve mK mA mB mC mf ml mc mL md mi mr mw) H := hP.sub [0, 1, 2, 3, 4, 5, 6, 7, 8, 9, 10, 11, 12] rfl
              have hD : va_D _ (wM ad cI cS mq mn me mo mt mx mp mz mu g3.2.1 g3.2.2 vc vv vp ve mK mA mB mC mf ml mc mL md mi mr mw) := hD.sub [0, 1, 2, 3, 4, 5, 6, 7, 8, 9, 10, 11, 12] (by decide) rfl
              refine va_iast hx hb hE.1 hP hD hS 11 0 rfl rfl (pq_rem8 hx0) dMo_deed_136 (fun H locs hP hD hS => ?_)
              have hP : va_P D vwCl (wM ad cI cS mq mn me mo mt mx mp mz mu g3.2.1 g3.2.2 vc vv vp ve mK mA mB mC mf ml mc mL md mi (upd mr (xr - xr / 8 * 8).toNatClampNeg g3.1) mw) H := hP
              have hD : va_D _ (wM ad cI cS mq mn me mo mt mx mp mz mu g3.2.1 g3.2.2 vc vv vp ve mK mA mB mC mf ml mc mL md mi (upd mr (xr - xr / 8 * 8).toNatClampNeg g3.1) mw) := hD
              have e9 : FMo_deed xr vc vv mr = (upd mr (xr - xr / 8 * 8).toNatClampNeg g3.1, g3.2.1, g3.2.2, vc, vv) := by simp only [FMo_deed, hg3, if_neg h1, if_neg h2, if_neg h3, if_neg h4, if_pos h5, if_neg h7]
              have p9 : (narrow .boolean (.int g3.2.1) = .int g3.2.1) ∧ (narrow .boolean (.int g3.2.2) = .int g3.2.2) ∧ (narrow .boolean (.int vc) = .int vc) := ⟨by first | with_reducible assumption | exact pq_b0 | exact pq_b1 | assumption, by first | with_reducible assumption | exact pq_b0 | exact pq_b1 | assumption, by first | with_reducible assumption | exact pq_b0 | exact pq_b1 | assumption⟩
              exact W.vret hx hb hr (fun t ht hW => ⟨⟨(), rfl, by rw [e9]; exact p9, by rw [e9, ht]; exact hP, by rw [e9]; exact hD⟩, hS.F ht⟩) hS.2.2 dMo_deed_137
            · refine lv_aload_n hx hb dMo_deed_114 rfl (lv_at hl 5 rfl) ?_
              refine lv_iload_n hx hb dMo_deed_115 rfl (lv_at hl 3 rfl) ?_
              refine lv_iload hx hb dMo_deed_116 (lv_at hl 2 rfl) ?_
              obtain ⟨g4, hg4⟩ : ∃ g9, FMo_difference (mr (xr - xr / 8 * 8).toNatClampNeg) (mr ((xr / 8) - (xr / 8) / 8 * 8).toNatClampNeg) = g9 := ⟨_, rfl⟩
              have cg4 := k_Mo_difference l D ad cI cS (mr (xr - xr / 8 * 8).toNatClampNeg) (mr ((xr / 8) - (xr / 8) / 8 * 8).toNatClampNeg) mq mn me mo mt mx mp mz mu vn vz vc vv vp ve mK mA mB mC mf ml mc mL md mi mr mw
              rw [hg4] at cg4
              refine pq_callip (fr := g4.1) (wc := (wM ad cI cS mq mn me mo mt mx mp mz mu vn vz vc vv vp ve mK mA mB mC mf ml mc mL md mi mr mw)) (wr := ([] : List Nat).filterMap (fun i => (wM ad cI cS mq mn me mo mt mx mp mz mu vn vz vc vv vp ve mK mA mB mC mf ml mc mL md mi mr mw)[i]?)) hP hD hS hA [0, 1, 2, 3, 4, 5, 6, 7, 8, 9, 10, 11, 12] [] rfl rfl (by decide) (by decide) (va_runV (own := RMo) (C := RMo) (As := [.int (mr (xr - xr / 8 * 8).toNatClampNeg), .int (mr ((xr / 8) - (xr / 8) / 8 * 8).toNatClampNeg)]) (rest := []) ⟨hx, hb, hml, hown, hw⟩ (cg4 s.heap.size) ⟨pq_cwB 2 hw wd_215 wd_186 wd_214 rfl rfl (by decide +kernel) ⟨Nat.le_of_ble_eq_true rfl, Nat.le_of_ble_eq_true rfl⟩, hw _ wd_216, hw _ wd_217⟩ (pq_preV (ci := 5) (C := RMo) (T := TMo) (N := 27) hE (hP.sub [0, 1, 2, 3, 4, 5, 6, 7, 8, 9, 10, 11, 12] rfl) (hD.sub [0, 1, 2, 3, 4, 5, 6, 7, 8, 9, 10, 11, 12] (by decide) rfl) rfl 0 rfl) rfl rfl hl.1 rfl (lv_room (Nat.le_of_ble_eq_true rfl)) dMo_deed_118 ⟨Nat.zero_le _, Nat.zero_le _⟩) (fun hq9 H locs hP hD hS => ?_)
              obtain ⟨bn, bz, bc⟩ := hq9
              have hP : va_P D vwCl (wM ad cI cS mq mn me mo mt mx mp mz mu g4.2.1 g4.2.2.1 g4.2.2.2.1 g4.2.2.2.2 vp ve mK mA mB mC mf ml mc mL md mi mr mw) H := hP.sub [0, 1, 2, 3, 4, 5, 6, 7, 8, 9, 10, 11, 12] rfl
              have hD : va_D _ (wM ad cI cS mq mn me mo mt mx mp mz mu g4.2.1 g4.2.2.1 g4.2.2.2.1 g4.2.2.2.2 vp ve mK mA mB mC mf ml mc mL md mi mr mw) := hD.sub [0, 1, 2, 3, 4, 5, 6, 7, 8, 9, 10, 11, 12] (by decide) rfl
              refine lv_pop hx hb dMo_deed_121 rfl ?_
              refine lv_goto (tgt := 137) hx hb dMo_deed_122 (by decide) ?_
              have e9 : FMo_deed xr vc vv mr = (mr, g4.2.1, g4.2.2.1, g4.2.2.2.1, g4.2.2.2.2) := by simp only [FMo_deed, hg4, if_neg h1, if_neg h2, if_neg h3, if_neg h4, if_pos h5, if_pos h7]
              have p9 : (narrow .boolean (.int g4.2.1) = .int g4.2.1) ∧ (narrow .boolean (.int g4.2.2.1) = .int g4.2.2.1) ∧ (narrow .boolean (.int g4.2.2.2.1) = .int g4.2.2.2.1) := ⟨by first | with_reducible assumption | exact pq_b0 | exact pq_b1 | assumption, by first | with_reducible assumption | exact pq_b0 | exact pq_b1 | assumption, by first | with_reducible assumption | exact pq_b0 | exact pq_b1 | assumption⟩
              exact W.vret hx hb hr (fun t ht hW => ⟨⟨(), rfl, by rw [e9]; exact p9, by rw [e9, ht]; exact hP, by rw [e9]; exact hD⟩, hS.F ht⟩) hS.2.2 dMo_deed_137
        · refine lv_iload_n hx hb dMo_deed_78 rfl (lv_at hl 2 rfl) ?_
          refine lv_iload hx hb dMo_deed_79 (lv_at hl 1 rfl) ?_
          refine lv_imul hx hb dMo_deed_81 ?_
          refine lv_goto (tgt := 105) hx hb dMo_deed_82 (by decide) ?_
          refine lv_istore (lv' := [(6, .int ((mr (xr - xr / 8 * 8).toNatClampNeg) * (mr ((xr / 8) - (xr / 8) / 8 * 8).toNatClampNeg))), (5, .int (xr / 64)), (4, .int (mr ((xr / 8) - (xr / 8) / 8 * 8).toNatClampNeg)), (3, .int (mr (xr - xr / 8 * 8).toNatClampNeg)), (2, .int (xr - xr / 8 * 8)), (0, .ref (ad 17)), (1, .int xr)]) hx hb dMo_deed_105 hl (by decide) rfl (fun ls hl => ?_)
          refine lv_iload hx hb dMo_deed_107 (lv_at hl 1 rfl) ?_
          refine lv_bipush (v := 10) hx hb dMo_deed_109 (by first | rfl | decide) ?_
          refine lv_icmp_ne (tgt := 125) hx hb dMo_deed_111 (by decide) (fun h8 => ?_) (fun h8 => ?_)
          · refine lv_aload_n hx hb dMo_deed_125 rfl (lv_at hl 5 rfl) ?_
            refine va_get (D := D) (ci := 5) (v := .ref (ad 28)) (C := RMo) (T := TMo) (N := 27) hx hb hw pinMo hown hE.1 hP 0 rfl rfl 19 (by decide) (hw _ wd_213) (fun _ h9 => h9) rfl dMo_deed_126 ?_
            refine lv_iload_n hx hb dMo_deed_129 rfl (lv_at hl 4 rfl) ?_
            refine lv_aload_n hx hb dMo_deed_130 rfl (lv_at hl 5 rfl) ?_
            refine lv_iload hx hb dMo_deed_131 (lv_at hl 0 rfl) ?_
            obtain ⟨g5, hg5⟩ : ∃ g9, FMo_result ((mr (xr - xr / 8 * 8).toNatClampNeg) * (mr ((xr / 8) - (xr / 8) / 8 * 8).toNatClampNeg)) = g9 := ⟨_, rfl⟩
            have cg5 := k_Mo_result l D ad cI cS ((mr (xr - xr / 8 * 8).toNatClampNeg) * (mr ((xr / 8) - (xr / 8) / 8 * 8).toNatClampNeg)) mq mn me mo mt mx mp mz mu vn vz vc vv vp ve mK mA mB mC mf ml mc mL md mi mr mw
            rw [hg5] at cg5
            refine pq_callip (fr := g5.1) (wc := (wM ad cI cS mq mn me mo mt mx mp mz mu vn vz vc vv vp ve mK mA mB mC mf ml mc mL md mi mr mw)) (wr := ([] : List Nat).filterMap (fun i => (wM ad cI cS mq mn me mo mt mx mp mz mu vn vz vc vv vp ve mK mA mB mC mf ml mc mL md mi mr mw)[i]?)) hP hD hS hA [0, 1, 2, 3, 4, 5, 6, 7, 8, 9, 10, 11, 12] [] rfl rfl (by decide) (by decide) (va_runV (own := RMo) (C := RMo) (As := [.int ((mr (xr - xr / 8 * 8).toNatClampNeg) * (mr ((xr / 8) - (xr / 8) / 8 * 8).toNatClampNeg))]) (rest := [.int (xr - xr / 8 * 8), .ref (ad 28)]) ⟨hx, hb, hml, hown, hw⟩ (cg5 s.heap.size) ⟨pq_cwB 1 hw wd_209 wd_186 wd_208 rfl rfl (by decide +kernel) ⟨Nat.le_of_ble_eq_true rfl, Nat.le_of_ble_eq_true rfl⟩, hw _ wd_210, hw _ wd_211⟩ (pq_preV (ci := 5) (C := RMo) (T := TMo) (N := 27) hE (hP.sub [0, 1, 2, 3, 4, 5, 6, 7, 8, 9, 10, 11, 12] rfl) (hD.sub [0, 1, 2, 3, 4, 5, 6, 7, 8, 9, 10, 11, 12] (by decide) rfl) rfl 0 rfl) rfl rfl hl.1 rfl (lv_room (Nat.le_of_ble_eq_true rfl)) dMo_deed_133 ⟨Nat.zero_le _, Nat.zero_le _⟩) (fun hq9 H locs hP hD hS => ?_)
            obtain ⟨bn, bz⟩ := hq9
            have hP : va_P D vwCl (wM ad cI cS mq mn me mo mt mx mp mz mu g5.2.1 g5.2.2 vc vv vp ve mK mA mB mC mf ml mc mL md mi mr mw) H := hP.sub [0, 1, 2, 3, 4, 5, 6, 7, 8, 9, 10, 11, 12] rfl
            have hD : va_D _ (wM ad cI cS mq mn me mo mt mx mp mz mu g5.2.1 g5.2.2 vc vv vp ve mK mA mB mC mf ml mc mL md mi mr mw) := hD.sub [0, 1, 2, 3, 4, 5, 6, 7, 8, 9, 10, 11, 12] (by decide) rfl
            refine va_iast hx hb hE.1 hP hD hS 11 0 rfl rfl (pq_rem8 hx0) dMo_deed_136 (fun H locs hP hD hS => ?_)
            have hP : va_P D vwCl (wM ad cI cS mq mn me mo mt mx mp mz mu g5.2.1 g5.2.2 vc vv vp ve mK mA mB mC mf ml mc mL md mi (upd mr (xr - xr / 8 * 8).toNatClampNeg g5.1) mw) H := hP
            have hD : va_D _ (wM ad cI cS mq mn me mo mt mx mp mz mu g5.2.1 g5.2.2 vc vv vp ve mK mA mB mC mf ml mc mL md mi (upd mr (xr - xr / 8 * 8).toNatClampNeg g5.1) mw) := hD
            have e9 : FMo_deed xr vc vv mr = (upd mr (xr - xr / 8 * 8).toNatClampNeg g5.1, g5.2.1, g5.2.2, vc, vv) := by simp only [FMo_deed, hg5, if_neg h1, if_neg h2, if_neg h3, if_pos h4, if_neg h8]
            have p9 : (narrow .boolean (.int g5.2.1) = .int g5.2.1) ∧ (narrow .boolean (.int g5.2.2) = .int g5.2.2) ∧ (narrow .boolean (.int vc) = .int vc) := ⟨by first | with_reducible assumption | exact pq_b0 | exact pq_b1 | assumption, by first | with_reducible assumption | exact pq_b0 | exact pq_b1 | assumption, by first | with_reducible assumption | exact pq_b0 | exact pq_b1 | assumption⟩
            exact W.vret hx hb hr (fun t ht hW => ⟨⟨(), rfl, by rw [e9]; exact p9, by rw [e9, ht]; exact hP, by rw [e9]; exact hD⟩, hS.F ht⟩) hS.2.2 dMo_deed_137
          · refine lv_aload_n hx hb dMo_deed_114 rfl (lv_at hl 5 rfl) ?_
            refine lv_iload_n hx hb dMo_deed_115 rfl (lv_at hl 3 rfl) ?_
            refine lv_iload hx hb dMo_deed_116 (lv_at hl 2 rfl) ?_
            obtain ⟨g6, hg6⟩ : ∃ g9, FMo_difference (mr (xr - xr / 8 * 8).toNatClampNeg) (mr ((xr / 8) - (xr / 8) / 8 * 8).toNatClampNeg) = g9 := ⟨_, rfl⟩
            have cg6 := k_Mo_difference l D ad cI cS (mr (xr - xr / 8 * 8).toNatClampNeg) (mr ((xr / 8) - (xr / 8) / 8 * 8).toNatClampNeg) mq mn me mo mt mx mp mz mu vn vz vc vv vp ve mK mA mB mC mf ml mc mL md mi mr mw
            rw [hg6] at cg6
            refine pq_callip (fr := g6.1) (wc := (wM ad cI cS mq mn me mo mt mx mp mz mu vn vz vc vv vp ve mK mA mB mC mf ml mc mL md mi mr mw)) (wr := ([] : List Nat).filterMap (fun i => (wM ad cI cS mq mn me mo mt mx mp mz mu vn vz vc vv vp ve mK mA mB mC mf ml mc mL md mi mr mw)[i]?)) hP hD hS hA [0, 1, 2, 3, 4, 5, 6, 7, 8, 9, 10, 11, 12] [] rfl rfl (by decide) (by decide) (va_runV (own := RMo) (C := RMo) (As := [.int (mr (xr - xr / 8 * 8).toNatClampNeg), .int (mr ((xr / 8) - (xr / 8) / 8 * 8).toNatClampNeg)]) (rest := []) ⟨hx, hb, hml, hown, hw⟩ (cg6 s.heap.size) ⟨pq_cwB 2 hw wd_215 wd_186 wd_214 rfl rfl (by decide +kernel) ⟨Nat.le_of_ble_eq_true rfl, Nat.le_of_ble_eq_true rfl⟩, hw _ wd_216, hw _ wd_217⟩ (pq_preV (ci := 5) (C := RMo) (T := TMo) (N := 27) hE (hP.sub [0, 1, 2, 3, 4, 5, 6, 7, 8, 9, 10, 11, 12] rfl) (hD.sub [0, 1, 2, 3, 4, 5, 6, 7, 8, 9, 10, 11, 12] (by decide) rfl) rfl 0 rfl) rfl rfl hl.1 rfl (lv_room (Nat.le_of_ble_eq_true rfl)) dMo_deed_118 ⟨Nat.zero_le _, Nat.zero_le _⟩) (fun hq9 H locs hP hD hS => ?_)
            obtain ⟨bn, bz, bc⟩ := hq9
            have hP : va_P D vwCl (wM ad cI cS mq mn me mo mt mx mp mz mu g6.2.1 g6.2.2.1 g6.2.2.2.1 g6.2.2.2.2 vp ve mK mA mB mC mf ml mc mL md mi mr mw) H := hP.sub [0, 1, 2, 3, 4, 5, 6, 7, 8, 9, 10, 11, 12] rfl
            have hD : va_D _ (wM ad cI cS mq mn me mo mt mx mp mz mu g6.2.1 g6.2.2.1 g6.2.2.2.1 g6.2.2.2.2 vp ve mK mA mB mC mf ml mc mL md mi mr mw) := hD.sub [0, 1, 2, 3, 4, 5, 6, 7, 8, 9, 10, 11, 12] (by decide) rfl
            refine lv_pop hx hb dMo_deed_121 rfl ?_
            refine lv_goto (tgt := 137) hx hb dMo_deed_122 (by decide) ?_
            have e9 : FMo_deed xr vc vv mr = (mr, g6.2.1, g6.2.2.1, g6.2.2.2.1, g6.2.2.2.2) := by simp only [FMo_deed, hg6, if_neg h1, if_neg h2, if_neg h3, if_pos h4, if_pos h8]
            have p9 : (narrow .boolean (.int g6.2.1) = .int g6.2.1) ∧ (narrow .boolean (.int g6.2.2.1) = .int g6.2.2.1) ∧ (narrow .boolean (.int g6.2.2.2.1) = .int g6.2.2.2.1) := ⟨by first | with_reducible assumption | exact pq_b0 | exact pq_b1 | assumption, by first | with_reducible assumption | exact pq_b0 | exact pq_b1 | assumption, by first | with_reducible assumption | exact pq_b0 | exact pq_b1 | assumption⟩
            exact W.vret hx hb hr (fun t ht hW => ⟨⟨(), rfl, by rw [e9]; exact p9, by rw [e9, ht]; exact hP, by rw [e9]; exact hD⟩, hS.F ht⟩) hS.2.2 dMo_deed_137
      · refine lv_iload_n hx hb dMo_deed_64 rfl (lv_at hl 2 rfl) ?_
        refine lv_iload hx hb dMo_deed_65 (lv_at hl 1 rfl) ?_
        refine lv_ior hx hb dMo_deed_67 ?_
        refine lv_goto (tgt := 105) hx hb dMo_deed_68 (by decide) ?_
        refine lv_istore (lv' := [(6, .int ((mr (xr - xr / 8 * 8).toNatClampNeg) ||| (mr ((xr / 8) - (xr / 8) / 8 * 8).toNatClampNeg))), (5, .int (xr / 64)), (4, .int (mr ((xr / 8) - (xr / 8) / 8 * 8).toNatClampNeg)), (3, .int (mr (xr - xr / 8 * 8).toNatClampNeg)), (2, .int (xr - xr / 8 * 8)), (0, .ref (ad 17)), (1, .int xr)]) hx hb dMo_deed_105 hl (by decide) rfl (fun ls hl => ?_)
        refine lv_iload hx hb dMo_deed_107 (lv_at hl 1 rfl) ?_
        refine lv_bipush (v := 10) hx hb dMo_deed_109 (by first | rfl | decide) ?_
        refine lv_icmp_ne (tgt := 125) hx hb dMo_deed_111 (by decide) (fun h9 => ?_) (fun h9 => ?_)
        · refine lv_aload_n hx hb dMo_deed_125 rfl (lv_at hl 5 rfl) ?_
          refine va_get (D := D) (ci := 5) (v := .ref (ad 28)) (C := RMo) (T := TMo) (N := 27) hx hb hw pinMo hown hE.1 hP 0 rfl rfl 19 (by decide) (hw _ wd_213) (fun _ h9 => h9) rfl dMo_deed_126 ?_
          refine lv_iload_n hx hb dMo_deed_129 rfl (lv_at hl 4 rfl) ?_
          refine lv_aload_n hx hb dMo_deed_130 rfl (lv_at hl 5 rfl) ?_
          refine lv_iload hx hb dMo_deed_131 (lv_at hl 0 rfl) ?_
          obtain ⟨g7, hg7⟩ : ∃ g9, FMo_result ((mr (xr - xr / 8 * 8).toNatClampNeg) ||| (mr ((xr / 8) - (xr / 8) / 8 * 8).toNatClampNeg)) = g9 := ⟨_, rfl⟩
          have cg7 := k_Mo_result l D ad cI cS ((mr (xr - xr / 8 * 8).toNatClampNeg) ||| (mr ((xr / 8) - (xr / 8) / 8 * 8).toNatClampNeg)) mq mn me mo mt mx mp mz mu vn vz vc vv vp ve mK mA mB mC mf ml mc mL md mi mr mw
          rw [hg7] at cg7
          refine pq_callip (fr := g7.1) (wc := (wM ad cI cS mq mn me mo mt mx mp mz mu vn vz vc vv vp ve mK mA mB mC mf ml mc mL md mi mr mw)) (wr := ([] : List Nat).filterMap (fun i => (wM ad cI cS mq mn me mo mt mx mp mz mu vn vz vc vv vp ve mK mA mB mC mf ml mc mL md mi mr mw)[i]?)) hP hD hS hA [0, 1, 2, 3, 4, 5, 6, 7, 8, 9, 10, 11, 12] [] rfl rfl (by decide) (by decide) (va_runV (own := RMo) (C := RMo) (As := [.int ((mr (xr - xr / 8 * 8).toNatClampNeg) ||| (mr ((xr / 8) - (xr / 8) / 8 * 8).toNatClampNeg))]) (rest := [.int (xr - xr / 8 * 8), .ref (ad 28)]) ⟨hx, hb, hml, hown, hw⟩ (cg7 s.heap.size) ⟨pq_cwB 1 hw wd_209 wd_186 wd_208 rfl rfl (by decide +kernel) ⟨Nat.le_of_ble_eq_true rfl, Nat.le_of_ble_eq_true rfl⟩, hw _ wd_210, hw _ wd_211⟩ (pq_preV (ci := 5) (C := RMo) (T := TMo) (N := 27) hE (hP.sub [0, 1, 2, 3, 4, 5, 6, 7, 8, 9, 10, 11, 12] rfl) (hD.sub [0, 1, 2, 3, 4, 5, 6, 7, 8, 9, 10, 11, 12] (by decide) rfl) rfl 0 rfl) rfl rfl hl.1 rfl (lv_room (Nat.le_of_ble_eq_true rfl)) dMo_deed_133 ⟨Nat.zero_le _, Nat.zero_le _⟩) (fun hq9 H locs hP hD hS => ?_)
          obtain ⟨bn, bz⟩ := hq9
          have hP : va_P D vwCl (wM ad cI cS mq mn me mo mt mx mp mz mu g7.2.1 g7.2.2 vc vv vp ve mK mA mB mC mf ml mc mL md mi mr mw) H := hP.sub [0, 1, 2, 3, 4, 5, 6, 7, 8, 9, 10, 11, 12] rfl
          have hD : va_D _ (wM ad cI cS mq mn me mo mt mx mp mz mu g7.2.1 g7.2.2 vc vv vp ve mK mA mB mC mf ml mc mL md mi mr mw) := hD.sub [0, 1, 2, 3, 4, 5, 6, 7, 8, 9, 10, 11, 12] (by decide) rfl
          refine va_iast hx hb hE.1 hP hD hS 11 0 rfl rfl (pq_rem8 hx0) dMo_deed_136 (fun H locs hP hD hS => ?_)
          have hP : va_P D vwCl (wM ad cI cS mq mn me mo mt mx mp mz mu g7.2.1 g7.2.2 vc vv vp ve mK mA mB mC mf ml mc mL md mi (upd mr (xr - xr / 8 * 8).toNatClampNeg g7.1) mw) H := hP
          have hD : va_D _ (wM ad cI cS mq mn me mo mt mx mp mz mu g7.2.1 g7.2.2 vc vv vp ve mK mA mB mC mf ml mc mL md mi (upd mr (xr - xr / 8 * 8).toNatClampNeg g7.1) mw) := hD
          have e9 : FMo_deed xr vc vv mr = (upd mr (xr - xr / 8 * 8).toNatClampNeg g7.1, g7.2.1, g7.2.2, vc, vv) := by simp only [FMo_deed, hg7, if_neg h1, if_neg h2, if_pos h3, if_neg h9]
          have p9 : (narrow .boolean (.int g7.2.1) = .int g7.2.1) ∧ (narrow .boolean (.int g7.2.2) = .int g7.2.2) ∧ (narrow .boolean (.int vc) = .int vc) := ⟨by first | with_reducible assumption | exact pq_b0 | exact pq_b1 | assumption, by first | with_reducible assumption | exact pq_b0 | exact pq_b1 | assumption, by first | with_reducible assumption | exact pq_b0 | exact pq_b1 | assumption⟩
          exact W.vret hx hb hr (fun t ht hW => ⟨⟨(), rfl, by rw [e9]; exact p9, by rw [e9, ht]; exact hP, by rw [e9]; exact hD⟩, hS.F ht⟩) hS.2.2 dMo_deed_137
        · refine lv_aload_n hx hb dMo_deed_114 rfl (lv_at hl 5 rfl) ?_
          refine lv_iload_n hx hb dMo_deed_115 rfl (lv_at hl 3 rfl) ?_
          refine lv_iload hx hb dMo_deed_116 (lv_at hl 2 rfl) ?_
          obtain ⟨g8, hg8⟩ : ∃ g9, FMo_difference (mr (xr - xr / 8 * 8).toNatClampNeg) (mr ((xr / 8) - (xr / 8) / 8 * 8).toNatClampNeg) = g9 := ⟨_, rfl⟩
          have cg8 := k_Mo_difference l D ad cI cS (mr (xr - xr / 8 * 8).toNatClampNeg) (mr ((xr / 8) - (xr / 8) / 8 * 8).toNatClampNeg) mq mn me mo mt mx mp mz mu vn vz vc vv vp ve mK mA mB mC mf ml mc mL md mi mr mw
          rw [hg8] at cg8
          refine pq_callip (fr := g8.1) (wc := (wM ad cI cS mq mn me mo mt mx mp mz mu vn vz vc vv vp ve mK mA mB mC mf ml mc mL md mi mr mw)) (wr := ([] : List Nat).filterMap (fun i => (wM ad cI cS mq mn me mo mt mx mp mz mu vn vz vc vv vp ve mK mA mB mC mf ml mc mL md mi mr mw)[i]?)) hP hD hS hA [0, 1, 2, 3, 4, 5, 6, 7, 8, 9, 10, 11, 12] [] rfl rfl (by decide) (by decide) (va_runV (own := RMo) (C := RMo) (As := [.int (mr (xr - xr / 8 * 8).toNatClampNeg), .int (mr ((xr / 8) - (xr / 8) / 8 * 8).toNatClampNeg)]) (rest := []) ⟨hx, hb, hml, hown, hw⟩ (cg8 s.heap.size) ⟨pq_cwB 2 hw wd_215 wd_186 wd_214 rfl rfl (by decide +kernel) ⟨Nat.le_of_ble_eq_true rfl, Nat.le_of_ble_eq_true rfl⟩, hw _ wd_216, hw _ wd_217⟩ (pq_preV (ci := 5) (C := RMo) (T := TMo) (N := 27) hE (hP.sub [0, 1, 2, 3, 4, 5, 6, 7, 8, 9, 10, 11, 12] rfl) (hD.sub [0, 1, 2, 3, 4, 5, 6, 7, 8, 9, 10, 11, 12] (by decide) rfl) rfl 0 rfl) rfl rfl hl.1 rfl (lv_room (Nat.le_of_ble_eq_true rfl)) dMo_deed_118 ⟨Nat.zero_le _, Nat.zero_le _⟩) (fun hq9 H locs hP hD hS => ?_)
          obtain ⟨bn, bz, bc⟩ := hq9
          have hP : va_P D vwCl (wM ad cI cS mq mn me mo mt mx mp mz mu g8.2.1 g8.2.2.1 g8.2.2.2.1 g8.2.2.2.2 vp ve mK mA mB mC mf ml mc mL md mi mr mw) H := hP.sub [0, 1, 2, 3, 4, 5, 6, 7, 8, 9, 10, 11, 12] rfl
          have hD : va_D _ (wM ad cI cS mq mn me mo mt mx mp mz mu g8.2.1 g8.2.2.1 g8.2.2.2.1 g8.2.2.2.2 vp ve mK mA mB mC mf ml mc mL md mi mr mw) := hD.sub [0, 1, 2, 3, 4, 5, 6, 7, 8, 9, 10, 11, 12] (by decide) rfl
          refine lv_pop hx hb dMo_deed_121 rfl ?_
          refine lv_goto (tgt := 137) hx hb dMo_deed_122 (by decide) ?_
          have e9 : FMo_deed xr vc vv mr = (mr, g8.2.1, g8.2.2.1, g8.2.2.2.1, g8.2.2.2.2) := by simp only [FMo_deed, hg8, if_neg h1, if_neg h2, if_pos h3, if_pos h9]
          have p9 : (narrow .boolean (.int g8.2.1) = .int g8.2.1) ∧ (narrow .boolean (.int g8.2.2.1) = .int g8.2.2.1) ∧ (narrow .boolean (.int g8.2.2.2.1) = .int g8.2.2.2.1) := ⟨by first | with_reducible assumption | exact pq_b0 | exact pq_b1 | assumption, by first | with_reducible assumption | exact pq_b0 | exact pq_b1 | assumption, by first | with_reducible assumption | exact pq_b0 | exact pq_b1 | assumption⟩
          exact W.vret hx hb hr (fun t ht hW => ⟨⟨(), rfl, by rw [e9]; exact p9, by rw [e9, ht]; exact hP, by rw [e9]; exact hD⟩, hS.F ht⟩) hS.2.2 dMo_deed_137
    · refine lv_iload_n hx hb dMo_deed_50 rfl (lv_at hl 2 rfl) ?_
      refine lv_iload hx hb dMo_deed_51 (lv_at hl 1 rfl) ?_
      refine lv_ixor hx hb dMo_deed_53 ?_
      refine lv_goto (tgt := 105) hx hb dMo_deed_54 (by decide) ?_
      refine lv_istore (lv' := [(6, .int ((mr (xr - xr / 8 * 8).toNatClampNeg) ^^^ (mr ((xr / 8) - (xr / 8) / 8 * 8).toNatClampNeg))), (5, .int (xr / 64)), (4, .int (mr ((xr / 8) - (xr / 8) / 8 * 8).toNatClampNeg)), (3, .int (mr (xr - xr / 8 * 8).toNatClampNeg)), (2, .int (xr - xr / 8 * 8)), (0, .ref (ad 17)), (1, .int xr)]) hx hb dMo_deed_105 hl (by decide) rfl (fun ls hl => ?_)
      refine lv_iload hx hb dMo_deed_107 (lv_at hl 1 rfl) ?_
      refine lv_bipush (v := 10) hx hb dMo_deed_109 (by first | rfl | decide) ?_
      refine lv_icmp_ne (tgt := 125) hx hb dMo_deed_111 (by decide) (fun h10 => ?_) (fun h10 => ?_)
      · refine lv_aload_n hx hb dMo_deed_125 rfl (lv_at hl 5 rfl) ?_
        refine va_get (D := D) (ci := 5) (v := .ref (ad 28)) (C := RMo) (T := TMo) (N := 27) hx hb hw pinMo hown hE.1 hP 0 rfl rfl 19 (by decide) (hw _ wd_213) (fun _ h9 => h9) rfl dMo_deed_126 ?_
        refine lv_iload_n hx hb dMo_deed_129 rfl (lv_at hl 4 rfl) ?_
        refine lv_aload_n hx hb dMo_deed_130 rfl (lv_at hl 5 rfl) ?_
        refine lv_iload hx hb dMo_deed_131 (lv_at hl 0 rfl) ?_
        obtain ⟨g9, hg9⟩ : ∃ g9, FMo_result ((mr (xr - xr / 8 * 8).toNatClampNeg) ^^^ (mr ((xr / 8) - (xr / 8) / 8 * 8).toNatClampNeg)) = g9 := ⟨_, rfl⟩
        have cg9 := k_Mo_result l D ad cI cS ((mr (xr - xr / 8 * 8).toNatClampNeg) ^^^ (mr ((xr / 8) - (xr / 8) / 8 * 8).toNatClampNeg)) mq mn me mo mt mx mp mz mu vn vz vc vv vp ve mK mA mB mC mf ml mc mL md mi mr mw
        rw [hg9] at cg9
        refine pq_callip (fr := g9.1) (wc := (wM ad cI cS mq mn me mo mt mx mp mz mu vn vz vc vv vp ve mK mA mB mC mf ml mc mL md mi mr mw)) (wr := ([] : List Nat).filterMap (fun i => (wM ad cI cS mq mn me mo mt mx mp mz mu vn vz vc vv vp ve mK mA mB mC mf ml mc mL md mi mr mw)[i]?)) hP hD hS hA [0, 1, 2, 3, 4, 5, 6, 7, 8, 9, 10, 11, 12] [] rfl rfl (by decide) (by decide) (va_runV (own := RMo) (C := RMo) (As := [.int ((mr (xr - xr / 8 * 8).toNatClampNeg) ^^^ (mr ((xr / 8) - (xr / 8) / 8 * 8).toNatClampNeg))]) (rest := [.int (xr - xr / 8 * 8), .ref (ad 28)]) ⟨hx, hb, hml, hown, hw⟩ (cg9 s.heap.size) ⟨pq_cwB 1 hw wd_209 wd_186 wd_208 rfl rfl (by decide +kernel) ⟨Nat.le_of_ble_eq_true rfl, Nat.le_of_ble_eq_true rfl⟩, hw _ wd_210, hw _ wd_211⟩ (pq_preV (ci := 5) (C := RMo) (T := TMo) (N := 27) hE (hP.sub [0, 1, 2, 3, 4, 5, 6, 7, 8, 9, 10, 11, 12] rfl) (hD.sub [0, 1, 2, 3, 4, 5, 6, 7, 8, 9, 10, 11, 12] (by decide) rfl) rfl 0 rfl) rfl rfl hl.1 rfl (lv_room (Nat.le_of_ble_eq_true rfl)) dMo_deed_133 ⟨Nat.zero_le _, Nat.zero_le _⟩) (fun hq9 H locs hP hD hS => ?_)
        obtain ⟨bn, bz⟩ := hq9
        have hP : va_P D vwCl (wM ad cI cS mq mn me mo mt mx mp mz mu g9.2.1 g9.2.2 vc vv vp ve mK mA mB mC mf ml mc mL md mi mr mw) H := hP.sub [0, 1, 2, 3, 4, 5, 6, 7, 8, 9, 10, 11, 12] rfl
        have hD : va_D _ (wM ad cI cS mq mn me mo mt mx mp mz mu g9.2.1 g9.2.2 vc vv vp ve mK mA mB mC mf ml mc mL md mi mr mw) := hD.sub [0, 1, 2, 3, 4, 5, 6, 7, 8, 9, 10, 11, 12] (by decide) rfl
        refine va_iast hx hb hE.1 hP hD hS 11 0 rfl rfl (pq_rem8 hx0) dMo_deed_136 (fun H locs hP hD hS => ?_)
        have hP : va_P D vwCl (wM ad cI cS mq mn me mo mt mx mp mz mu g9.2.1 g9.2.2 vc vv vp ve mK mA mB mC mf ml mc mL md mi (upd mr (xr - xr / 8 * 8).toNatClampNeg g9.1) mw) H := hP
        have hD : va_D _ (wM ad cI cS mq mn me mo mt mx mp mz mu g9.2.1 g9.2.2 vc vv vp ve mK mA mB mC mf ml mc mL md mi (upd mr (xr - xr / 8 * 8).toNatClampNeg g9.1) mw) := hD
        have e9 : FMo_deed xr vc vv mr = (upd mr (xr - xr / 8 * 8).toNatClampNeg g9.1, g9.2.1, g9.2.2, vc, vv) := by simp only [FMo_deed, hg9, if_neg h1, if_pos h2, if_neg h10]
        have p9 : (narrow .boolean (.int g9.2.1) = .int g9.2.1) ∧ (narrow .boolean (.int g9.2.2) = .int g9.2.2) ∧ (narrow .boolean (.int vc) = .int vc) := ⟨by first | with_reducible assumption | exact pq_b0 | exact pq_b1 | assumption, by first | with_reducible assumption | exact pq_b0 | exact pq_b1 | assumption, by first | with_reducible assumption | exact pq_b0 | exact pq_b1 | assumption⟩
        exact W.vret hx hb hr (fun t ht hW => ⟨⟨(), rfl, by rw [e9]; exact p9, by rw [e9, ht]; exact hP, by rw [e9]; exact hD⟩, hS.F ht⟩) hS.2.2 dMo_deed_137
      · refine lv_aload_n hx hb dMo_deed_114 rfl (lv_at hl 5 rfl) ?_
        refine lv_iload_n hx hb dMo_deed_115 rfl (lv_at hl 3 rfl) ?_
        refine lv_iload hx hb dMo_deed_116 (lv_at hl 2 rfl) ?_
        obtain ⟨g10, hg10⟩ : ∃ g9, FMo_difference (mr (xr - xr / 8 * 8).toNatClampNeg) (mr ((xr / 8) - (xr / 8) / 8 * 8).toNatClampNeg) = g9 := ⟨_, rfl⟩
        have cg10 := k_Mo_difference l D ad cI cS (mr (xr - xr / 8 * 8).toNatClampNeg) (mr ((xr / 8) - (xr / 8) / 8 * 8).toNatClampNeg) mq mn me mo mt mx mp mz mu vn vz vc vv vp ve mK mA mB mC mf ml mc mL md mi mr mw
        rw [hg10] at cg10
        refine pq_callip (fr := g10.1) (wc := (wM ad cI cS mq mn me mo mt mx mp mz mu vn vz vc vv vp ve mK mA mB mC mf ml mc mL md mi mr mw)) (wr := ([] : List Nat).filterMap (fun i => (wM ad cI cS mq mn me mo mt mx mp mz mu vn vz vc vv vp ve mK mA mB mC mf ml mc mL md mi mr mw)[i]?)) hP hD hS hA [0, 1, 2, 3, 4, 5, 6, 7, 8, 9, 10, 11, 12] [] rfl rfl (by decide) (by decide) (va_runV (own := RMo) (C := RMo) (As := [.int (mr (xr - xr / 8 * 8).toNatClampNeg), .int (mr ((xr / 8) - (xr / 8) / 8 * 8).toNatClampNeg)]) (rest := []) ⟨hx, hb, hml, hown, hw⟩ (cg10 s.heap.size) ⟨pq_cwB 2 hw wd_215 wd_186 wd_214 rfl rfl (by decide +kernel) ⟨Nat.le_of_ble_eq_true rfl, Nat.le_of_ble_eq_true rfl⟩, hw _ wd_216, hw _ wd_217⟩ (pq_preV (ci := 5) (C := RMo) (T := TMo) (N := 27) hE (hP.sub [0, 1, 2, 3, 4, 5, 6, 7, 8, 9, 10, 11, 12] rfl) (hD.sub [0, 1, 2, 3, 4, 5, 6, 7, 8, 9, 10, 11, 12] (by decide) rfl) rfl 0 rfl) rfl rfl hl.1 rfl (lv_room (Nat.le_of_ble_eq_true rfl)) dMo_deed_118 ⟨Nat.zero_le _, Nat.zero_le _⟩) (fun hq9 H locs hP hD hS => ?_)
        obtain ⟨bn, bz, bc⟩ := hq9
        have hP : va_P D vwCl (wM ad cI cS mq mn me mo mt mx mp mz mu g10.2.1 g10.2.2.1 g10.2.2.2.1 g10.2.2.2.2 vp ve mK mA mB mC mf ml mc mL md mi mr mw) H := hP.sub [0, 1, 2, 3, 4, 5, 6, 7, 8, 9, 10, 11, 12] rfl
        have hD : va_D _ (wM ad cI cS mq mn me mo mt mx mp mz mu g10.2.1 g10.2.2.1 g10.2.2.2.1 g10.2.2.2.2 vp ve mK mA mB mC mf ml mc mL md mi mr mw) := hD.sub [0, 1, 2, 3, 4, 5, 6, 7, 8, 9, 10, 11, 12] (by decide) rfl
        refine lv_pop hx hb dMo_deed_121 rfl ?_
        refine lv_goto (tgt := 137) hx hb dMo_deed_122 (by decide) ?_
        have e9 : FMo_deed xr vc vv mr = (mr, g10.2.1, g10.2.2.1, g10.2.2.2.1, g10.2.2.2.2) := by simp only [FMo_deed, hg10, if_neg h1, if_pos h2, if_pos h10]
        have p9 : (narrow .boolean (.int g10.2.1) = .int g10.2.1) ∧ (narrow .boolean (.int g10.2.2.1) = .int g10.2.2.1) ∧ (narrow .boolean (.int g10.2.2.2.1) = .int g10.2.2.2.1) := ⟨by first | with_reducible assumption | exact pq_b0 | exact pq_b1 | assumption, by first | with_reducible assumption | exact pq_b0 | exact pq_b1 | assumption, by first | with_reducible assumption | exact pq_b0 | exact pq_b1 | assumption⟩
        exact W.vret hx hb hr (fun t ht hW => ⟨⟨(), rfl, by rw [e9]; exact p9, by rw [e9, ht]; exact hP, by rw [e9]; exact hD⟩, hS.F ht⟩) hS.2.2 dMo_deed_137
  · refine lv_iload_n hx hb dMo_deed_37 rfl (lv_at hl 2 rfl) ?_
    refine lv_iload hx hb dMo_deed_38 (lv_at hl 1 rfl) ?_
    refine lv_iand hx hb dMo_deed_40 ?_
    refine lv_goto (tgt := 105) hx hb dMo_deed_41 (by decide) ?_
    refine lv_istore (lv' := [(6, .int ((mr (xr - xr / 8 * 8).toNatClampNeg) &&& (mr ((xr / 8) - (xr / 8) / 8 * 8).toNatClampNeg))), (5, .int (xr / 64)), (4, .int (mr ((xr / 8) - (xr / 8) / 8 * 8).toNatClampNeg)), (3, .int (mr (xr - xr / 8 * 8).toNatClampNeg)), (2, .int (xr - xr / 8 * 8)), (0, .ref (ad 17)), (1, .int xr)]) hx hb dMo_deed_105 hl (by decide) rfl (fun ls hl => ?_)
    refine lv_iload hx hb dMo_deed_107 (lv_at hl 1 rfl) ?_
    refine lv_bipush (v := 10) hx hb dMo_deed_109 (by first | rfl | decide) ?_
    refine lv_icmp_ne (tgt := 125) hx hb dMo_deed_111 (by decide) (fun h11 => ?_) (fun h11 => ?_)
    · refine lv_aload_n hx hb dMo_deed_125 rfl (lv_at hl 5 rfl) ?_
      refine va_get (D := D) (ci := 5) (v := .ref (ad 28)) (C := RMo) (T := TMo) (N := 27) hx hb hw pinMo hown hE.1 hP 0 rfl rfl 19 (by decide) (hw _ wd_213) (fun _ h9 => h9) rfl dMo_deed_126 ?_
      refine lv_iload_n hx hb dMo_deed_129 rfl (lv_at hl 4 rfl) ?_
      refine lv_aload_n hx hb dMo_deed_130 rfl (lv_at hl 5 rfl) ?_
      refine lv_iload hx hb dMo_deed_131 (lv_at hl 0 rfl) ?_
      obtain ⟨g11, hg11⟩ : ∃ g9, FMo_result ((mr (xr - xr / 8 * 8).toNatClampNeg) &&& (mr ((xr / 8) - (xr / 8) / 8 * 8).toNatClampNeg)) = g9 := ⟨_, rfl⟩
      have cg11 := k_Mo_result l D ad cI cS ((mr (xr - xr / 8 * 8).toNatClampNeg) &&& (mr ((xr / 8) - (xr / 8) / 8 * 8).toNatClampNeg)) mq mn me mo mt mx mp mz mu vn vz vc vv vp ve mK mA mB mC mf ml mc mL md mi mr mw
      rw [hg11] at cg11
      refine pq_callip (fr := g11.1) (wc := (wM ad cI cS mq mn me mo mt mx mp mz mu vn vz vc vv vp ve mK mA mB mC mf ml mc mL md mi mr mw)) (wr := ([] : List Nat).filterMap (fun i => (wM ad cI cS mq mn me mo mt mx mp mz mu vn vz vc vv vp ve mK mA mB mC mf ml mc mL md mi mr mw)[i]?)) hP hD hS hA [0, 1, 2, 3, 4, 5, 6, 7, 8, 9, 10, 11, 12] [] rfl rfl (by decide) (by decide) (va_runV (own := RMo) (C := RMo) (As := [.int ((mr (xr - xr / 8 * 8).toNatClampNeg) &&& (mr ((xr / 8) - (xr / 8) / 8 * 8).toNatClampNeg))]) (rest := [.int (xr - xr / 8 * 8), .ref (ad 28)]) ⟨hx, hb, hml, hown, hw⟩ (cg11 s.heap.size) ⟨pq_cwB 1 hw wd_209 wd_186 wd_208 rfl rfl (by decide +kernel) ⟨Nat.le_of_ble_eq_true rfl, Nat.le_of_ble_eq_true rfl⟩, hw _ wd_210, hw _ wd_211⟩ (pq_preV (ci := 5) (C := RMo) (T := TMo) (N := 27) hE (hP.sub [0, 1, 2, 3, 4, 5, 6, 7, 8, 9, 10, 11, 12] rfl) (hD.sub [0, 1, 2, 3, 4, 5, 6, 7, 8, 9, 10, 11, 12] (by decide) rfl) rfl 0 rfl) rfl rfl hl.1 rfl (lv_room (Nat.le_of_ble_eq_true rfl)) dMo_deed_133 ⟨Nat.zero_le _, Nat.zero_le _⟩) (fun hq9 H locs hP hD hS => ?_)
      obtain ⟨bn, bz⟩ := hq9
      have hP : va_P D vwCl (wM ad cI cS mq mn me mo mt mx mp mz mu g11.2.1 g11.2.2 vc vv vp ve mK mA mB mC mf ml mc mL md mi mr mw) H := hP.sub [0, 1, 2, 3, 4, 5, 6, 7, 8, 9, 10, 11, 12] rfl
      have hD : va_D _ (wM ad cI cS mq mn me mo mt mx mp mz mu g11.2.1 g11.2.2 vc vv vp ve mK mA mB mC mf ml mc mL md mi mr mw) := hD.sub [0, 1, 2, 3, 4, 5, 6, 7, 8, 9, 10, 11, 12] (by decide) rfl
      refine va_iast hx hb hE.1 hP hD hS 11 0 rfl rfl (pq_rem8 hx0) dMo_deed_136 (fun H locs hP hD hS => ?_)
      have hP : va_P D vwCl (wM ad cI cS mq mn me mo mt mx mp mz mu g11.2.1 g11.2.2 vc vv vp ve mK mA mB mC mf ml mc mL md mi (upd mr (xr - xr / 8 * 8).toNatClampNeg g11.1) mw) H := hP
      have hD : va_D _ (wM ad cI cS mq mn me mo mt mx mp mz mu g11.2.1 g11.2.2 vc vv vp ve mK mA mB mC mf ml mc mL md mi (upd mr (xr - xr / 8 * 8).toNatClampNeg g11.1) mw) := hD
      have e9 : FMo_deed xr vc vv mr = (upd mr (xr - xr / 8 * 8).toNatClampNeg g11.1, g11.2.1, g11.2.2, vc, vv) := by simp only [FMo_deed, hg11, if_pos h1, if_neg h11]
      have p9 : (narrow .boolean (.int g11.2.1) = .int g11.2.1) ∧ (narrow .boolean (.int g11.2.2) = .int g11.2.2) ∧ (narrow .boolean (.int vc) = .int vc) := ⟨by first | with_reducible assumption | exact pq_b0 | exact pq_b1 | assumption, by first | with_reducible assumption | exact pq_b0 | exact pq_b1 | assumption, by first | with_reducible assumption | exact pq_b0 | exact pq_b1 | assumption⟩
      exact W.vret hx hb hr (fun t ht hW => ⟨⟨(), rfl, by rw [e9]; exact p9, by rw [e9, ht]; exact hP, by rw [e9]; exact hD⟩, hS.F ht⟩) hS.2.2 dMo_deed_137
    · refine lv_aload_n hx hb dMo_deed_114 rfl (lv_at hl 5 rfl) ?_
      refine lv_iload_n hx hb dMo_deed_115 rfl (lv_at hl 3 rfl) ?_
      refine lv_iload hx hb dMo_deed_116 (lv_at hl 2 rfl) ?_
      obtain ⟨g12, hg12⟩ : ∃ g9, FMo_difference (mr (xr - xr / 8 * 8).toNatClampNeg) (mr ((xr / 8) - (xr / 8) / 8 * 8).toNatClampNeg) = g9 := ⟨_, rfl⟩
      have cg12 := k_Mo_difference l D ad cI cS (mr (xr - xr / 8 * 8).toNatClampNeg) (mr ((xr / 8) - (xr / 8) / 8 * 8).toNatClampNeg) mq mn me mo mt mx mp mz mu vn vz vc vv vp ve mK mA mB mC mf ml mc mL md mi mr mw
      rw [hg12] at cg12
      refine pq_callip (fr := g12.1) (wc := (wM ad cI cS mq mn me mo mt mx mp mz mu vn vz vc vv vp ve mK mA mB mC mf ml mc mL md mi mr mw)) (wr := ([] : List Nat).filterMap (fun i => (wM ad cI cS mq mn me mo mt mx mp mz mu vn vz vc vv vp ve mK mA mB mC mf ml mc mL md mi mr mw)[i]?)) hP hD hS hA [0, 1, 2, 3, 4, 5, 6, 7, 8, 9, 10, 11, 12] [] rfl rfl (by decide) (by decide) (va_runV (own := RMo) (C := RMo) (As := [.int (mr (xr - xr / 8 * 8).toNatClampNeg), .int (mr ((xr / 8) - (xr / 8) / 8 * 8).toNatClampNeg)]) (rest := []) ⟨hx, hb, hml, hown, hw⟩ (cg12 s.heap.size) ⟨pq_cwB 2 hw wd_215 wd_186 wd_214 rfl rfl (by decide +kernel) ⟨Nat.le_of_ble_eq_true rfl, Nat.le_of_ble_eq_true rfl⟩, hw _ wd_216, hw _ wd_217⟩ (pq_preV (ci := 5) (C := RMo) (T := TMo) (N := 27) hE (hP.sub [0, 1, 2, 3, 4, 5, 6, 7, 8, 9, 10, 11, 12] rfl) (hD.sub [0, 1, 2, 3, 4, 5, 6, 7, 8, 9, 10, 11, 12] (by decide) rfl) rfl 0 rfl) rfl rfl hl.1 rfl (lv_room (Nat.le_of_ble_eq_true rfl)) dMo_deed_118 ⟨Nat.zero_le _, Nat.zero_le _⟩) (fun hq9 H locs hP hD hS => ?_)
      obtain ⟨bn, bz, bc⟩ := hq9
      have hP : va_P D vwCl (wM ad cI cS mq mn me mo mt mx mp mz mu g12.2.1 g12.2.2.1 g12.2.2.2.1 g12.2.2.2.2 vp ve mK mA mB mC mf ml mc mL md mi mr mw) H := hP.sub [0, 1, 2, 3, 4, 5, 6, 7, 8, 9, 10, 11, 12] rfl
      have hD : va_D _ (wM ad cI cS mq mn me mo mt mx mp mz mu g12.2.1 g12.2.2.1 g12.2.2.2.1 g12.2.2.2.2 vp ve mK mA mB mC mf ml mc mL md mi mr mw) := hD.sub [0, 1, 2, 3, 4, 5, 6, 7, 8, 9, 10, 11, 12] (by decide) rfl
      refine lv_pop hx hb dMo_deed_121 rfl ?_
      refine lv_goto (tgt := 137) hx hb dMo_deed_122 (by decide) ?_
      have e9 : FMo_deed xr vc vv mr = (mr, g12.2.1, g12.2.2.1, g12.2.2.2.1, g12.2.2.2.2) := by simp only [FMo_deed, hg12, if_pos h1, if_pos h11]
      have p9 : (narrow .boolean (.int g12.2.1) = .int g12.2.1) ∧ (narrow .boolean (.int g12.2.2.1) = .int g12.2.2.1) ∧ (narrow .boolean (.int g12.2.2.2.1) = .int g12.2.2.2.1) := ⟨by first | with_reducible assumption | exact pq_b0 | exact pq_b1 | assumption, by first | with_reducible assumption | exact pq_b0 | exact pq_b1 | assumption, by first | with_reducible assumption | exact pq_b0 | exact pq_b1 | assumption⟩
      exact W.vret hx hb hr (fun t ht hW => ⟨⟨(), rfl, by rw [e9]; exact p9, by rw [e9, ht]; exact hP, by rw [e9]; exact hD⟩, hS.F ht⟩) hS.2.2 dMo_deed_137
def FMo_memory (xr : Int32) (mr : Nat → Int32) (mw : Nat → Int32) : Int32 × (Nat → Int32) × (Nat → Int32) := if (FMo_outside ((mr ((xr / 8) - (xr / 8) / 8 * 8).toNatClampNeg) + (4 * ((xr / 64) - (xr / 64) / 32 * 32))) 4096 4220) = 0 then if (((mr ((xr / 8) - (xr / 8) / 8 * 8).toNatClampNeg) + (4 * ((xr / 64) - (xr / 64) / 32 * 32))) - ((mr ((xr / 8) - (xr / 8) / 8 * 8).toNatClampNeg) + (4 * ((xr / 64) - (xr / 64) / 32 * 32))) / 4 * 4) = 0 then if 2048 ≤ xr then (1, upd mr (xr - xr / 8 * 8).toNatClampNeg (mw ((((mr ((xr / 8) - (xr / 8) / 8 * 8).toNatClampNeg) + (4 * ((xr / 64) - (xr / 64) / 32 * 32))) / 4) - 1024).toNatClampNeg), mw) else (1, mr, upd mw ((((mr ((xr / 8) - (xr / 8) / 8 * 8).toNatClampNeg) + (4 * ((xr / 64) - (xr / 64) / 32 * 32))) / 4) - 1024).toNatClampNeg (mr (xr - xr / 8 * 8).toNatClampNeg)) else (0, mr, mw) else (0, mr, mw)
set_option maxRecDepth 20000 in
theorem b_Mo_memory (xr : Int32) (mr : Nat → Int32) (mw : Nat → Int32) : narrow .boolean (.int (FMo_memory xr mr mw).1) = .int (FMo_memory xr mr mw).1 := by
  unfold FMo_memory
  repeat' (first | apply pq_bif1 | exact pq_b0 | exact pq_b1 | apply b_Mo_outside)
set_option maxHeartbeats 4000000 in
set_option maxRecDepth 100000 in
theorem k_Mo_memory (l : Launch) (D : va_G) (ad : Nat → Nat) (cI cS : ClassId) (xr : Int32) (mq : Int32) (mn : Int32) (me : Int32) (mo : Int32) (mt : Int32) (mx : Int32) (mp : Int32) (mz : Int32) (mu : Int32) (vn : Int32) (vz : Int32) (vc : Int32) (vv : Int32) (vp : Int32) (ve : Int32) (mK : Nat → Int32) (mA : Nat → Int32) (mB : Nat → Int32) (mC : Nat → Int32) (mf : Nat → Int32) (ml : Nat → Int32) (mc : Nat → Int32) (mL : Nat → Int32) (md : Nat → Int32) (mi : Nat → Int32) (mr : Nat → Int32) (mw : Nat → Int32) (hx0 : ¬ xr < 0) : pq_I l yMo_memory (.code yMo_memory cMo_memory 3 (some .boolean) :: pq_ws) { frames := 1, cells := 0, slots := 0, locals := 22 } D cI cS [.ref (ad 17), .int xr] (wM ad cI cS mq mn me mo mt mx mp mz mu vn vz vc vv vp ve mK mA mB mC mf ml mc mL md mi mr mw) ((FMo_memory xr mr mw).1) (wM ad cI cS mq mn me mo mt mx mp mz mu vn vz vc vv vp ve mK mA mB mC mf ml mc mL md mi ((FMo_memory xr mr mw).2.1) ((FMo_memory xr mr mw).2.2)) := by
  intro sz
  refine Met.ofW (cc := cMo_memory) (maxL := 3) (ret := (some .boolean)) (by decide) rfl ?_
  intro p e s m args below meth c s₁ B hml hv
  obtain ⟨rfl, hsz, hP, hD0, hE⟩ := hv
  have hx := B.exec
  have hb := B.bytes
  have hr := B.returns
  have hts := atoms_spec (ws := (.code yMo_memory cMo_memory 3 (some .boolean) :: pq_ws : List Cond)) B.pre
  have hw : ∀ w ∈ pq_ws, w.before _ s = true := fun w h => hts w (List.mem_cons_of_mem _ h)
  have hown : s.vm.findClass RMo = some m.cls := findClass_of_methodNamed B.named
  have hlocks := B.notSynchronized
  subst hsz
  have hD := hD0.self (sz := s.heap.size)
  have hA : ∀ q : Nat, s.heap.size ≤ q → va_A (wM ad cI cS mq mn me mo mt mx mp mz mu vn vz vc vv vp ve mK mA mB mC mf ml mc mL md mi mr mw) s.heap.size q := fun q h => Or.inr h
  have hS : va_S (va_A (wM ad cI cS mq mn me mo mt mx mp mz mu vn vz vc vv vp ve mK mA mB mC mf ml mc mL md mi mr mw) s.heap.size) s.heap s.heap [] := va_S.rf
  have hl := lv_entry ([.ref (ad 17), .int xr] : List Value) (n := 3) (Nat.le_of_ble_eq_true rfl)
  rw [lg_entry_eq]
  generalize (lg_sl ([.ref (ad 17), .int xr] : List Value) ++ List.replicate (3 - (lg_sl ([.ref (ad 17), .int xr] : List Value)).length) Slot.unset).toArray = ls at hl ⊢
  have hl : lv_has ls 3 [(0, .ref (ad 17)), (1, .int xr)] := hl
  refine lv_aload_n hx hb dMo_memory_0 rfl (lv_at hl 0 rfl) ?_
  refine va_get (D := D) (ci := 5) (v := .ref (ad 28)) (C := RMo) (T := TMo) (N := 27) hx hb hw pinMo hown hE.1 hP 0 rfl rfl 19 (by decide) (hw _ wd_213) (fun _ h9 => h9) rfl dMo_memory_1 ?_
  refine lv_iload_n hx hb dMo_memory_4 rfl (lv_at hl 1 rfl) ?_
  refine lv_bipush (v := 8) hx hb dMo_memory_5 (by first | rfl | decide) ?_
  refine lv_idiv hx hb dMo_memory_7 (by decide) ?_
  refine lv_bipush (v := 8) hx hb dMo_memory_8 (by first | rfl | decide) ?_
  refine lv_irem hx hb dMo_memory_10 (by decide) ?_
  refine va_iald hx hb hE.1 hP 11 0 rfl rfl (pq_rem8 (pq_div0 (d := 8) hx0 (by decide))) dMo_memory_11 ?_
  refine lv_iconst (v := 4) hx hb dMo_memory_12 (by first | rfl | decide) ?_
  refine lv_iload_n hx hb dMo_memory_13 rfl (lv_at hl 1 rfl) ?_
  refine lv_bipush (v := 64) hx hb dMo_memory_14 (by first | rfl | decide) ?_
  refine lv_idiv hx hb dMo_memory_16 (by decide) ?_
  refine lv_bipush (v := 32) hx hb dMo_memory_17 (by first | rfl | decide) ?_
  refine lv_irem hx hb dMo_memory_19 (by decide) ?_
  refine lv_imul hx hb dMo_memory_20 ?_
  refine lv_iadd hx hb dMo_memory_21 ?_
  refine lv_istore_n (lv' := [(2, .int ((mr ((xr / 8) - (xr / 8) / 8 * 8).toNatClampNeg) + (4 * ((xr / 64) - (xr / 64) / 32 * 32)))), (0, .ref (ad 17)), (1, .int xr)]) hx hb dMo_memory_22 rfl hl (by decide) rfl (fun ls hl => ?_)
  refine lv_iload_n hx hb dMo_memory_23 rfl (lv_at hl 0 rfl) ?_
  refine lv_sipush (v := 4096) hx hb dMo_memory_24 (by first | rfl | decide) ?_
  refine lv_sipush (v := 4220) hx hb dMo_memory_27 (by first | rfl | decide) ?_
  refine pq_calli (fr := (FMo_outside ((mr ((xr / 8) - (xr / 8) / 8 * 8).toNatClampNeg) + (4 * ((xr / 64) - (xr / 64) / 32 * 32))) 4096 4220)) (wc := (wN ad cI cS)) (wr := ([0, 1, 2, 3, 4, 5, 6, 7, 8, 9, 10, 11, 12] : List Nat).filterMap (fun i => (wM ad cI cS mq mn me mo mt mx mp mz mu vn vz vc vv vp ve mK mA mB mC mf ml mc mL md mi mr mw)[i]?)) hP hD hS hA [] [0, 1, 2, 3, 4, 5, 6, 7, 8, 9, 10, 11, 12] rfl rfl (by decide) (by decide) (va_runS (own := RMo) (As := [.int ((mr ((xr / 8) - (xr / 8) / 8 * 8).toNatClampNeg) + (4 * ((xr / 64) - (xr / 64) / 32 * 32))), .int 4096, .int 4220]) (rest := []) ⟨hx, hb, hml, hown, hw⟩ (k_Mo_outside l D ad cI cS ((mr ((xr / 8) - (xr / 8) / 8 * 8).toNatClampNeg) + (4 * ((xr / 64) - (xr / 64) / 32 * 32))) 4096 4220 s.heap.size) ⟨pq_cwB 3 hw wd_187 wd_186 wd_185 rfl rfl (by decide +kernel) ⟨Nat.le_of_ble_eq_true rfl, Nat.le_of_ble_eq_true rfl⟩, hw _ wd_188⟩ (pq_preS hE (hP.sub [] rfl) (hD.sub [] (by decide) rfl)) rfl rfl hl.1 rfl (lv_room (Nat.le_of_ble_eq_true rfl)) dMo_memory_30 ⟨Nat.zero_le _, Nat.zero_le _⟩) (fun H locs hP hD hS => ?_)
  have hP : va_P D vwCl (wM ad cI cS mq mn me mo mt mx mp mz mu vn vz vc vv vp ve mK mA mB mC mf ml mc mL md mi mr mw) H := hP.sub [0, 1, 2, 3, 4, 5, 6, 7, 8, 9, 10, 11, 12] rfl
  have hD : va_D _ (wM ad cI cS mq mn me mo mt mx mp mz mu vn vz vc vv vp ve mK mA mB mC mf ml mc mL md mi mr mw) := hD.sub [0, 1, 2, 3, 4, 5, 6, 7, 8, 9, 10, 11, 12] (by decide) rfl
  refine lv_if_ne (tgt := 42) hx hb dMo_memory_33 (by decide) (fun h1 => ?_) (fun h1 => ?_)
  · refine lv_iconst (v := 0) hx hb dMo_memory_42 (by first | rfl | decide) ?_
    have e9 : FMo_memory xr mr mw = (0, mr, mw) := by simp only [FMo_memory, if_neg h1]
    exact W.zret (v := 0) hx hb hr rfl (fun t ht hW => ⟨⟨0, (), rfl, (by show _ = _; rw [e9]), by rw [e9, ht]; exact hP, by rw [e9]; exact hD⟩, hS.F ht⟩) hS.2.2 dMo_memory_43
  · refine lv_iload_n hx hb dMo_memory_36 rfl (lv_at hl 0 rfl) ?_
    refine lv_iconst (v := 4) hx hb dMo_memory_37 (by first | rfl | decide) ?_
    refine lv_irem hx hb dMo_memory_38 (by decide) ?_
    refine lv_if_eq (tgt := 44) hx hb dMo_memory_39 (by decide) (fun h2 => ?_) (fun h2 => ?_)
    · refine lv_iload_n hx hb dMo_memory_44 rfl (lv_at hl 2 rfl) ?_
      refine lv_sipush (v := 2048) hx hb dMo_memory_45 (by first | rfl | decide) ?_
      refine lv_icmp_ge (tgt := 75) hx hb dMo_memory_48 (by decide) (fun h3 => ?_) (fun h3 => ?_)
      · refine lv_aload_n hx hb dMo_memory_75 rfl (lv_at hl 1 rfl) ?_
        refine va_get (D := D) (ci := 5) (v := .ref (ad 28)) (C := RMo) (T := TMo) (N := 27) hx hb hw pinMo hown hE.1 hP 0 rfl rfl 19 (by decide) (hw _ wd_213) (fun _ h9 => h9) rfl dMo_memory_76 ?_
        refine lv_iload_n hx hb dMo_memory_79 rfl (lv_at hl 2 rfl) ?_
        refine lv_bipush (v := 8) hx hb dMo_memory_80 (by first | rfl | decide) ?_
        refine lv_irem hx hb dMo_memory_82 (by decide) ?_
        refine lv_aload_n hx hb dMo_memory_83 rfl (lv_at hl 1 rfl) ?_
        refine va_get (D := D) (ci := 5) (v := .ref (ad 29)) (C := RMo) (T := TMo) (N := 27) hx hb hw pinMo hown hE.1 hP 0 rfl rfl 20 (by decide) (hw _ wd_222) (fun _ h9 => h9) rfl dMo_memory_84 ?_
        refine lv_iload_n hx hb dMo_memory_87 rfl (lv_at hl 0 rfl) ?_
        refine lv_iconst (v := 4) hx hb dMo_memory_88 (by first | rfl | decide) ?_
        refine lv_idiv hx hb dMo_memory_89 (by decide) ?_
        refine lv_sipush (v := 1024) hx hb dMo_memory_90 (by first | rfl | decide) ?_
        refine lv_isub hx hb dMo_memory_93 ?_
        refine va_iald hx hb hE.1 hP 12 0 rfl rfl (pq_m4 (by assumption)) dMo_memory_94 ?_
        refine va_iast hx hb hE.1 hP hD hS 11 0 rfl rfl (pq_rem8 hx0) dMo_memory_95 (fun H locs hP hD hS => ?_)
        have hP : va_P D vwCl (wM ad cI cS mq mn me mo mt mx mp mz mu vn vz vc vv vp ve mK mA mB mC mf ml mc mL md mi (upd mr (xr - xr / 8 * 8).toNatClampNeg (mw ((((mr ((xr / 8) - (xr / 8) / 8 * 8).toNatClampNeg) + (4 * ((xr / 64) - (xr / 64) / 32 * 32))) / 4) - 1024).toNatClampNeg)) mw) H := hP
        have hD : va_D _ (wM ad cI cS mq mn me mo mt mx mp mz mu vn vz vc vv vp ve mK mA mB mC mf ml mc mL md mi (upd mr (xr - xr / 8 * 8).toNatClampNeg (mw ((((mr ((xr / 8) - (xr / 8) / 8 * 8).toNatClampNeg) + (4 * ((xr / 64) - (xr / 64) / 32 * 32))) / 4) - 1024).toNatClampNeg)) mw) := hD
        refine lv_iconst (v := 1) hx hb dMo_memory_96 (by first | rfl | decide) ?_
        have e9 : FMo_memory xr mr mw = (1, upd mr (xr - xr / 8 * 8).toNatClampNeg (mw ((((mr ((xr / 8) - (xr / 8) / 8 * 8).toNatClampNeg) + (4 * ((xr / 64) - (xr / 64) / 32 * 32))) / 4) - 1024).toNatClampNeg), mw) := by simp only [FMo_memory, if_pos h1, if_pos h2, if_pos h3]
        exact W.zret (v := 1) hx hb hr rfl (fun t ht hW => ⟨⟨1, (), rfl, (by show _ = _; rw [e9]), by rw [e9, ht]; exact hP, by rw [e9]; exact hD⟩, hS.F ht⟩) hS.2.2 dMo_memory_97
      · refine lv_aload_n hx hb dMo_memory_51 rfl (lv_at hl 1 rfl) ?_
        refine va_get (D := D) (ci := 5) (v := .ref (ad 29)) (C := RMo) (T := TMo) (N := 27) hx hb hw pinMo hown hE.1 hP 0 rfl rfl 20 (by decide) (hw _ wd_222) (fun _ h9 => h9) rfl dMo_memory_52 ?_
        refine lv_iload_n hx hb dMo_memory_55 rfl (lv_at hl 0 rfl) ?_
        refine lv_iconst (v := 4) hx hb dMo_memory_56 (by first | rfl | decide) ?_
        refine lv_idiv hx hb dMo_memory_57 (by decide) ?_
        refine lv_sipush (v := 1024) hx hb dMo_memory_58 (by first | rfl | decide) ?_
        refine lv_isub hx hb dMo_memory_61 ?_
        refine lv_aload_n hx hb dMo_memory_62 rfl (lv_at hl 1 rfl) ?_
        refine va_get (D := D) (ci := 5) (v := .ref (ad 28)) (C := RMo) (T := TMo) (N := 27) hx hb hw pinMo hown hE.1 hP 0 rfl rfl 19 (by decide) (hw _ wd_213) (fun _ h9 => h9) rfl dMo_memory_63 ?_
        refine lv_iload_n hx hb dMo_memory_66 rfl (lv_at hl 2 rfl) ?_
        refine lv_bipush (v := 8) hx hb dMo_memory_67 (by first | rfl | decide) ?_
        refine lv_irem hx hb dMo_memory_69 (by decide) ?_
        refine va_iald hx hb hE.1 hP 11 0 rfl rfl (pq_rem8 hx0) dMo_memory_70 ?_
        refine va_iast hx hb hE.1 hP hD hS 12 0 rfl rfl (pq_m4 (by assumption)) dMo_memory_71 (fun H locs hP hD hS => ?_)
        have hP : va_P D vwCl (wM ad cI cS mq mn me mo mt mx mp mz mu vn vz vc vv vp ve mK mA mB mC mf ml mc mL md mi mr (upd mw ((((mr ((xr / 8) - (xr / 8) / 8 * 8).toNatClampNeg) + (4 * ((xr / 64) - (xr / 64) / 32 * 32))) / 4) - 1024).toNatClampNeg (mr (xr - xr / 8 * 8).toNatClampNeg))) H := hP
        have hD : va_D _ (wM ad cI cS mq mn me mo mt mx mp mz mu vn vz vc vv vp ve mK mA mB mC mf ml mc mL md mi mr (upd mw ((((mr ((xr / 8) - (xr / 8) / 8 * 8).toNatClampNeg) + (4 * ((xr / 64) - (xr / 64) / 32 * 32))) / 4) - 1024).toNatClampNeg (mr (xr - xr / 8 * 8).toNatClampNeg))) := hD
        refine lv_goto (tgt := 96) hx hb dMo_memory_72 (by decide) ?_
        refine lv_iconst (v := 1) hx hb dMo_memory_96 (by first | rfl | decide) ?_
        have e9 : FMo_memory xr mr mw = (1, mr, upd mw ((((mr ((xr / 8) - (xr / 8) / 8 * 8).toNatClampNeg) + (4 * ((xr / 64) - (xr / 64) / 32 * 32))) / 4) - 1024).toNatClampNeg (mr (xr - xr / 8 * 8).toNatClampNeg)) := by simp only [FMo_memory, if_pos h1, if_pos h2, if_neg h3]
        exact W.zret (v := 1) hx hb hr rfl (fun t ht hW => ⟨⟨1, (), rfl, (by show _ = _; rw [e9]), by rw [e9, ht]; exact hP, by rw [e9]; exact hD⟩, hS.F ht⟩) hS.2.2 dMo_memory_97
    · refine lv_iconst (v := 0) hx hb dMo_memory_42 (by first | rfl | decide) ?_
      have e9 : FMo_memory xr mr mw = (0, mr, mw) := by simp only [FMo_memory, if_pos h1, if_neg h2]
      exact W.zret (v := 0) hx hb hr rfl (fun t ht hW => ⟨⟨0, (), rfl, (by show _ = _; rw [e9]), by rw [e9, ht]; exact hP, by rw [e9]; exact hD⟩, hS.F ht⟩) hS.2.2 dMo_memory_43
def FMo_constantTo (xr : Int32) (mz : Int32) (vp : Int32) (mi : Nat → Int32) (mr : Nat → Int32) : Int32 × (Nat → Int32) := if ((((FMo_base vp) / 2) + (2 * (xr - xr / 256 * 256))) + 1) < mz then (1, upd mr (xr / 256).toNatClampNeg ((mi (((FMo_base vp) / 2) + (2 * (xr - xr / 256 * 256))).toNatClampNeg) + ((mi ((((FMo_base vp) / 2) + (2 * (xr - xr / 256 * 256))) + 1).toNatClampNeg) <<< ((16 : Int32) &&& 31)))) else (0, mr)
set_option maxRecDepth 20000 in
theorem b_Mo_constantTo (xr : Int32) (mz : Int32) (vp : Int32) (mi : Nat → Int32) (mr : Nat → Int32) : narrow .boolean (.int (FMo_constantTo xr mz vp mi mr).1) = .int (FMo_constantTo xr mz vp mi mr).1 := by
  unfold FMo_constantTo
  repeat' (first | apply pq_bif1 | exact pq_b0 | exact pq_b1)
set_option maxHeartbeats 4000000 in
set_option maxRecDepth 100000 in
theorem k_Mo_constantTo (l : Launch) (D : va_G) (ad : Nat → Nat) (cI cS : ClassId) (xr : Int32) (mq : Int32) (mn : Int32) (me : Int32) (mo : Int32) (mt : Int32) (mx : Int32) (mp : Int32) (mz : Int32) (mu : Int32) (vn : Int32) (vz : Int32) (vc : Int32) (vv : Int32) (vp : Int32) (ve : Int32) (mK : Nat → Int32) (mA : Nat → Int32) (mB : Nat → Int32) (mC : Nat → Int32) (mf : Nat → Int32) (ml : Nat → Int32) (mc : Nat → Int32) (mL : Nat → Int32) (md : Nat → Int32) (mi : Nat → Int32) (mr : Nat → Int32) (mw : Nat → Int32) (hx0 : ¬ xr < 0) (hx1 : xr < 2048) (hv0 : ¬ vp < 0) (hv1 : vp.toInt ≤ 14400) (hmz : mz.toInt ≤ 7200) : pq_I l yMo_constantTo (.code yMo_constantTo cMo_constantTo 3 (some .boolean) :: pq_ws) { frames := 1, cells := 0, slots := 0, locals := 20 } D cI cS [.ref (ad 17), .int xr] (wM ad cI cS mq mn me mo mt mx mp mz mu vn vz vc vv vp ve mK mA mB mC mf ml mc mL md mi mr mw) ((FMo_constantTo xr mz vp mi mr).1) (wM ad cI cS mq mn me mo mt mx mp mz mu vn vz vc vv vp ve mK mA mB mC mf ml mc mL md mi ((FMo_constantTo xr mz vp mi mr).2) mw) := by
  intro sz
  refine Met.ofW (cc := cMo_constantTo) (maxL := 3) (ret := (some .boolean)) (by decide) rfl ?_
  intro p e s m args below meth c s₁ B hml hv
  obtain ⟨rfl, hsz, hP, hD0, hE⟩ := hv
  have hx := B.exec
  have hb := B.bytes
  have hr := B.returns
  have hts := atoms_spec (ws := (.code yMo_constantTo cMo_constantTo 3 (some .boolean) :: pq_ws : List Cond)) B.pre
  have hw : ∀ w ∈ pq_ws, w.before _ s = true := fun w h => hts w (List.mem_cons_of_mem _ h)
  have hown : s.vm.findClass RMo = some m.cls := findClass_of_methodNamed B.named
  have hlocks := B.notSynchronized
  subst hsz
  have hD := hD0.self (sz := s.heap.size)
  have hA : ∀ q : Nat, s.heap.size ≤ q → va_A (wM ad cI cS mq mn me mo mt mx mp mz mu vn vz vc vv vp ve mK mA mB mC mf ml mc mL md mi mr mw) s.heap.size q := fun q h => Or.inr h
  have hS : va_S (va_A (wM ad cI cS mq mn me mo mt mx mp mz mu vn vz vc vv vp ve mK mA mB mC mf ml mc mL md mi mr mw) s.heap.size) s.heap s.heap [] := va_S.rf
  have hl := lv_entry ([.ref (ad 17), .int xr] : List Value) (n := 3) (Nat.le_of_ble_eq_true rfl)
  rw [lg_entry_eq]
  generalize (lg_sl ([.ref (ad 17), .int xr] : List Value) ++ List.replicate (3 - (lg_sl ([.ref (ad 17), .int xr] : List Value)).length) Slot.unset).toArray = ls at hl ⊢
  have hl : lv_has ls 3 [(0, .ref (ad 17)), (1, .int xr)] := hl
  refine lv_aload_n hx hb dMo_constantTo_0 rfl (lv_at hl 0 rfl) ?_
  refine va_get (D := D) (ci := 5) (v := .int vp) (C := RMo) (T := TMo) (N := 27) hx hb hw pinMo hown hE.1 hP 0 rfl rfl 25 (by decide) (hw _ wd_212) (fun _ h9 => h9) rfl dMo_constantTo_1 ?_
  refine pq_calli (fr := (FMo_base vp)) (wc := (wN ad cI cS)) (wr := ([0, 1, 2, 3, 4, 5, 6, 7, 8, 9, 10, 11, 12] : List Nat).filterMap (fun i => (wM ad cI cS mq mn me mo mt mx mp mz mu vn vz vc vv vp ve mK mA mB mC mf ml mc mL md mi mr mw)[i]?)) hP hD hS hA [] [0, 1, 2, 3, 4, 5, 6, 7, 8, 9, 10, 11, 12] rfl rfl (by decide) (by decide) (va_runS (own := RMo) (As := [.int vp]) (rest := []) ⟨hx, hb, hml, hown, hw⟩ (k_Mo_base l D ad cI cS vp s.heap.size) ⟨pq_cwB 1 hw wd_224 wd_186 wd_223 rfl rfl (by decide +kernel) ⟨Nat.le_of_ble_eq_true rfl, Nat.le_of_ble_eq_true rfl⟩, hw _ wd_225⟩ (pq_preS hE (hP.sub [] rfl) (hD.sub [] (by decide) rfl)) rfl rfl hl.1 rfl (lv_room (Nat.le_of_ble_eq_true rfl)) dMo_constantTo_4 ⟨Nat.zero_le _, Nat.zero_le _⟩) (fun H locs hP hD hS => ?_)
  have hP : va_P D vwCl (wM ad cI cS mq mn me mo mt mx mp mz mu vn vz vc vv vp ve mK mA mB mC mf ml mc mL md mi mr mw) H := hP.sub [0, 1, 2, 3, 4, 5, 6, 7, 8, 9, 10, 11, 12] rfl
  have hD : va_D _ (wM ad cI cS mq mn me mo mt mx mp mz mu vn vz vc vv vp ve mK mA mB mC mf ml mc mL md mi mr mw) := hD.sub [0, 1, 2, 3, 4, 5, 6, 7, 8, 9, 10, 11, 12] (by decide) rfl
  refine lv_iconst (v := 2) hx hb dMo_constantTo_7 (by first | rfl | decide) ?_
  refine lv_idiv hx hb dMo_constantTo_8 (by decide) ?_
  refine lv_iconst (v := 2) hx hb dMo_constantTo_9 (by first | rfl | decide) ?_
  refine lv_iload_n hx hb dMo_constantTo_10 rfl (lv_at hl 1 rfl) ?_
  refine lv_sipush (v := 256) hx hb dMo_constantTo_11 (by first | rfl | decide) ?_
  refine lv_irem hx hb dMo_constantTo_14 (by decide) ?_
  refine lv_imul hx hb dMo_constantTo_15 ?_
  refine lv_iadd hx hb dMo_constantTo_16 ?_
  refine lv_istore_n (lv' := [(2, .int (((FMo_base vp) / 2) + (2 * (xr - xr / 256 * 256)))), (0, .ref (ad 17)), (1, .int xr)]) hx hb dMo_constantTo_17 rfl hl (by decide) rfl (fun ls hl => ?_)
  refine lv_iload_n hx hb dMo_constantTo_18 rfl (lv_at hl 0 rfl) ?_
  refine lv_iconst (v := 1) hx hb dMo_constantTo_19 (by first | rfl | decide) ?_
  refine lv_iadd hx hb dMo_constantTo_20 ?_
  refine lv_aload_n hx hb dMo_constantTo_21 rfl (lv_at hl 1 rfl) ?_
  refine va_get (D := D) (ci := 5) (v := .int mz) (C := RMo) (T := TMo) (N := 27) hx hb hw pinMo hown hE.1 hP 0 rfl rfl 16 (by decide) (hw _ wd_199) (fun _ h9 => h9) rfl dMo_constantTo_22 ?_
  refine lv_icmp_lt (tgt := 30) hx hb dMo_constantTo_25 (by decide) (fun h1 => ?_) (fun h1 => ?_)
  · refine lv_aload_n hx hb dMo_constantTo_30 rfl (lv_at hl 1 rfl) ?_
    refine va_get (D := D) (ci := 5) (v := .ref (ad 28)) (C := RMo) (T := TMo) (N := 27) hx hb hw pinMo hown hE.1 hP 0 rfl rfl 19 (by decide) (hw _ wd_213) (fun _ h9 => h9) rfl dMo_constantTo_31 ?_
    refine lv_iload_n hx hb dMo_constantTo_34 rfl (lv_at hl 2 rfl) ?_
    refine lv_sipush (v := 256) hx hb dMo_constantTo_35 (by first | rfl | decide) ?_
    refine lv_idiv hx hb dMo_constantTo_38 (by decide) ?_
    refine lv_aload_n hx hb dMo_constantTo_39 rfl (lv_at hl 1 rfl) ?_
    refine va_get (D := D) (ci := 5) (v := .ref (ad 27)) (C := RMo) (T := TMo) (N := 27) hx hb hw pinMo hown hE.1 hP 0 rfl rfl 18 (by decide) (hw _ wd_226) (fun _ h9 => h9) rfl dMo_constantTo_40 ?_
    refine lv_iload_n hx hb dMo_constantTo_43 rfl (lv_at hl 0 rfl) ?_
    refine va_iald hx hb hE.1 hP 10 0 rfl rfl ((pq_ck hx0 hv0 hv1 hmz (by assumption)).1) dMo_constantTo_44 ?_
    refine lv_aload_n hx hb dMo_constantTo_45 rfl (lv_at hl 1 rfl) ?_
    refine va_get (D := D) (ci := 5) (v := .ref (ad 27)) (C := RMo) (T := TMo) (N := 27) hx hb hw pinMo hown hE.1 hP 0 rfl rfl 18 (by decide) (hw _ wd_226) (fun _ h9 => h9) rfl dMo_constantTo_46 ?_
    refine lv_iload_n hx hb dMo_constantTo_49 rfl (lv_at hl 0 rfl) ?_
    refine lv_iconst (v := 1) hx hb dMo_constantTo_50 (by first | rfl | decide) ?_
    refine lv_iadd hx hb dMo_constantTo_51 ?_
    refine va_iald hx hb hE.1 hP 10 0 rfl rfl ((pq_ck hx0 hv0 hv1 hmz (by assumption)).2) dMo_constantTo_52 ?_
    refine lv_bipush (v := 16) hx hb dMo_constantTo_53 (by first | rfl | decide) ?_
    refine lv_ishl hx hb dMo_constantTo_55 ?_
    refine lv_iadd hx hb dMo_constantTo_56 ?_
    refine va_iast hx hb hE.1 hP hD hS 11 0 rfl rfl (pq_d256 hx0 hx1) dMo_constantTo_57 (fun H locs hP hD hS => ?_)
    have hP : va_P D vwCl (wM ad cI cS mq mn me mo mt mx mp mz mu vn vz vc vv vp ve mK mA mB mC mf ml mc mL md mi (upd mr (xr / 256).toNatClampNeg ((mi (((FMo_base vp) / 2) + (2 * (xr - xr / 256 * 256))).toNatClampNeg) + ((mi ((((FMo_base vp) / 2) + (2 * (xr - xr / 256 * 256))) + 1).toNatClampNeg) <<< ((16 : Int32) &&& 31)))) mw) H := hP
    have hD : va_D _ (wM ad cI cS mq mn me mo mt mx mp mz mu vn vz vc vv vp ve mK mA mB mC mf ml mc mL md mi (upd mr (xr / 256).toNatClampNeg ((mi (((FMo_base vp) / 2) + (2 * (xr - xr / 256 * 256))).toNatClampNeg) + ((mi ((((FMo_base vp) / 2) + (2 * (xr - xr / 256 * 256))) + 1).toNatClampNeg) <<< ((16 : Int32) &&& 31)))) mw) := hD
    refine lv_iconst (v := 1) hx hb dMo_constantTo_58 (by first | rfl | decide) ?_
    have e9 : FMo_constantTo xr mz vp mi mr = (1, upd mr (xr / 256).toNatClampNeg ((mi (((FMo_base vp) / 2) + (2 * (xr - xr / 256 * 256))).toNatClampNeg) + ((mi ((((FMo_base vp) / 2) + (2 * (xr - xr / 256 * 256))) + 1).toNatClampNeg) <<< ((16 : Int32) &&& 31)))) := by simp only [FMo_constantTo, if_pos h1]
    exact W.zret (v := 1) hx hb hr rfl (fun t ht hW => ⟨⟨1, (), rfl, (by show _ = _; rw [e9]), by rw [e9, ht]; exact hP, by rw [e9]; exact hD⟩, hS.F ht⟩) hS.2.2 dMo_constantTo_59
  · refine lv_iconst (v := 0) hx hb dMo_constantTo_28 (by first | rfl | decide) ?_
    have e9 : FMo_constantTo xr mz vp mi mr = (0, mr) := by simp only [FMo_constantTo, if_neg h1]
    exact W.zret (v := 0) hx hb hr rfl (fun t ht hW => ⟨⟨0, (), rfl, (by show _ = _; rw [e9]), by rw [e9, ht]; exact hP, by rw [e9]; exact hD⟩, hS.F ht⟩) hS.2.2 dMo_constantTo_29
