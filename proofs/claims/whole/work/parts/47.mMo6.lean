theorem pq_phi_le {me mo k : Int32} {B B' : Int} (h : pq_phi me mo k B) (hB : B ≤ B') : pq_phi me mo k B' := by
  obtain ⟨h0, ⟨h1, h2⟩ | ⟨h1, h2, h3⟩⟩ := h
  · exact ⟨h0, Or.inl ⟨h1, by omega⟩⟩
  · exact ⟨h0, Or.inr ⟨h1, h2, by omega⟩⟩
theorem pq_phi_me {me mo k : Int32} {B : Int} (h : pq_phi me mo k B) : ¬ me < 0 ∧ me.toInt ≤ B := by
  obtain ⟨h0, ⟨h1, h2⟩ | ⟨h1, h2, h3⟩⟩ := h
  · exact ⟨h0, h2⟩
  · exact ⟨h0, by omega⟩
theorem pq_phi_half {me mo k : Int32} {B : Int} (h : pq_phi me mo k B) (hB : B < 14400) : vp_in (me / 2) 7200 := by
  obtain ⟨h0, h1⟩ := pq_phi_me h
  exact pq_half h0 (by omega)
theorem pq_phi_next {me mo k : Int32} {B : Int} (h : pq_phi me mo k B) (hB : B ≤ 14400) : pq_phi (me + 2) mo k (B + 2) := by
  have h9 := pq_phi_me h
  obtain ⟨e1, e2⟩ := pq_add2 h9.1 (by omega)
  obtain ⟨h0, ⟨h1, h2⟩ | ⟨h1, h2, h3⟩⟩ := h
  · exact ⟨e1, Or.inl ⟨h1, by omega⟩⟩
  · exact ⟨e1, Or.inr ⟨h1, h2, by omega⟩⟩
theorem pq_phi_pool {me mo k : Int32} {B : Int} (h : mo = (-1) ∧ ¬ me < 0 ∧ me.toInt ≤ B) (hB : B ≤ 14400) : pq_phi (me + 2) mo k (B + 2) := pq_phi_next ⟨h.2.1, Or.inl ⟨h.1, h.2.2⟩⟩ hB
theorem pq_updv {f : Nat → Int32} {k : Nat} {x : Int32} (hf : ∀ j : Nat, vp_in (f j / 2) 7200) (hx : vp_in (x / 2) 7200) : ∀ j : Nat, vp_in (upd f k x j / 2) 7200 := by
  intro j
  unfold upd
  split
  · exact hx
  · exact hf j
theorem pq_m1v : vp_in ((-1 : Int32) / 2) 7200 := by
  show vp_in 0 7200
  exact vp_in_nI (n := 0) (by decide) (by decide)
theorem pq_phi_step {me mo : Int32} {i : Nat} {B : Int} (h : pq_phi me mo (nI i) B) (hi : i < 1000) (hB : B + 4 ≤ 84 * ((i + 1 : Nat) : Int)) : pq_phi me mo (nI (i + 1)) (84 * ((i + 1 : Nat) : Int)) := by
  obtain ⟨h0, ⟨h1, h2⟩ | ⟨h1, h2, h3⟩⟩ := h
  · exact ⟨h0, Or.inl ⟨h1, by omega⟩⟩
  · rw [nI_toInt (by omega)] at h2 h3
    refine ⟨h0, Or.inr ⟨h1, ?_, ?_⟩⟩
    · rw [nI_toInt (by omega)]; omega
    · rw [nI_toInt (by omega)]; omega
theorem pq_phi_new {me mo : Int32} {i : Nat} {B : Int} (h : pq_phi me mo (nI i) B) (hm : mo = (-1)) (hi : i < 1000) (hB : B + 8 ≤ 84 * ((i + 1 : Nat) : Int)) : pq_phi me (nI i) (nI (i + 1)) (84 * ((i + 1 : Nat) : Int)) := by
  obtain ⟨-, h0, h1⟩ := pq_phi0 h hm
  refine ⟨h0, Or.inr ⟨nI_pos (by omega), ?_, ?_⟩⟩
  · rw [nI_toInt (by omega), nI_toInt (by omega)]; omega
  · rw [nI_toInt (by omega), nI_toInt (by omega)]; omega
theorem pq_phi_none {me mo k : Int32} {B : Int} (h : mo = (-1) ∧ ¬ me < 0 ∧ me.toInt ≤ B) : pq_phi me mo k B := ⟨h.2.1, Or.inl ⟨h.1, h.2.2⟩⟩
theorem pq_eqc {y : Int32} {c j : Nat} (hc : y = nI c) (hb : c < 2 ^ 31) (hj : j ≤ c) (h : y ≤ nI j) : j = c := by
  rw [hc, nI_leI hb (by omega)] at h
  omega
theorem pq_clt {i : Nat} (h : i < 160) : (nI i).toNatClampNeg < 160 := by rw [nI_clamp (by omega)]; exact h
/-- a line that makes a half by a label has a label -/
def pq_ka (k a : Int32) : Prop := k = 1 ∨ k = 2 ∨ k = 3 ∨ k = 4 ∨ k = 5 ∨ k = 6 ∨ k = 7 ∨ k = 8 ∨ k = 9 ∨ k = 10 ∨ k = 15 ∨ vp_in a 16
theorem pq_kaN {k a : Int32} (h : pq_ka k a) (h1 : ¬ k = 1) (h2 : ¬ k = 2) (h3 : ¬ k = 3) (h4 : ¬ k = 4) (h5 : ¬ k = 5) (h6 : ¬ k = 6) (h7 : ¬ k = 7) (h8 : ¬ k = 8) (h9 : ¬ k = 9) (h10 : ¬ k = 10) (h15 : ¬ k = 15) : vp_in a 16 := by
  rcases h with h | h | h | h | h | h | h | h | h | h | h | h
  all_goals first | exact h | contradiction
theorem pq_kaE {k a v : Int32} (h : pq_ka k a) (hk : k = v) (hv : ¬ (v = 1 ∨ v = 2 ∨ v = 3 ∨ v = 4 ∨ v = 5 ∨ v = 6 ∨ v = 7 ∨ v = 8 ∨ v = 9 ∨ v = 10 ∨ v = 15)) : vp_in a 16 := by
  subst hk
  simp only [not_or] at hv
  obtain ⟨a1, a2, a3, a4, a5, a6, a7, a8, a9, a10, a15⟩ := hv
  exact pq_kaN h a1 a2 a3 a4 a5 a6 a7 a8 a9 a10 a15
theorem pq_div2 {x : Int32} (h0 : ¬ x < 0) (h1 : x.toInt ≤ 13440) : ¬ x / 2 < 0 ∧ (x / 2).toInt ≤ 7200 := by
  obtain ⟨j, hj, rfl⟩ := nI_of h0
  rw [nI_toInt hj] at h1
  have e : nI j / 2 = nI (j / 2) := pk_div (d := 2) hj (by omega) (by omega)
  rw [e]
  refine ⟨nI_pos (by omega), ?_⟩
  rw [nI_toInt (by omega)]
  omega
theorem pq_1310 {P : Prop} {x : Int32} (h : x = 13) (h' : x = 10) : P := absurd (h.symm.trans h') (by decide)

theorem wd_294 : Cond.fieldLink RMo 25 RMo "last" "[I" ∈ pq_ws := pq_memT 546 (by decide +kernel) (by decide +kernel)
theorem wd_295 : Cond.code yMo_pool cMo_pool 9 none ∈ pq_ws := pq_memT 656 (by decide +kernel) (by decide +kernel)
theorem wd_296 : Cond.methodLink RMo 100 yMo_pool ∈ pq_ws := pq_memT 653 (by decide +kernel) (by decide +kernel)
theorem wd_297 : Cond.instanceMethod yMo_pool ∈ pq_ws := pq_memT 655 (by decide +kernel) (by decide +kernel)
theorem wd_298 : Cond.selects RMo yMo_pool yMo_pool ∈ pq_ws := pq_mem (by decide +kernel) (by decide +kernel)
theorem wd_299 : Cond.code yMo_place cMo_place 2 none ∈ pq_ws := pq_memT 673 (by decide +kernel) (by decide +kernel)
theorem wd_300 : Cond.methodLink RMo 104 yMo_place ∈ pq_ws := pq_memT 670 (by decide +kernel) (by decide +kernel)
theorem wd_301 : Cond.instanceMethod yMo_place ∈ pq_ws := pq_memT 672 (by decide +kernel) (by decide +kernel)
theorem wd_302 : Cond.selects RMo yMo_place yMo_place ∈ pq_ws := pq_mem (by decide +kernel) (by decide +kernel)
theorem wd_303 : Cond.code yMo_address cMo_address 3 (some .int) ∈ pq_ws := pq_memT 685 (by decide +kernel) (by decide +kernel)
theorem wd_304 : Cond.methodLink RMo 108 yMo_address ∈ pq_ws := pq_memT 682 (by decide +kernel) (by decide +kernel)
theorem wd_305 : Cond.instanceMethod yMo_address ∈ pq_ws := pq_memT 684 (by decide +kernel) (by decide +kernel)
theorem wd_306 : Cond.selects RMo yMo_address yMo_address ∈ pq_ws := pq_mem (by decide +kernel) (by decide +kernel)
theorem wd_307 : Cond.code yMo_halfOf cMo_halfOf 6 (some .int) ∈ pq_ws := pq_memT 680 (by decide +kernel) (by decide +kernel)
theorem wd_308 : Cond.methodLink RMo 115 yMo_halfOf ∈ pq_ws := pq_memT 677 (by decide +kernel) (by decide +kernel)
theorem wd_309 : Cond.instanceMethod yMo_halfOf ∈ pq_ws := pq_memT 679 (by decide +kernel) (by decide +kernel)
theorem wd_310 : Cond.selects RMo yMo_halfOf yMo_halfOf ∈ pq_ws := pq_mem (by decide +kernel) (by decide +kernel)
theorem wd_311 : Cond.code yMo_reckon cMo_reckon 4 none ∈ pq_ws := pq_memT 652 (by decide +kernel) (by decide +kernel)
theorem wd_312 : Cond.methodLink RMo 112 yMo_reckon ∈ pq_ws := pq_memT 649 (by decide +kernel) (by decide +kernel)
theorem wd_313 : Cond.instanceMethod yMo_reckon ∈ pq_ws := pq_memT 651 (by decide +kernel) (by decide +kernel)
theorem wd_314 : Cond.selects RMo yMo_reckon yMo_reckon ∈ pq_ws := pq_mem (by decide +kernel) (by decide +kernel)
def FMo_place (xk : Int32) (me : Int32) (mo : Int32) (mt : Int32) (mp : Int32) (mK : Nat → Int32) (mB : Nat → Int32) (mf : Nat → Int32) (ml : Nat → Int32) (mc : Nat → Int32) (md : Nat → Int32) : Int32 × Int32 × Int32 × Int32 × (Nat → Int32) × (Nat → Int32) × (Nat → Int32) × (Nat → Int32) := if mo = (-1) then if (mf xk.toNatClampNeg) = (-1) then (me + 2, mo, mK xk.toNatClampNeg, mp, mc, md, upd ml xk.toNatClampNeg me, upd mf xk.toNatClampNeg me) else (me + 2, mo, mK xk.toNatClampNeg, mp, mc, md, upd ml xk.toNatClampNeg me, upd mf xk.toNatClampNeg (mf xk.toNatClampNeg)) else if ((FMo_up (me + 4)) - (FMo_base (ml mo.toNatClampNeg))) ≤ 1020 then if (mf xk.toNatClampNeg) = (-1) then (me + 2, mo, mK xk.toNatClampNeg, mp, mc, md, upd ml xk.toNatClampNeg me, upd mf xk.toNatClampNeg me) else (me + 2, mo, mK xk.toNatClampNeg, mp, mc, md, upd ml xk.toNatClampNeg me, upd mf xk.toNatClampNeg (mf xk.toNatClampNeg)) else if (mf xk.toNatClampNeg) = (-1) then ((FMo_pool xk me mo mt mp mK mB mc md).1 + 2, (FMo_pool xk me mo mt mp mK mB mc md).2.1, mK xk.toNatClampNeg, (FMo_pool xk me mo mt mp mK mB mc md).2.2.2.1, (FMo_pool xk me mo mt mp mK mB mc md).2.2.2.2.1, (FMo_pool xk me mo mt mp mK mB mc md).2.2.2.2.2, upd ml xk.toNatClampNeg (FMo_pool xk me mo mt mp mK mB mc md).1, upd mf xk.toNatClampNeg (FMo_pool xk me mo mt mp mK mB mc md).1) else ((FMo_pool xk me mo mt mp mK mB mc md).1 + 2, (FMo_pool xk me mo mt mp mK mB mc md).2.1, mK xk.toNatClampNeg, (FMo_pool xk me mo mt mp mK mB mc md).2.2.2.1, (FMo_pool xk me mo mt mp mK mB mc md).2.2.2.2.1, (FMo_pool xk me mo mt mp mK mB mc md).2.2.2.2.2, upd ml xk.toNatClampNeg (FMo_pool xk me mo mt mp mK mB mc md).1, upd mf xk.toNatClampNeg (mf xk.toNatClampNeg))
set_option maxHeartbeats 4000000 in
set_option maxRecDepth 100000 in
theorem k_Mo_place (l : Launch) (D : va_G) (ad : Nat → Nat) (cI cS : ClassId) (xk : Int32) (mq : Int32) (mn : Int32) (me : Int32) (mo : Int32) (mt : Int32) (mx : Int32) (mp : Int32) (mz : Int32) (mu : Int32) (vn : Int32) (vz : Int32) (vc : Int32) (vv : Int32) (vp : Int32) (ve : Int32) (mK : Nat → Int32) (mA : Nat → Int32) (mB : Nat → Int32) (mC : Nat → Int32) (mf : Nat → Int32) (ml : Nat → Int32) (mc : Nat → Int32) (mL : Nat → Int32) (md : Nat → Int32) (mi : Nat → Int32) (mr : Nat → Int32) (mw : Nat → Int32) (hxk : vp_in xk 160) (bb : Int) (hpl : pq_phi me mo xk bb) (hB : bb + 2 ≤ 14400) (hf : ∀ y9 : Nat, vp_in (mf y9 / 2) 7200) (hlv : ∀ y9 : Nat, vp_in (ml y9 / 2) 7200) : pq_VP l yMo_place (.code yMo_place cMo_place 2 none :: pq_ws) { frames := 2, cells := 0, slots := 0, locals := 51 } D cI cS [.ref (ad 17), .int xk] (wM ad cI cS mq mn me mo mt mx mp mz mu vn vz vc vv vp ve mK mA mB mC mf ml mc mL md mi mr mw) ((pq_phi ((FMo_place xk me mo mt mp mK mB mf ml mc md).1) ((FMo_place xk me mo mt mp mK mB mf ml mc md).2.1) xk (bb + 2)) ∧ (∀ y9 : Nat, vp_in (((FMo_place xk me mo mt mp mK mB mf ml mc md).2.2.2.2.2.2.2) y9 / 2) 7200) ∧ (∀ y9 : Nat, vp_in (((FMo_place xk me mo mt mp mK mB mf ml mc md).2.2.2.2.2.2.1) y9 / 2) 7200)) (wM ad cI cS mq mn ((FMo_place xk me mo mt mp mK mB mf ml mc md).1) ((FMo_place xk me mo mt mp mK mB mf ml mc md).2.1) ((FMo_place xk me mo mt mp mK mB mf ml mc md).2.2.1) mx ((FMo_place xk me mo mt mp mK mB mf ml mc md).2.2.2.1) mz mu vn vz vc vv vp ve mK mA mB mC ((FMo_place xk me mo mt mp mK mB mf ml mc md).2.2.2.2.2.2.2) ((FMo_place xk me mo mt mp mK mB mf ml mc md).2.2.2.2.2.2.1) ((FMo_place xk me mo mt mp mK mB mf ml mc md).2.2.2.2.1) mL ((FMo_place xk me mo mt mp mK mB mf ml mc md).2.2.2.2.2.1) mi mr mw) := by
  intro sz
  refine Met.ofW (cc := cMo_place) (maxL := 2) (ret := none) (by decide) rfl ?_
  intro p e s m args below meth c s₁ B hml hv
  obtain ⟨rfl, hsz, hP, hD0, hE⟩ := hv
  have hx := B.exec
  have hb := B.bytes
  have hr := B.returns
  have hts := atoms_spec (ws := (.code yMo_place cMo_place 2 none :: pq_ws : List Cond)) B.pre
  have hw : ∀ w ∈ pq_ws, w.before _ s = true := fun w h => hts w (List.mem_cons_of_mem _ h)
  have hown : s.vm.findClass RMo = some m.cls := findClass_of_methodNamed B.named
  have hlocks := B.notSynchronized
  subst hsz
  have hD := hD0.self (sz := s.heap.size)
  have hA : ∀ q : Nat, s.heap.size ≤ q → va_A (wM ad cI cS mq mn me mo mt mx mp mz mu vn vz vc vv vp ve mK mA mB mC mf ml mc mL md mi mr mw) s.heap.size q := fun q h => Or.inr h
  have hS : va_S (va_A (wM ad cI cS mq mn me mo mt mx mp mz mu vn vz vc vv vp ve mK mA mB mC mf ml mc mL md mi mr mw) s.heap.size) s.heap s.heap [] := va_S.rf
  have hl := lv_entry ([.ref (ad 17), .int xk] : List Value) (n := 2) (Nat.le_of_ble_eq_true rfl)
  rw [lg_entry_eq]
  generalize (lg_sl ([.ref (ad 17), .int xk] : List Value) ++ List.replicate (2 - (lg_sl ([.ref (ad 17), .int xk] : List Value)).length) Slot.unset).toArray = ls at hl ⊢
  have hl : lv_has ls 2 [(0, .ref (ad 17)), (1, .int xk)] := hl
  refine lv_aload_n hx hb dMo_place_0 rfl (lv_at hl 0 rfl) ?_
  refine va_get (D := D) (ci := 5) (v := .int mo) (C := RMo) (T := TMo) (N := 27) hx hb hw pinMo hown hE.1 hP 0 rfl rfl 11 (by decide) (hw _ wd_288) (fun _ h9 => h9) rfl dMo_place_1 ?_
  refine lv_iconst (v := (-1)) hx hb dMo_place_4 (by first | rfl | decide) ?_
  refine lv_icmp_eq (tgt := 41) hx hb dMo_place_5 (by decide) (fun h1 => ?_) (fun h1 => ?_)
  · refine lv_aload_n hx hb dMo_place_41 rfl (lv_at hl 0 rfl) ?_
    refine va_get (D := D) (ci := 5) (v := .ref (ad 23)) (C := RMo) (T := TMo) (N := 27) hx hb hw pinMo hown hE.1 hP 0 rfl rfl 7 (by decide) (hw _ wd_294) (fun _ h9 => h9) rfl dMo_place_42 ?_
    refine lv_iload_n hx hb dMo_place_45 rfl (lv_at hl 1 rfl) ?_
    refine lv_aload_n hx hb dMo_place_46 rfl (lv_at hl 0 rfl) ?_
    refine va_get (D := D) (ci := 5) (v := .int me) (C := RMo) (T := TMo) (N := 27) hx hb hw pinMo hown hE.1 hP 0 rfl rfl 10 (by decide) (hw _ wd_278) (fun _ h9 => h9) rfl dMo_place_47 ?_
    refine va_iast hx hb hE.1 hP hD hS 6 0 rfl rfl hxk dMo_place_50 (fun H locs hP hD hS => ?_)
    have hP : va_P D vwCl (wM ad cI cS mq mn me mo mt mx mp mz mu vn vz vc vv vp ve mK mA mB mC mf (upd ml xk.toNatClampNeg me) mc mL md mi mr mw) H := hP
    have hD : va_D _ (wM ad cI cS mq mn me mo mt mx mp mz mu vn vz vc vv vp ve mK mA mB mC mf (upd ml xk.toNatClampNeg me) mc mL md mi mr mw) := hD
    refine lv_aload_n hx hb dMo_place_51 rfl (lv_at hl 0 rfl) ?_
    refine va_get (D := D) (ci := 5) (v := .ref (ad 22)) (C := RMo) (T := TMo) (N := 27) hx hb hw pinMo hown hE.1 hP 0 rfl rfl 6 (by decide) (hw _ wd_277) (fun _ h9 => h9) rfl dMo_place_52 ?_
    refine lv_iload_n hx hb dMo_place_55 rfl (lv_at hl 1 rfl) ?_
    refine lv_aload_n hx hb dMo_place_56 rfl (lv_at hl 0 rfl) ?_
    refine va_get (D := D) (ci := 5) (v := .ref (ad 22)) (C := RMo) (T := TMo) (N := 27) hx hb hw pinMo hown hE.1 hP 0 rfl rfl 6 (by decide) (hw _ wd_277) (fun _ h9 => h9) rfl dMo_place_57 ?_
    refine lv_iload_n hx hb dMo_place_60 rfl (lv_at hl 1 rfl) ?_
    refine va_iald hx hb hE.1 hP 5 0 rfl rfl hxk dMo_place_61 ?_
    refine lv_iconst (v := (-1)) hx hb dMo_place_62 (by first | rfl | decide) ?_
    refine lv_icmp_ne (tgt := 73) hx hb dMo_place_63 (by decide) (fun h2 => ?_) (fun h2 => ?_)
    · refine lv_aload_n hx hb dMo_place_73 rfl (lv_at hl 0 rfl) ?_
      refine va_get (D := D) (ci := 5) (v := .ref (ad 22)) (C := RMo) (T := TMo) (N := 27) hx hb hw pinMo hown hE.1 hP 0 rfl rfl 6 (by decide) (hw _ wd_277) (fun _ h9 => h9) rfl dMo_place_74 ?_
      refine lv_iload_n hx hb dMo_place_77 rfl (lv_at hl 1 rfl) ?_
      refine va_iald hx hb hE.1 hP 5 0 rfl rfl hxk dMo_place_78 ?_
      refine va_iast hx hb hE.1 hP hD hS 5 0 rfl rfl hxk dMo_place_79 (fun H locs hP hD hS => ?_)
      have hP : va_P D vwCl (wM ad cI cS mq mn me mo mt mx mp mz mu vn vz vc vv vp ve mK mA mB mC (upd mf xk.toNatClampNeg (mf xk.toNatClampNeg)) (upd ml xk.toNatClampNeg me) mc mL md mi mr mw) H := hP
      have hD : va_D _ (wM ad cI cS mq mn me mo mt mx mp mz mu vn vz vc vv vp ve mK mA mB mC (upd mf xk.toNatClampNeg (mf xk.toNatClampNeg)) (upd ml xk.toNatClampNeg me) mc mL md mi mr mw) := hD
      refine lv_aload_n hx hb dMo_place_80 rfl (lv_at hl 0 rfl) ?_
      refine lv_dup hx hb dMo_place_81 rfl ?_
      refine va_get (D := D) (ci := 5) (v := .int me) (C := RMo) (T := TMo) (N := 27) hx hb hw pinMo hown hE.1 hP 0 rfl rfl 10 (by decide) (hw _ wd_278) (fun _ h9 => h9) rfl dMo_place_82 ?_
      refine lv_iconst (v := 2) hx hb dMo_place_85 (by first | rfl | decide) ?_
      refine lv_iadd hx hb dMo_place_86 ?_
      refine va_put (D := D) (ci := 5) (v := .int (me + 2)) (ty := .int) (C := RMo) (T := TMo) (N := 27) hx hb hw pinMo tyMo tyMo_ok nmMo hown hE.1 hP hD hS 0 rfl rfl 10 (by decide) (hw _ wd_278) (fun _ h9 => h9) rfl (by decide +kernel) rfl rfl (Nat.le_of_ble_eq_true rfl) dMo_place_87 (fun H locs hP hD hS => ?_)
      have hP : va_P D vwCl (wM ad cI cS mq mn (me + 2) mo mt mx mp mz mu vn vz vc vv vp ve mK mA mB mC (upd mf xk.toNatClampNeg (mf xk.toNatClampNeg)) (upd ml xk.toNatClampNeg me) mc mL md mi mr mw) H := hP
      have hD : va_D _ (wM ad cI cS mq mn (me + 2) mo mt mx mp mz mu vn vz vc vv vp ve mK mA mB mC (upd mf xk.toNatClampNeg (mf xk.toNatClampNeg)) (upd ml xk.toNatClampNeg me) mc mL md mi mr mw) := hD
      refine lv_aload_n hx hb dMo_place_90 rfl (lv_at hl 0 rfl) ?_
      refine lv_aload_n hx hb dMo_place_91 rfl (lv_at hl 0 rfl) ?_
      refine va_get (D := D) (ci := 5) (v := .ref (ad 18)) (C := RMo) (T := TMo) (N := 27) hx hb hw pinMo hown hE.1 hP 0 rfl rfl 2 (by decide) (hw _ wd_273) (fun _ h9 => h9) rfl dMo_place_92 ?_
      refine lv_iload_n hx hb dMo_place_95 rfl (lv_at hl 1 rfl) ?_
      refine va_iald hx hb hE.1 hP 1 0 rfl rfl hxk dMo_place_96 ?_
      refine va_put (D := D) (ci := 5) (v := .int (mK xk.toNatClampNeg)) (ty := .int) (C := RMo) (T := TMo) (N := 27) hx hb hw pinMo tyMo tyMo_ok nmMo hown hE.1 hP hD hS 0 rfl rfl 12 (by decide) (hw _ wd_289) (fun _ h9 => h9) rfl (by decide +kernel) rfl rfl (Nat.le_of_ble_eq_true rfl) dMo_place_97 (fun H locs hP hD hS => ?_)
      have hP : va_P D vwCl (wM ad cI cS mq mn (me + 2) mo (mK xk.toNatClampNeg) mx mp mz mu vn vz vc vv vp ve mK mA mB mC (upd mf xk.toNatClampNeg (mf xk.toNatClampNeg)) (upd ml xk.toNatClampNeg me) mc mL md mi mr mw) H := hP
      have hD : va_D _ (wM ad cI cS mq mn (me + 2) mo (mK xk.toNatClampNeg) mx mp mz mu vn vz vc vv vp ve mK mA mB mC (upd mf xk.toNatClampNeg (mf xk.toNatClampNeg)) (upd ml xk.toNatClampNeg me) mc mL md mi mr mw) := hD
      have e9 : FMo_place xk me mo mt mp mK mB mf ml mc md = (me + 2, mo, mK xk.toNatClampNeg, mp, mc, md, upd ml xk.toNatClampNeg me, upd mf xk.toNatClampNeg (mf xk.toNatClampNeg)) := by simp only [FMo_place, if_pos h1, if_neg h2]
      have p9 : (pq_phi (me + 2) mo xk (bb + 2)) ∧ (∀ y9 : Nat, vp_in ((upd mf xk.toNatClampNeg (mf xk.toNatClampNeg)) y9 / 2) 7200) ∧ (∀ y9 : Nat, vp_in ((upd ml xk.toNatClampNeg me) y9 / 2) 7200) := ⟨pq_phi_next hpl (by omega), pq_updv hf (hf _), pq_updv hlv (pq_phi_half hpl (by omega))⟩
      exact W.vret hx hb hr (fun t ht hW => ⟨⟨(), rfl, by rw [e9]; exact p9, by rw [e9, ht]; exact hP, by rw [e9]; exact hD⟩, hS.F ht⟩) hS.2.2 dMo_place_100
    · refine lv_aload_n hx hb dMo_place_66 rfl (lv_at hl 0 rfl) ?_
      refine va_get (D := D) (ci := 5) (v := .int me) (C := RMo) (T := TMo) (N := 27) hx hb hw pinMo hown hE.1 hP 0 rfl rfl 10 (by decide) (hw _ wd_278) (fun _ h9 => h9) rfl dMo_place_67 ?_
      refine lv_goto (tgt := 79) hx hb dMo_place_70 (by decide) ?_
      refine va_iast hx hb hE.1 hP hD hS 5 0 rfl rfl hxk dMo_place_79 (fun H locs hP hD hS => ?_)
      have hP : va_P D vwCl (wM ad cI cS mq mn me mo mt mx mp mz mu vn vz vc vv vp ve mK mA mB mC (upd mf xk.toNatClampNeg me) (upd ml xk.toNatClampNeg me) mc mL md mi mr mw) H := hP
      have hD : va_D _ (wM ad cI cS mq mn me mo mt mx mp mz mu vn vz vc vv vp ve mK mA mB mC (upd mf xk.toNatClampNeg me) (upd ml xk.toNatClampNeg me) mc mL md mi mr mw) := hD
      refine lv_aload_n hx hb dMo_place_80 rfl (lv_at hl 0 rfl) ?_
      refine lv_dup hx hb dMo_place_81 rfl ?_
      refine va_get (D := D) (ci := 5) (v := .int me) (C := RMo) (T := TMo) (N := 27) hx hb hw pinMo hown hE.1 hP 0 rfl rfl 10 (by decide) (hw _ wd_278) (fun _ h9 => h9) rfl dMo_place_82 ?_
      refine lv_iconst (v := 2) hx hb dMo_place_85 (by first | rfl | decide) ?_
      refine lv_iadd hx hb dMo_place_86 ?_
      refine va_put (D := D) (ci := 5) (v := .int (me + 2)) (ty := .int) (C := RMo) (T := TMo) (N := 27) hx hb hw pinMo tyMo tyMo_ok nmMo hown hE.1 hP hD hS 0 rfl rfl 10 (by decide) (hw _ wd_278) (fun _ h9 => h9) rfl (by decide +kernel) rfl rfl (Nat.le_of_ble_eq_true rfl) dMo_place_87 (fun H locs hP hD hS => ?_)
      have hP : va_P D vwCl (wM ad cI cS mq mn (me + 2) mo mt mx mp mz mu vn vz vc vv vp ve mK mA mB mC (upd mf xk.toNatClampNeg me) (upd ml xk.toNatClampNeg me) mc mL md mi mr mw) H := hP
      have hD : va_D _ (wM ad cI cS mq mn (me + 2) mo mt mx mp mz mu vn vz vc vv vp ve mK mA mB mC (upd mf xk.toNatClampNeg me) (upd ml xk.toNatClampNeg me) mc mL md mi mr mw) := hD
      refine lv_aload_n hx hb dMo_place_90 rfl (lv_at hl 0 rfl) ?_
      refine lv_aload_n hx hb dMo_place_91 rfl (lv_at hl 0 rfl) ?_
      refine va_get (D := D) (ci := 5) (v := .ref (ad 18)) (C := RMo) (T := TMo) (N := 27) hx hb hw pinMo hown hE.1 hP 0 rfl rfl 2 (by decide) (hw _ wd_273) (fun _ h9 => h9) rfl dMo_place_92 ?_
      refine lv_iload_n hx hb dMo_place_95 rfl (lv_at hl 1 rfl) ?_
      refine va_iald hx hb hE.1 hP 1 0 rfl rfl hxk dMo_place_96 ?_
      refine va_put (D := D) (ci := 5) (v := .int (mK xk.toNatClampNeg)) (ty := .int) (C := RMo) (T := TMo) (N := 27) hx hb hw pinMo tyMo tyMo_ok nmMo hown hE.1 hP hD hS 0 rfl rfl 12 (by decide) (hw _ wd_289) (fun _ h9 => h9) rfl (by decide +kernel) rfl rfl (Nat.le_of_ble_eq_true rfl) dMo_place_97 (fun H locs hP hD hS => ?_)
      have hP : va_P D vwCl (wM ad cI cS mq mn (me + 2) mo (mK xk.toNatClampNeg) mx mp mz mu vn vz vc vv vp ve mK mA mB mC (upd mf xk.toNatClampNeg me) (upd ml xk.toNatClampNeg me) mc mL md mi mr mw) H := hP
      have hD : va_D _ (wM ad cI cS mq mn (me + 2) mo (mK xk.toNatClampNeg) mx mp mz mu vn vz vc vv vp ve mK mA mB mC (upd mf xk.toNatClampNeg me) (upd ml xk.toNatClampNeg me) mc mL md mi mr mw) := hD
      have e9 : FMo_place xk me mo mt mp mK mB mf ml mc md = (me + 2, mo, mK xk.toNatClampNeg, mp, mc, md, upd ml xk.toNatClampNeg me, upd mf xk.toNatClampNeg me) := by simp only [FMo_place, if_pos h1, if_pos h2]
      have p9 : (pq_phi (me + 2) mo xk (bb + 2)) ∧ (∀ y9 : Nat, vp_in ((upd mf xk.toNatClampNeg me) y9 / 2) 7200) ∧ (∀ y9 : Nat, vp_in ((upd ml xk.toNatClampNeg me) y9 / 2) 7200) := ⟨pq_phi_next hpl (by omega), pq_updv hf (pq_phi_half hpl (by omega)), pq_updv hlv (pq_phi_half hpl (by omega))⟩
      exact W.vret hx hb hr (fun t ht hW => ⟨⟨(), rfl, by rw [e9]; exact p9, by rw [e9, ht]; exact hP, by rw [e9]; exact hD⟩, hS.F ht⟩) hS.2.2 dMo_place_100
  · refine lv_aload_n hx hb dMo_place_8 rfl (lv_at hl 0 rfl) ?_
    refine va_get (D := D) (ci := 5) (v := .int me) (C := RMo) (T := TMo) (N := 27) hx hb hw pinMo hown hE.1 hP 0 rfl rfl 10 (by decide) (hw _ wd_278) (fun _ h9 => h9) rfl dMo_place_9 ?_
    refine lv_iconst (v := 4) hx hb dMo_place_12 (by first | rfl | decide) ?_
    refine lv_iadd hx hb dMo_place_13 ?_
    refine pq_calli (fr := (FMo_up (me + 4))) (wc := (wN ad cI cS)) (wr := ([0, 1, 2, 3, 4, 5, 6, 7, 8, 9, 10, 11, 12] : List Nat).filterMap (fun i => (wM ad cI cS mq mn me mo mt mx mp mz mu vn vz vc vv vp ve mK mA mB mC mf ml mc mL md mi mr mw)[i]?)) hP hD hS hA [] [0, 1, 2, 3, 4, 5, 6, 7, 8, 9, 10, 11, 12] rfl rfl (by decide) (by decide) (va_runS (own := RMo) (As := [.int (me + 4)]) (rest := []) ⟨hx, hb, hml, hown, hw⟩ (k_Mo_up l D ad cI cS (me + 4) s.heap.size) ⟨pq_cwB 1 hw wd_291 wd_186 wd_290 rfl rfl (by decide +kernel) ⟨Nat.le_of_ble_eq_true rfl, Nat.le_of_ble_eq_true rfl⟩, hw _ wd_292⟩ (pq_preS hE (hP.sub [] rfl) (hD.sub [] (by decide) rfl)) rfl rfl hl.1 rfl (lv_room (Nat.le_of_ble_eq_true rfl)) dMo_place_14 ⟨Nat.zero_le _, Nat.zero_le _⟩) (fun H locs hP hD hS => ?_)
    have hP : va_P D vwCl (wM ad cI cS mq mn me mo mt mx mp mz mu vn vz vc vv vp ve mK mA mB mC mf ml mc mL md mi mr mw) H := hP.sub [0, 1, 2, 3, 4, 5, 6, 7, 8, 9, 10, 11, 12] rfl
    have hD : va_D _ (wM ad cI cS mq mn me mo mt mx mp mz mu vn vz vc vv vp ve mK mA mB mC mf ml mc mL md mi mr mw) := hD.sub [0, 1, 2, 3, 4, 5, 6, 7, 8, 9, 10, 11, 12] (by decide) rfl
    refine lv_aload_n hx hb dMo_place_17 rfl (lv_at hl 0 rfl) ?_
    refine va_get (D := D) (ci := 5) (v := .ref (ad 23)) (C := RMo) (T := TMo) (N := 27) hx hb hw pinMo hown hE.1 hP 0 rfl rfl 7 (by decide) (hw _ wd_294) (fun _ h9 => h9) rfl dMo_place_18 ?_
    refine lv_aload_n hx hb dMo_place_21 rfl (lv_at hl 0 rfl) ?_
    refine va_get (D := D) (ci := 5) (v := .int mo) (C := RMo) (T := TMo) (N := 27) hx hb hw pinMo hown hE.1 hP 0 rfl rfl 11 (by decide) (hw _ wd_288) (fun _ h9 => h9) rfl dMo_place_22 ?_
    refine va_iald hx hb hE.1 hP 6 0 rfl rfl (pq_phi_mo hpl (by assumption) hxk) dMo_place_25 ?_
    refine pq_calli (fr := (FMo_base (ml mo.toNatClampNeg))) (wc := (wN ad cI cS)) (wr := ([0, 1, 2, 3, 4, 5, 6, 7, 8, 9, 10, 11, 12] : List Nat).filterMap (fun i => (wM ad cI cS mq mn me mo mt mx mp mz mu vn vz vc vv vp ve mK mA mB mC mf ml mc mL md mi mr mw)[i]?)) hP hD hS hA [] [0, 1, 2, 3, 4, 5, 6, 7, 8, 9, 10, 11, 12] rfl rfl (by decide) (by decide) (va_runS (own := RMo) (As := [.int (ml mo.toNatClampNeg)]) (rest := [.int (FMo_up (me + 4))]) ⟨hx, hb, hml, hown, hw⟩ (k_Mo_base l D ad cI cS (ml mo.toNatClampNeg) H.size) ⟨pq_cwB 1 hw wd_224 wd_186 wd_223 rfl rfl (by decide +kernel) ⟨Nat.le_of_ble_eq_true rfl, Nat.le_of_ble_eq_true rfl⟩, hw _ wd_225⟩ (pq_preS hE (hP.sub [] rfl) (hD.sub [] (by decide) rfl)) rfl rfl hl.1 rfl (lv_room (Nat.le_of_ble_eq_true rfl)) dMo_place_26 ⟨Nat.zero_le _, Nat.zero_le _⟩) (fun H locs hP hD hS => ?_)
    have hP : va_P D vwCl (wM ad cI cS mq mn me mo mt mx mp mz mu vn vz vc vv vp ve mK mA mB mC mf ml mc mL md mi mr mw) H := hP.sub [0, 1, 2, 3, 4, 5, 6, 7, 8, 9, 10, 11, 12] rfl
    have hD : va_D _ (wM ad cI cS mq mn me mo mt mx mp mz mu vn vz vc vv vp ve mK mA mB mC mf ml mc mL md mi mr mw) := hD.sub [0, 1, 2, 3, 4, 5, 6, 7, 8, 9, 10, 11, 12] (by decide) rfl
    refine lv_isub hx hb dMo_place_29 ?_
    refine lv_sipush (v := 1020) hx hb dMo_place_30 (by first | rfl | decide) ?_
    refine lv_icmp_le (tgt := 41) hx hb dMo_place_33 (by decide) (fun h3 => ?_) (fun h3 => ?_)
    · refine lv_aload_n hx hb dMo_place_41 rfl (lv_at hl 0 rfl) ?_
      refine va_get (D := D) (ci := 5) (v := .ref (ad 23)) (C := RMo) (T := TMo) (N := 27) hx hb hw pinMo hown hE.1 hP 0 rfl rfl 7 (by decide) (hw _ wd_294) (fun _ h9 => h9) rfl dMo_place_42 ?_
      refine lv_iload_n hx hb dMo_place_45 rfl (lv_at hl 1 rfl) ?_
      refine lv_aload_n hx hb dMo_place_46 rfl (lv_at hl 0 rfl) ?_
      refine va_get (D := D) (ci := 5) (v := .int me) (C := RMo) (T := TMo) (N := 27) hx hb hw pinMo hown hE.1 hP 0 rfl rfl 10 (by decide) (hw _ wd_278) (fun _ h9 => h9) rfl dMo_place_47 ?_
      refine va_iast hx hb hE.1 hP hD hS 6 0 rfl rfl hxk dMo_place_50 (fun H locs hP hD hS => ?_)
      have hP : va_P D vwCl (wM ad cI cS mq mn me mo mt mx mp mz mu vn vz vc vv vp ve mK mA mB mC mf (upd ml xk.toNatClampNeg me) mc mL md mi mr mw) H := hP
      have hD : va_D _ (wM ad cI cS mq mn me mo mt mx mp mz mu vn vz vc vv vp ve mK mA mB mC mf (upd ml xk.toNatClampNeg me) mc mL md mi mr mw) := hD
      refine lv_aload_n hx hb dMo_place_51 rfl (lv_at hl 0 rfl) ?_
      refine va_get (D := D) (ci := 5) (v := .ref (ad 22)) (C := RMo) (T := TMo) (N := 27) hx hb hw pinMo hown hE.1 hP 0 rfl rfl 6 (by decide) (hw _ wd_277) (fun _ h9 => h9) rfl dMo_place_52 ?_
      refine lv_iload_n hx hb dMo_place_55 rfl (lv_at hl 1 rfl) ?_
      refine lv_aload_n hx hb dMo_place_56 rfl (lv_at hl 0 rfl) ?_
      refine va_get (D := D) (ci := 5) (v := .ref (ad 22)) (C := RMo) (T := TMo) (N := 27) hx hb hw pinMo hown hE.1 hP 0 rfl rfl 6 (by decide) (hw _ wd_277) (fun _ h9 => h9) rfl dMo_place_57 ?_
      refine lv_iload_n hx hb dMo_place_60 rfl (lv_at hl 1 rfl) ?_
      refine va_iald hx hb hE.1 hP 5 0 rfl rfl hxk dMo_place_61 ?_
      refine lv_iconst (v := (-1)) hx hb dMo_place_62 (by first | rfl | decide) ?_
      refine lv_icmp_ne (tgt := 73) hx hb dMo_place_63 (by decide) (fun h4 => ?_) (fun h4 => ?_)
      · refine lv_aload_n hx hb dMo_place_73 rfl (lv_at hl 0 rfl) ?_
        refine va_get (D := D) (ci := 5) (v := .ref (ad 22)) (C := RMo) (T := TMo) (N := 27) hx hb hw pinMo hown hE.1 hP 0 rfl rfl 6 (by decide) (hw _ wd_277) (fun _ h9 => h9) rfl dMo_place_74 ?_
        refine lv_iload_n hx hb dMo_place_77 rfl (lv_at hl 1 rfl) ?_
        refine va_iald hx hb hE.1 hP 5 0 rfl rfl hxk dMo_place_78 ?_
        refine va_iast hx hb hE.1 hP hD hS 5 0 rfl rfl hxk dMo_place_79 (fun H locs hP hD hS => ?_)
        have hP : va_P D vwCl (wM ad cI cS mq mn me mo mt mx mp mz mu vn vz vc vv vp ve mK mA mB mC (upd mf xk.toNatClampNeg (mf xk.toNatClampNeg)) (upd ml xk.toNatClampNeg me) mc mL md mi mr mw) H := hP
        have hD : va_D _ (wM ad cI cS mq mn me mo mt mx mp mz mu vn vz vc vv vp ve mK mA mB mC (upd mf xk.toNatClampNeg (mf xk.toNatClampNeg)) (upd ml xk.toNatClampNeg me) mc mL md mi mr mw) := hD
        refine lv_aload_n hx hb dMo_place_80 rfl (lv_at hl 0 rfl) ?_
        refine lv_dup hx hb dMo_place_81 rfl ?_
        refine va_get (D := D) (ci := 5) (v := .int me) (C := RMo) (T := TMo) (N := 27) hx hb hw pinMo hown hE.1 hP 0 rfl rfl 10 (by decide) (hw _ wd_278) (fun _ h9 => h9) rfl dMo_place_82 ?_
        refine lv_iconst (v := 2) hx hb dMo_place_85 (by first | rfl | decide) ?_
        refine lv_iadd hx hb dMo_place_86 ?_
        refine va_put (D := D) (ci := 5) (v := .int (me + 2)) (ty := .int) (C := RMo) (T := TMo) (N := 27) hx hb hw pinMo tyMo tyMo_ok nmMo hown hE.1 hP hD hS 0 rfl rfl 10 (by decide) (hw _ wd_278) (fun _ h9 => h9) rfl (by decide +kernel) rfl rfl (Nat.le_of_ble_eq_true rfl) dMo_place_87 (fun H locs hP hD hS => ?_)
        have hP : va_P D vwCl (wM ad cI cS mq mn (me + 2) mo mt mx mp mz mu vn vz vc vv vp ve mK mA mB mC (upd mf xk.toNatClampNeg (mf xk.toNatClampNeg)) (upd ml xk.toNatClampNeg me) mc mL md mi mr mw) H := hP
        have hD : va_D _ (wM ad cI cS mq mn (me + 2) mo mt mx mp mz mu vn vz vc vv vp ve mK mA mB mC (upd mf xk.toNatClampNeg (mf xk.toNatClampNeg)) (upd ml xk.toNatClampNeg me) mc mL md mi mr mw) := hD
        refine lv_aload_n hx hb dMo_place_90 rfl (lv_at hl 0 rfl) ?_
        refine lv_aload_n hx hb dMo_place_91 rfl (lv_at hl 0 rfl) ?_
        refine va_get (D := D) (ci := 5) (v := .ref (ad 18)) (C := RMo) (T := TMo) (N := 27) hx hb hw pinMo hown hE.1 hP 0 rfl rfl 2 (by decide) (hw _ wd_273) (fun _ h9 => h9) rfl dMo_place_92 ?_
        refine lv_iload_n hx hb dMo_place_95 rfl (lv_at hl 1 rfl) ?_
        refine va_iald hx hb hE.1 hP 1 0 rfl rfl hxk dMo_place_96 ?_
        refine va_put (D := D) (ci := 5) (v := .int (mK xk.toNatClampNeg)) (ty := .int) (C := RMo) (T := TMo) (N := 27) hx hb hw pinMo tyMo tyMo_ok nmMo hown hE.1 hP hD hS 0 rfl rfl 12 (by decide) (hw _ wd_289) (fun _ h9 => h9) rfl (by decide +kernel) rfl rfl (Nat.le_of_ble_eq_true rfl) dMo_place_97 (fun H locs hP hD hS => ?_)
        have hP : va_P D vwCl (wM ad cI cS mq mn (me + 2) mo (mK xk.toNatClampNeg) mx mp mz mu vn vz vc vv vp ve mK mA mB mC (upd mf xk.toNatClampNeg (mf xk.toNatClampNeg)) (upd ml xk.toNatClampNeg me) mc mL md mi mr mw) H := hP
        have hD : va_D _ (wM ad cI cS mq mn (me + 2) mo (mK xk.toNatClampNeg) mx mp mz mu vn vz vc vv vp ve mK mA mB mC (upd mf xk.toNatClampNeg (mf xk.toNatClampNeg)) (upd ml xk.toNatClampNeg me) mc mL md mi mr mw) := hD
        have e9 : FMo_place xk me mo mt mp mK mB mf ml mc md = (me + 2, mo, mK xk.toNatClampNeg, mp, mc, md, upd ml xk.toNatClampNeg me, upd mf xk.toNatClampNeg (mf xk.toNatClampNeg)) := by simp only [FMo_place, if_neg h1, if_pos h3, if_neg h4]
        have p9 : (pq_phi (me + 2) mo xk (bb + 2)) ∧ (∀ y9 : Nat, vp_in ((upd mf xk.toNatClampNeg (mf xk.toNatClampNeg)) y9 / 2) 7200) ∧ (∀ y9 : Nat, vp_in ((upd ml xk.toNatClampNeg me) y9 / 2) 7200) := ⟨pq_phi_next hpl (by omega), pq_updv hf (hf _), pq_updv hlv (pq_phi_half hpl (by omega))⟩
        exact W.vret hx hb hr (fun t ht hW => ⟨⟨(), rfl, by rw [e9]; exact p9, by rw [e9, ht]; exact hP, by rw [e9]; exact hD⟩, hS.F ht⟩) hS.2.2 dMo_place_100
      · refine lv_aload_n hx hb dMo_place_66 rfl (lv_at hl 0 rfl) ?_
        refine va_get (D := D) (ci := 5) (v := .int me) (C := RMo) (T := TMo) (N := 27) hx hb hw pinMo hown hE.1 hP 0 rfl rfl 10 (by decide) (hw _ wd_278) (fun _ h9 => h9) rfl dMo_place_67 ?_
        refine lv_goto (tgt := 79) hx hb dMo_place_70 (by decide) ?_
        refine va_iast hx hb hE.1 hP hD hS 5 0 rfl rfl hxk dMo_place_79 (fun H locs hP hD hS => ?_)
        have hP : va_P D vwCl (wM ad cI cS mq mn me mo mt mx mp mz mu vn vz vc vv vp ve mK mA mB mC (upd mf xk.toNatClampNeg me) (upd ml xk.toNatClampNeg me) mc mL md mi mr mw) H := hP
        have hD : va_D _ (wM ad cI cS mq mn me mo mt mx mp mz mu vn vz vc vv vp ve mK mA mB mC (upd mf xk.toNatClampNeg me) (upd ml xk.toNatClampNeg me) mc mL md mi mr mw) := hD
        refine lv_aload_n hx hb dMo_place_80 rfl (lv_at hl 0 rfl) ?_
        refine lv_dup hx hb dMo_place_81 rfl ?_
        refine va_get (D := D) (ci := 5) (v := .int me) (C := RMo) (T := TMo) (N := 27) hx hb hw pinMo hown hE.1 hP 0 rfl rfl 10 (by decide) (hw _ wd_278) (fun _ h9 => h9) rfl dMo_place_82 ?_
        refine lv_iconst (v := 2) hx hb dMo_place_85 (by first | rfl | decide) ?_
        refine lv_iadd hx hb dMo_place_86 ?_
        refine va_put (D := D) (ci := 5) (v := .int (me + 2)) (ty := .int) (C := RMo) (T := TMo) (N := 27) hx hb hw pinMo tyMo tyMo_ok nmMo hown hE.1 hP hD hS 0 rfl rfl 10 (by decide) (hw _ wd_278) (fun _ h9 => h9) rfl (by decide +kernel) rfl rfl (Nat.le_of_ble_eq_true rfl) dMo_place_87 (fun H locs hP hD hS => ?_)
        have hP : va_P D vwCl (wM ad cI cS mq mn (me + 2) mo mt mx mp mz mu vn vz vc vv vp ve mK mA mB mC (upd mf xk.toNatClampNeg me) (upd ml xk.toNatClampNeg me) mc mL md mi mr mw) H := hP
        have hD : va_D _ (wM ad cI cS mq mn (me + 2) mo mt mx mp mz mu vn vz vc vv vp ve mK mA mB mC (upd mf xk.toNatClampNeg me) (upd ml xk.toNatClampNeg me) mc mL md mi mr mw) := hD
        refine lv_aload_n hx hb dMo_place_90 rfl (lv_at hl 0 rfl) ?_
        refine lv_aload_n hx hb dMo_place_91 rfl (lv_at hl 0 rfl) ?_
        refine va_get (D := D) (ci := 5) (v := .ref (ad 18)) (C := RMo) (T := TMo) (N := 27) hx hb hw pinMo hown hE.1 hP 0 rfl rfl 2 (by decide) (hw _ wd_273) (fun _ h9 => h9) rfl dMo_place_92 ?_
        refine lv_iload_n hx hb dMo_place_95 rfl (lv_at hl 1 rfl) ?_
        refine va_iald hx hb hE.1 hP 1 0 rfl rfl hxk dMo_place_96 ?_
        refine va_put (D := D) (ci := 5) (v := .int (mK xk.toNatClampNeg)) (ty := .int) (C := RMo) (T := TMo) (N := 27) hx hb hw pinMo tyMo tyMo_ok nmMo hown hE.1 hP hD hS 0 rfl rfl 12 (by decide) (hw _ wd_289) (fun _ h9 => h9) rfl (by decide +kernel) rfl rfl (Nat.le_of_ble_eq_true rfl) dMo_place_97 (fun H locs hP hD hS => ?_)
        have hP : va_P D vwCl (wM ad cI cS mq mn (me + 2) mo (mK xk.toNatClampNeg) mx mp mz mu vn vz vc vv vp ve mK mA mB mC (upd mf xk.toNatClampNeg me) (upd ml xk.toNatClampNeg me) mc mL md mi mr mw) H := hP
        have hD : va_D _ (wM ad cI cS mq mn (me + 2) mo (mK xk.toNatClampNeg) mx mp mz mu vn vz vc vv vp ve mK mA mB mC (upd mf xk.toNatClampNeg me) (upd ml xk.toNatClampNeg me) mc mL md mi mr mw) := hD
        have e9 : FMo_place xk me mo mt mp mK mB mf ml mc md = (me + 2, mo, mK xk.toNatClampNeg, mp, mc, md, upd ml xk.toNatClampNeg me, upd mf xk.toNatClampNeg me) := by simp only [FMo_place, if_neg h1, if_pos h3, if_pos h4]
        have p9 : (pq_phi (me + 2) mo xk (bb + 2)) ∧ (∀ y9 : Nat, vp_in ((upd mf xk.toNatClampNeg me) y9 / 2) 7200) ∧ (∀ y9 : Nat, vp_in ((upd ml xk.toNatClampNeg me) y9 / 2) 7200) := ⟨pq_phi_next hpl (by omega), pq_updv hf (pq_phi_half hpl (by omega)), pq_updv hlv (pq_phi_half hpl (by omega))⟩
        exact W.vret hx hb hr (fun t ht hW => ⟨⟨(), rfl, by rw [e9]; exact p9, by rw [e9, ht]; exact hP, by rw [e9]; exact hD⟩, hS.F ht⟩) hS.2.2 dMo_place_100
    · refine lv_aload_n hx hb dMo_place_36 rfl (lv_at hl 0 rfl) ?_
      refine lv_iload_n hx hb dMo_place_37 rfl (lv_at hl 1 rfl) ?_
      obtain ⟨g1, hg1⟩ : ∃ g9, FMo_pool xk me mo mt mp mK mB mc md = g9 := ⟨_, rfl⟩
      have cg1 := k_Mo_pool l D ad cI cS xk mq mn me mo mt mx mp mz mu vn vz vc vv vp ve mK mA mB mC mf ml mc mL md mi mr mw (pq_in0 hxk) (pq_in1 hxk) bb hpl (by omega)
      rw [hg1] at cg1
      refine pq_callvp (wc := (wM ad cI cS mq mn me mo mt mx mp mz mu vn vz vc vv vp ve mK mA mB mC mf ml mc mL md mi mr mw)) (wr := ([] : List Nat).filterMap (fun i => (wM ad cI cS mq mn me mo mt mx mp mz mu vn vz vc vv vp ve mK mA mB mC mf ml mc mL md mi mr mw)[i]?)) hP hD hS hA [0, 1, 2, 3, 4, 5, 6, 7, 8, 9, 10, 11, 12] [] rfl rfl (by decide) (by decide) (va_runV (own := RMo) (C := RMo) (As := [.int xk]) (rest := []) ⟨hx, hb, hml, hown, hw⟩ (cg1 H.size) ⟨pq_cwB 1 hw wd_296 wd_186 wd_295 rfl rfl (by decide +kernel) ⟨Nat.le_of_ble_eq_true rfl, Nat.le_of_ble_eq_true rfl⟩, hw _ wd_297, hw _ wd_298⟩ (pq_preV (ci := 5) (C := RMo) (T := TMo) (N := 27) hE (hP.sub [0, 1, 2, 3, 4, 5, 6, 7, 8, 9, 10, 11, 12] rfl) (hD.sub [0, 1, 2, 3, 4, 5, 6, 7, 8, 9, 10, 11, 12] (by decide) rfl) rfl 0 rfl) rfl rfl hl.1 rfl (lv_room (Nat.le_of_ble_eq_true rfl)) dMo_place_38 ⟨Nat.zero_le _, Nat.zero_le _⟩) (fun hq9 H locs hP hD hS => ?_)
      have hpo := hq9
      have hP : va_P D vwCl (wM ad cI cS mq mn g1.1 g1.2.1 g1.2.2.1 mx g1.2.2.2.1 mz mu vn vz vc vv vp ve mK mA mB mC mf ml g1.2.2.2.2.1 mL g1.2.2.2.2.2 mi mr mw) H := hP.sub [0, 1, 2, 3, 4, 5, 6, 7, 8, 9, 10, 11, 12] rfl
      have hD : va_D _ (wM ad cI cS mq mn g1.1 g1.2.1 g1.2.2.1 mx g1.2.2.2.1 mz mu vn vz vc vv vp ve mK mA mB mC mf ml g1.2.2.2.2.1 mL g1.2.2.2.2.2 mi mr mw) := hD.sub [0, 1, 2, 3, 4, 5, 6, 7, 8, 9, 10, 11, 12] (by decide) rfl
      refine lv_aload_n hx hb dMo_place_41 rfl (lv_at hl 0 rfl) ?_
      refine va_get (D := D) (ci := 5) (v := .ref (ad 23)) (C := RMo) (T := TMo) (N := 27) hx hb hw pinMo hown hE.1 hP 0 rfl rfl 7 (by decide) (hw _ wd_294) (fun _ h9 => h9) rfl dMo_place_42 ?_
      refine lv_iload_n hx hb dMo_place_45 rfl (lv_at hl 1 rfl) ?_
      refine lv_aload_n hx hb dMo_place_46 rfl (lv_at hl 0 rfl) ?_
      refine va_get (D := D) (ci := 5) (v := .int g1.1) (C := RMo) (T := TMo) (N := 27) hx hb hw pinMo hown hE.1 hP 0 rfl rfl 10 (by decide) (hw _ wd_278) (fun _ h9 => h9) rfl dMo_place_47 ?_
      refine va_iast hx hb hE.1 hP hD hS 6 0 rfl rfl hxk dMo_place_50 (fun H locs hP hD hS => ?_)
      have hP : va_P D vwCl (wM ad cI cS mq mn g1.1 g1.2.1 g1.2.2.1 mx g1.2.2.2.1 mz mu vn vz vc vv vp ve mK mA mB mC mf (upd ml xk.toNatClampNeg g1.1) g1.2.2.2.2.1 mL g1.2.2.2.2.2 mi mr mw) H := hP
      have hD : va_D _ (wM ad cI cS mq mn g1.1 g1.2.1 g1.2.2.1 mx g1.2.2.2.1 mz mu vn vz vc vv vp ve mK mA mB mC mf (upd ml xk.toNatClampNeg g1.1) g1.2.2.2.2.1 mL g1.2.2.2.2.2 mi mr mw) := hD
      refine lv_aload_n hx hb dMo_place_51 rfl (lv_at hl 0 rfl) ?_
      refine va_get (D := D) (ci := 5) (v := .ref (ad 22)) (C := RMo) (T := TMo) (N := 27) hx hb hw pinMo hown hE.1 hP 0 rfl rfl 6 (by decide) (hw _ wd_277) (fun _ h9 => h9) rfl dMo_place_52 ?_
      refine lv_iload_n hx hb dMo_place_55 rfl (lv_at hl 1 rfl) ?_
      refine lv_aload_n hx hb dMo_place_56 rfl (lv_at hl 0 rfl) ?_
      refine va_get (D := D) (ci := 5) (v := .ref (ad 22)) (C := RMo) (T := TMo) (N := 27) hx hb hw pinMo hown hE.1 hP 0 rfl rfl 6 (by decide) (hw _ wd_277) (fun _ h9 => h9) rfl dMo_place_57 ?_
      refine lv_iload_n hx hb dMo_place_60 rfl (lv_at hl 1 rfl) ?_
      refine va_iald hx hb hE.1 hP 5 0 rfl rfl hxk dMo_place_61 ?_
      refine lv_iconst (v := (-1)) hx hb dMo_place_62 (by first | rfl | decide) ?_
      refine lv_icmp_ne (tgt := 73) hx hb dMo_place_63 (by decide) (fun h5 => ?_) (fun h5 => ?_)
      · refine lv_aload_n hx hb dMo_place_73 rfl (lv_at hl 0 rfl) ?_
        refine va_get (D := D) (ci := 5) (v := .ref (ad 22)) (C := RMo) (T := TMo) (N := 27) hx hb hw pinMo hown hE.1 hP 0 rfl rfl 6 (by decide) (hw _ wd_277) (fun _ h9 => h9) rfl dMo_place_74 ?_
        refine lv_iload_n hx hb dMo_place_77 rfl (lv_at hl 1 rfl) ?_
        refine va_iald hx hb hE.1 hP 5 0 rfl rfl hxk dMo_place_78 ?_
        refine va_iast hx hb hE.1 hP hD hS 5 0 rfl rfl hxk dMo_place_79 (fun H locs hP hD hS => ?_)
        have hP : va_P D vwCl (wM ad cI cS mq mn g1.1 g1.2.1 g1.2.2.1 mx g1.2.2.2.1 mz mu vn vz vc vv vp ve mK mA mB mC (upd mf xk.toNatClampNeg (mf xk.toNatClampNeg)) (upd ml xk.toNatClampNeg g1.1) g1.2.2.2.2.1 mL g1.2.2.2.2.2 mi mr mw) H := hP
        have hD : va_D _ (wM ad cI cS mq mn g1.1 g1.2.1 g1.2.2.1 mx g1.2.2.2.1 mz mu vn vz vc vv vp ve mK mA mB mC (upd mf xk.toNatClampNeg (mf xk.toNatClampNeg)) (upd ml xk.toNatClampNeg g1.1) g1.2.2.2.2.1 mL g1.2.2.2.2.2 mi mr mw) := hD
        refine lv_aload_n hx hb dMo_place_80 rfl (lv_at hl 0 rfl) ?_
        refine lv_dup hx hb dMo_place_81 rfl ?_
        refine va_get (D := D) (ci := 5) (v := .int g1.1) (C := RMo) (T := TMo) (N := 27) hx hb hw pinMo hown hE.1 hP 0 rfl rfl 10 (by decide) (hw _ wd_278) (fun _ h9 => h9) rfl dMo_place_82 ?_
        refine lv_iconst (v := 2) hx hb dMo_place_85 (by first | rfl | decide) ?_
        refine lv_iadd hx hb dMo_place_86 ?_
        refine va_put (D := D) (ci := 5) (v := .int (g1.1 + 2)) (ty := .int) (C := RMo) (T := TMo) (N := 27) hx hb hw pinMo tyMo tyMo_ok nmMo hown hE.1 hP hD hS 0 rfl rfl 10 (by decide) (hw _ wd_278) (fun _ h9 => h9) rfl (by decide +kernel) rfl rfl (Nat.le_of_ble_eq_true rfl) dMo_place_87 (fun H locs hP hD hS => ?_)
        have hP : va_P D vwCl (wM ad cI cS mq mn (g1.1 + 2) g1.2.1 g1.2.2.1 mx g1.2.2.2.1 mz mu vn vz vc vv vp ve mK mA mB mC (upd mf xk.toNatClampNeg (mf xk.toNatClampNeg)) (upd ml xk.toNatClampNeg g1.1) g1.2.2.2.2.1 mL g1.2.2.2.2.2 mi mr mw) H := hP
        have hD : va_D _ (wM ad cI cS mq mn (g1.1 + 2) g1.2.1 g1.2.2.1 mx g1.2.2.2.1 mz mu vn vz vc vv vp ve mK mA mB mC (upd mf xk.toNatClampNeg (mf xk.toNatClampNeg)) (upd ml xk.toNatClampNeg g1.1) g1.2.2.2.2.1 mL g1.2.2.2.2.2 mi mr mw) := hD
        refine lv_aload_n hx hb dMo_place_90 rfl (lv_at hl 0 rfl) ?_
        refine lv_aload_n hx hb dMo_place_91 rfl (lv_at hl 0 rfl) ?_
        refine va_get (D := D) (ci := 5) (v := .ref (ad 18)) (C := RMo) (T := TMo) (N := 27) hx hb hw pinMo hown hE.1 hP 0 rfl rfl 2 (by decide) (hw _ wd_273) (fun _ h9 => h9) rfl dMo_place_92 ?_
        refine lv_iload_n hx hb dMo_place_95 rfl (lv_at hl 1 rfl) ?_
        refine va_iald hx hb hE.1 hP 1 0 rfl rfl hxk dMo_place_96 ?_
        refine va_put (D := D) (ci := 5) (v := .int (mK xk.toNatClampNeg)) (ty := .int) (C := RMo) (T := TMo) (N := 27) hx hb hw pinMo tyMo tyMo_ok nmMo hown hE.1 hP hD hS 0 rfl rfl 12 (by decide) (hw _ wd_289) (fun _ h9 => h9) rfl (by decide +kernel) rfl rfl (Nat.le_of_ble_eq_true rfl) dMo_place_97 (fun H locs hP hD hS => ?_)
        have hP : va_P D vwCl (wM ad cI cS mq mn (g1.1 + 2) g1.2.1 (mK xk.toNatClampNeg) mx g1.2.2.2.1 mz mu vn vz vc vv vp ve mK mA mB mC (upd mf xk.toNatClampNeg (mf xk.toNatClampNeg)) (upd ml xk.toNatClampNeg g1.1) g1.2.2.2.2.1 mL g1.2.2.2.2.2 mi mr mw) H := hP
        have hD : va_D _ (wM ad cI cS mq mn (g1.1 + 2) g1.2.1 (mK xk.toNatClampNeg) mx g1.2.2.2.1 mz mu vn vz vc vv vp ve mK mA mB mC (upd mf xk.toNatClampNeg (mf xk.toNatClampNeg)) (upd ml xk.toNatClampNeg g1.1) g1.2.2.2.2.1 mL g1.2.2.2.2.2 mi mr mw) := hD
        have e9 : FMo_place xk me mo mt mp mK mB mf ml mc md = (g1.1 + 2, g1.2.1, mK xk.toNatClampNeg, g1.2.2.2.1, g1.2.2.2.2.1, g1.2.2.2.2.2, upd ml xk.toNatClampNeg g1.1, upd mf xk.toNatClampNeg (mf xk.toNatClampNeg)) := by simp only [FMo_place, hg1, if_neg h1, if_neg h3, if_neg h5]
        have p9 : (pq_phi (g1.1 + 2) g1.2.1 xk (bb + 2)) ∧ (∀ y9 : Nat, vp_in ((upd mf xk.toNatClampNeg (mf xk.toNatClampNeg)) y9 / 2) 7200) ∧ (∀ y9 : Nat, vp_in ((upd ml xk.toNatClampNeg g1.1) y9 / 2) 7200) := ⟨pq_phi_pool hpo (by omega), pq_updv hf (hf _), pq_updv hlv (pq_half hpo.2.1 (by omega))⟩
        exact W.vret hx hb hr (fun t ht hW => ⟨⟨(), rfl, by rw [e9]; exact p9, by rw [e9, ht]; exact hP, by rw [e9]; exact hD⟩, hS.F ht⟩) hS.2.2 dMo_place_100
      · refine lv_aload_n hx hb dMo_place_66 rfl (lv_at hl 0 rfl) ?_
        refine va_get (D := D) (ci := 5) (v := .int g1.1) (C := RMo) (T := TMo) (N := 27) hx hb hw pinMo hown hE.1 hP 0 rfl rfl 10 (by decide) (hw _ wd_278) (fun _ h9 => h9) rfl dMo_place_67 ?_
        refine lv_goto (tgt := 79) hx hb dMo_place_70 (by decide) ?_
        refine va_iast hx hb hE.1 hP hD hS 5 0 rfl rfl hxk dMo_place_79 (fun H locs hP hD hS => ?_)
        have hP : va_P D vwCl (wM ad cI cS mq mn g1.1 g1.2.1 g1.2.2.1 mx g1.2.2.2.1 mz mu vn vz vc vv vp ve mK mA mB mC (upd mf xk.toNatClampNeg g1.1) (upd ml xk.toNatClampNeg g1.1) g1.2.2.2.2.1 mL g1.2.2.2.2.2 mi mr mw) H := hP
        have hD : va_D _ (wM ad cI cS mq mn g1.1 g1.2.1 g1.2.2.1 mx g1.2.2.2.1 mz mu vn vz vc vv vp ve mK mA mB mC (upd mf xk.toNatClampNeg g1.1) (upd ml xk.toNatClampNeg g1.1) g1.2.2.2.2.1 mL g1.2.2.2.2.2 mi mr mw) := hD
        refine lv_aload_n hx hb dMo_place_80 rfl (lv_at hl 0 rfl) ?_
        refine lv_dup hx hb dMo_place_81 rfl ?_
        refine va_get (D := D) (ci := 5) (v := .int g1.1) (C := RMo) (T := TMo) (N := 27) hx hb hw pinMo hown hE.1 hP 0 rfl rfl 10 (by decide) (hw _ wd_278) (fun _ h9 => h9) rfl dMo_place_82 ?_
        refine lv_iconst (v := 2) hx hb dMo_place_85 (by first | rfl | decide) ?_
        refine lv_iadd hx hb dMo_place_86 ?_
        refine va_put (D := D) (ci := 5) (v := .int (g1.1 + 2)) (ty := .int) (C := RMo) (T := TMo) (N := 27) hx hb hw pinMo tyMo tyMo_ok nmMo hown hE.1 hP hD hS 0 rfl rfl 10 (by decide) (hw _ wd_278) (fun _ h9 => h9) rfl (by decide +kernel) rfl rfl (Nat.le_of_ble_eq_true rfl) dMo_place_87 (fun H locs hP hD hS => ?_)
        have hP : va_P D vwCl (wM ad cI cS mq mn (g1.1 + 2) g1.2.1 g1.2.2.1 mx g1.2.2.2.1 mz mu vn vz vc vv vp ve mK mA mB mC (upd mf xk.toNatClampNeg g1.1) (upd ml xk.toNatClampNeg g1.1) g1.2.2.2.2.1 mL g1.2.2.2.2.2 mi mr mw) H := hP
        have hD : va_D _ (wM ad cI cS mq mn (g1.1 + 2) g1.2.1 g1.2.2.1 mx g1.2.2.2.1 mz mu vn vz vc vv vp ve mK mA mB mC (upd mf xk.toNatClampNeg g1.1) (upd ml xk.toNatClampNeg g1.1) g1.2.2.2.2.1 mL g1.2.2.2.2.2 mi mr mw) := hD
        refine lv_aload_n hx hb dMo_place_90 rfl (lv_at hl 0 rfl) ?_
        refine lv_aload_n hx hb dMo_place_91 rfl (lv_at hl 0 rfl) ?_
        refine va_get (D := D) (ci := 5) (v := .ref (ad 18)) (C := RMo) (T := TMo) (N := 27) hx hb hw pinMo hown hE.1 hP 0 rfl rfl 2 (by decide) (hw _ wd_273) (fun _ h9 => h9) rfl dMo_place_92 ?_
        refine lv_iload_n hx hb dMo_place_95 rfl (lv_at hl 1 rfl) ?_
        refine va_iald hx hb hE.1 hP 1 0 rfl rfl hxk dMo_place_96 ?_
        refine va_put (D := D) (ci := 5) (v := .int (mK xk.toNatClampNeg)) (ty := .int) (C := RMo) (T := TMo) (N := 27) hx hb hw pinMo tyMo tyMo_ok nmMo hown hE.1 hP hD hS 0 rfl rfl 12 (by decide) (hw _ wd_289) (fun _ h9 => h9) rfl (by decide +kernel) rfl rfl (Nat.le_of_ble_eq_true rfl) dMo_place_97 (fun H locs hP hD hS => ?_)
        have hP : va_P D vwCl (wM ad cI cS mq mn (g1.1 + 2) g1.2.1 (mK xk.toNatClampNeg) mx g1.2.2.2.1 mz mu vn vz vc vv vp ve mK mA mB mC (upd mf xk.toNatClampNeg g1.1) (upd ml xk.toNatClampNeg g1.1) g1.2.2.2.2.1 mL g1.2.2.2.2.2 mi mr mw) H := hP
        have hD : va_D _ (wM ad cI cS mq mn (g1.1 + 2) g1.2.1 (mK xk.toNatClampNeg) mx g1.2.2.2.1 mz mu vn vz vc vv vp ve mK mA mB mC (upd mf xk.toNatClampNeg g1.1) (upd ml xk.toNatClampNeg g1.1) g1.2.2.2.2.1 mL g1.2.2.2.2.2 mi mr mw) := hD
        have e9 : FMo_place xk me mo mt mp mK mB mf ml mc md = (g1.1 + 2, g1.2.1, mK xk.toNatClampNeg, g1.2.2.2.1, g1.2.2.2.2.1, g1.2.2.2.2.2, upd ml xk.toNatClampNeg g1.1, upd mf xk.toNatClampNeg g1.1) := by simp only [FMo_place, hg1, if_neg h1, if_neg h3, if_pos h5]
        have p9 : (pq_phi (g1.1 + 2) g1.2.1 xk (bb + 2)) ∧ (∀ y9 : Nat, vp_in ((upd mf xk.toNatClampNeg g1.1) y9 / 2) 7200) ∧ (∀ y9 : Nat, vp_in ((upd ml xk.toNatClampNeg g1.1) y9 / 2) 7200) := ⟨pq_phi_pool hpo (by omega), pq_updv hf (pq_half hpo.2.1 (by omega)), pq_updv hlv (pq_half hpo.2.1 (by omega))⟩
        exact W.vret hx hb hr (fun t ht hW => ⟨⟨(), rfl, by rw [e9]; exact p9, by rw [e9, ht]; exact hP, by rw [e9]; exact hD⟩, hS.F ht⟩) hS.2.2 dMo_place_100
def LMo_reckon_108 : Nat → (Nat → Int32) → (Nat → Int32) → (Nat) → (Int32) → (Nat) → (Int32) → (Int32) → (Int32) → (Int32) → (Nat → Int32) → (Nat → Int32) → (Nat → Int32) → (Nat → Int32) → Nat × Int32 × Int32 × Int32 × Int32 × (Nat → Int32) × (Nat → Int32) × (Nat → Int32) × (Nat → Int32)
  | 0, _, _, _, _, j, me, mo, mt, mp, mc, md, ml, mf => (j, me, mo, mt, mp, mc, md, ml, mf)
  | n + 1, mK, mB, i, w, j, me, mo, mt, mp, mc, md, ml, mf => if w ≤ (nI j) then (j, me, mo, mt, mp, mc, md, ml, mf) else if (mK (nI i).toNatClampNeg) = 13 then LMo_reckon_108 n mK mB i w (j + 1) ((FMo_place (nI i) me mo mt mp mK mB mf ml mc md).1) ((FMo_place (nI i) me mo mt mp mK mB mf ml mc md).2.1) ((FMo_place (nI i) me mo mt mp mK mB mf ml mc md).2.2.1) ((FMo_place (nI i) me mo mt mp mK mB mf ml mc md).2.2.2.1) ((FMo_place (nI i) me mo mt mp mK mB mf ml mc md).2.2.2.2.1) (FMo_write ((FMo_place (nI i) me mo mt mp mK mB mf ml mc md).2.2.2.2.2.2.1 (nI i).toNatClampNeg) 18112 (FMo_place (nI i) me mo mt mp mK mB mf ml mc md).2.2.2.2.2.1) ((FMo_place (nI i) me mo mt mp mK mB mf ml mc md).2.2.2.2.2.2.1) ((FMo_place (nI i) me mo mt mp mK mB mf ml mc md).2.2.2.2.2.2.2) else LMo_reckon_108 n mK mB i w (j + 1) ((FMo_place (nI i) me mo mt mp mK mB mf ml mc md).1) ((FMo_place (nI i) me mo mt mp mK mB mf ml mc md).2.1) ((FMo_place (nI i) me mo mt mp mK mB mf ml mc md).2.2.1) ((FMo_place (nI i) me mo mt mp mK mB mf ml mc md).2.2.2.1) ((FMo_place (nI i) me mo mt mp mK mB mf ml mc md).2.2.2.2.1) ((FMo_place (nI i) me mo mt mp mK mB mf ml mc md).2.2.2.2.2.1) ((FMo_place (nI i) me mo mt mp mK mB mf ml mc md).2.2.2.2.2.2.1) ((FMo_place (nI i) me mo mt mp mK mB mf ml mc md).2.2.2.2.2.2.2)
set_option maxHeartbeats 4000000 in
set_option maxRecDepth 100000 in
theorem qMo_reckon_108 {p : Program} {l : Launch} {e : Env} {R : Room} {s : State} {m : MethodId} {args : Array Value} {below : List Frame} {meth : Method} {c : Code} {Q : State → Prop} {A : Nat → Prop} (D : va_G) (ad : Nat → Nat) (cI cS : ClassId) (hx : p.tables.exec = Jvm.exec) (hb : c.code = cMo_reckon) (hml : c.maxLocals = 4) (hw : ∀ w ∈ pq_ws, w.before args s = true) (hown : s.vm.findClass RMo = some m.cls) (hE : pq_E D cI cS s) (hA : ∀ q : Nat, s.heap.size ≤ q → A q) (hR : 3 ≤ R.frames ∧ 72 ≤ R.locals) (i : Nat) (w : Int32) (hi1 : i < 160) (hw40 : w.toInt ≤ 40) : ∀ (n : Nat) (j : Nat) (mq : Int32) (mn : Int32) (me : Int32) (mo : Int32) (mt : Int32) (mx : Int32) (mp : Int32) (mz : Int32) (mu : Int32) (vn : Int32) (vz : Int32) (vc : Int32) (vv : Int32) (vp : Int32) (ve : Int32) (mK : Nat → Int32) (mA : Nat → Int32) (mB : Nat → Int32) (mC : Nat → Int32) (mf : Nat → Int32) (ml : Nat → Int32) (mc : Nat → Int32) (mL : Nat → Int32) (md : Nat → Int32) (mi : Nat → Int32) (mr : Nat → Int32) (mw : Nat → Int32) (ls : Array Slot) (H : Heap) (locs : List Loc), (j ≤ w.toInt.toNat) → (pq_phi me mo (nI i) (84 * (i : Int) + 2 * (j : Int))) → (∀ y9 : Nat, vp_in (mf y9 / 2) 7200) → (∀ y9 : Nat, vp_in (ml y9 / 2) 7200) → (w.toInt.toNat - j) < n → lv_has ls 4 [(0, .ref (ad 17)), (1, .int (nI i)), (2, .int w), (3, .int (nI j))] → va_P D vwCl (wM ad cI cS mq mn me mo mt mx mp mz mu vn vz vc vv vp ve mK mA mB mC mf ml mc mL md mi mr mw) H → va_D A (wM ad cI cS mq mn me mo mt mx mp mz mu vn vz vc vv vp ve mK mA mB mC mf ml mc mL md mi mr mw) → va_S A s.heap H locs → (∀ (ls : Array Slot) (H : Heap) (locs : List Loc), (pq_phi ((LMo_reckon_108 n mK mB i w j me mo mt mp mc md ml mf).2.1) ((LMo_reckon_108 n mK mB i w j me mo mt mp mc md ml mf).2.2.1) (nI i) (84 * (i : Int) + 2 * (w.toInt.toNat : Int))) → (∀ y9 : Nat, vp_in (((LMo_reckon_108 n mK mB i w j me mo mt mp mc md ml mf).2.2.2.2.2.2.2.2) y9 / 2) 7200) → (∀ y9 : Nat, vp_in (((LMo_reckon_108 n mK mB i w j me mo mt mp mc md ml mf).2.2.2.2.2.2.2.1) y9 / 2) 7200) → lv_has ls 4 [(0, .ref (ad 17)), (1, .int (nI i)), (2, .int w), (3, .int (nI ((LMo_reckon_108 n mK mB i w j me mo mt mp mc md ml mf).1)))] → va_P D vwCl (wM ad cI cS mq mn ((LMo_reckon_108 n mK mB i w j me mo mt mp mc md ml mf).2.1) ((LMo_reckon_108 n mK mB i w j me mo mt mp mc md ml mf).2.2.1) ((LMo_reckon_108 n mK mB i w j me mo mt mp mc md ml mf).2.2.2.1) mx ((LMo_reckon_108 n mK mB i w j me mo mt mp mc md ml mf).2.2.2.2.1) mz mu vn vz vc vv vp ve mK mA mB mC ((LMo_reckon_108 n mK mB i w j me mo mt mp mc md ml mf).2.2.2.2.2.2.2.2) ((LMo_reckon_108 n mK mB i w j me mo mt mp mc md ml mf).2.2.2.2.2.2.2.1) ((LMo_reckon_108 n mK mB i w j me mo mt mp mc md ml mf).2.2.2.2.2.1) mL ((LMo_reckon_108 n mK mB i w j me mo mt mp mc md ml mf).2.2.2.2.2.2.1) mi mr mw) H → va_D A (wM ad cI cS mq mn ((LMo_reckon_108 n mK mB i w j me mo mt mp mc md ml mf).2.1) ((LMo_reckon_108 n mK mB i w j me mo mt mp mc md ml mf).2.2.1) ((LMo_reckon_108 n mK mB i w j me mo mt mp mc md ml mf).2.2.2.1) mx ((LMo_reckon_108 n mK mB i w j me mo mt mp mc md ml mf).2.2.2.2.1) mz mu vn vz vc vv vp ve mK mA mB mC ((LMo_reckon_108 n mK mB i w j me mo mt mp mc md ml mf).2.2.2.2.2.2.2.2) ((LMo_reckon_108 n mK mB i w j me mo mt mp mc md ml mf).2.2.2.2.2.2.2.1) ((LMo_reckon_108 n mK mB i w j me mo mt mp mc md ml mf).2.2.2.2.2.1) mL ((LMo_reckon_108 n mK mB i w j me mo mt mp mc md ml mf).2.2.2.2.2.2.1) mi mr mw) → va_S A s.heap H locs → W p l e R s m args below meth c H locs 0 0 Q (F0 m 148 ls [])) → W p l e R s m args below meth c H locs 0 0 Q (F0 m 108 ls []) := by
  intro n
  induction n with
  | zero =>
    intro j mq mn me mo mt mx mp mz mu vn vz vc vv vp ve mK mA mB mC mf ml mc mL md mi mr mw ls H locs hj hph hf hlv hm hl hP hD hS kk
    exact absurd hm (Nat.not_lt_zero _)
  | succ n ih =>
    intro j mq mn me mo mt mx mp mz mu vn vz vc vv vp ve mK mA mB mC mf ml mc mL md mi mr mw ls H locs hj hph hf hlv hm hl hP hD hS kk
    refine lv_iload_n hx hb dMo_reckon_108 rfl (lv_at hl 3 rfl) ?_
    refine lv_iload_n hx hb dMo_reckon_109 rfl (lv_at hl 2 rfl) ?_
    refine lv_icmp_ge (tgt := 148) hx hb dMo_reckon_110 (by decide) (fun h1 => ?_) (fun h1 => ?_)
    · have e9 : LMo_reckon_108 (n + 1) mK mB i w j me mo mt mp mc md ml mf = (j, me, mo, mt, mp, mc, md, ml, mf) := by simp only [LMo_reckon_108, if_pos h1]
      rw [e9] at kk
      exact kk ls H locs (pq_phi_le hph (by omega)) hf hlv (lv_sub hl [0, 1, 2, 3] rfl) hP hD hS
    · refine lv_aload_n hx hb dMo_reckon_113 rfl (lv_at hl 0 rfl) ?_
      refine lv_iload_n hx hb dMo_reckon_114 rfl (lv_at hl 1 rfl) ?_
      obtain ⟨g1, hg1⟩ : ∃ g9, FMo_place (nI i) me mo mt mp mK mB mf ml mc md = g9 := ⟨_, rfl⟩
      have cg1 := k_Mo_place l D ad cI cS (nI i) mq mn me mo mt mx mp mz mu vn vz vc vv vp ve mK mA mB mC mf ml mc mL md mi mr mw (vp_in_nI hi1 (by decide)) (84 * (i : Int) + 2 * (j : Int)) hph (by have := pq_up (j := j) (by omega) (by assumption); omega) hf hlv
      rw [hg1] at cg1
      refine pq_callvp (wc := (wM ad cI cS mq mn me mo mt mx mp mz mu vn vz vc vv vp ve mK mA mB mC mf ml mc mL md mi mr mw)) (wr := ([] : List Nat).filterMap (fun i => (wM ad cI cS mq mn me mo mt mx mp mz mu vn vz vc vv vp ve mK mA mB mC mf ml mc mL md mi mr mw)[i]?)) hP hD hS hA [0, 1, 2, 3, 4, 5, 6, 7, 8, 9, 10, 11, 12] [] rfl rfl (by decide) (by decide) (va_runV (own := RMo) (C := RMo) (As := [.int (nI i)]) (rest := []) ⟨hx, hb, hml, hown, hw⟩ (cg1 H.size) ⟨pq_cwB 1 hw wd_300 wd_186 wd_299 rfl rfl (by decide +kernel) ⟨Nat.le_trans (by decide) hR.1, Nat.le_trans (by decide) hR.2⟩, hw _ wd_301, hw _ wd_302⟩ (pq_preV (ci := 5) (C := RMo) (T := TMo) (N := 27) hE (hP.sub [0, 1, 2, 3, 4, 5, 6, 7, 8, 9, 10, 11, 12] rfl) (hD.sub [0, 1, 2, 3, 4, 5, 6, 7, 8, 9, 10, 11, 12] (by decide) rfl) rfl 0 rfl) rfl rfl hl.1 rfl (lv_room (Nat.le_of_ble_eq_true rfl)) dMo_reckon_115 ⟨Nat.zero_le _, Nat.zero_le _⟩) (fun hq9 H locs hP hD hS => ?_)
      obtain ⟨hpl2, hf, hlv⟩ := hq9
      have hP : va_P D vwCl (wM ad cI cS mq mn g1.1 g1.2.1 g1.2.2.1 mx g1.2.2.2.1 mz mu vn vz vc vv vp ve mK mA mB mC g1.2.2.2.2.2.2.2 g1.2.2.2.2.2.2.1 g1.2.2.2.2.1 mL g1.2.2.2.2.2.1 mi mr mw) H := hP.sub [0, 1, 2, 3, 4, 5, 6, 7, 8, 9, 10, 11, 12] rfl
      have hD : va_D _ (wM ad cI cS mq mn g1.1 g1.2.1 g1.2.2.1 mx g1.2.2.2.1 mz mu vn vz vc vv vp ve mK mA mB mC g1.2.2.2.2.2.2.2 g1.2.2.2.2.2.2.1 g1.2.2.2.2.1 mL g1.2.2.2.2.2.1 mi mr mw) := hD.sub [0, 1, 2, 3, 4, 5, 6, 7, 8, 9, 10, 11, 12] (by decide) rfl
      refine lv_aload_n hx hb dMo_reckon_118 rfl (lv_at hl 0 rfl) ?_
      refine va_get (D := D) (ci := 5) (v := .ref (ad 18)) (C := RMo) (T := TMo) (N := 27) hx hb hw pinMo hown hE.1 hP 0 rfl rfl 2 (by decide) (hw _ wd_273) (fun _ h9 => h9) rfl dMo_reckon_119 ?_
      refine lv_iload_n hx hb dMo_reckon_122 rfl (lv_at hl 1 rfl) ?_
      refine va_iald hx hb hE.1 hP 1 0 rfl rfl (vp_in_nI hi1 (by decide)) dMo_reckon_123 ?_
      refine lv_bipush (v := 13) hx hb dMo_reckon_124 (by first | rfl | decide) ?_
      refine lv_icmp_ne (tgt := 142) hx hb dMo_reckon_126 (by decide) (fun h2 => ?_) (fun h2 => ?_)
      · refine lv_iinc (k := 3) (v := (nI j) + 1) (lv' := [(3, .int ((nI j) + 1)), (0, .ref (ad 17)), (1, .int (nI i)), (2, .int w)]) hx hb dMo_reckon_142 hl rfl (by first | rfl | decide) (by decide) rfl (fun ls hl => ?_)
        refine lv_goto (tgt := 108) hx hb dMo_reckon_145 (by decide) ?_
        have e9 : LMo_reckon_108 (n + 1) mK mB i w j me mo mt mp mc md ml mf = LMo_reckon_108 n mK mB i w (j + 1) g1.1 g1.2.1 g1.2.2.1 g1.2.2.2.1 g1.2.2.2.2.1 g1.2.2.2.2.2.1 g1.2.2.2.2.2.2.1 g1.2.2.2.2.2.2.2 := by simp only [LMo_reckon_108, hg1, if_neg h1, if_neg h2]
        rw [e9] at kk
        rw [nI_1] at hl
        exact ih (j + 1) mq mn g1.1 g1.2.1 g1.2.2.1 mx g1.2.2.2.1 mz mu vn vz vc vv vp ve mK mA mB mC g1.2.2.2.2.2.2.2 g1.2.2.2.2.2.2.1 g1.2.2.2.2.1 mL g1.2.2.2.2.2.1 mi mr mw ls H locs (by have := pq_up (j := j) (by omega) (by assumption); omega) (pq_phi_le hpl2 (by omega)) hf hlv (by have := pq_up (j := j) (by omega) (by assumption); omega) (lv_sub hl [1, 2, 3, 0] rfl) hP hD hS kk
      · refine lv_aload_n hx hb dMo_reckon_129 rfl (lv_at hl 0 rfl) ?_
        refine lv_aload_n hx hb dMo_reckon_130 rfl (lv_at hl 0 rfl) ?_
        refine va_get (D := D) (ci := 5) (v := .ref (ad 23)) (C := RMo) (T := TMo) (N := 27) hx hb hw pinMo hown hE.1 hP 0 rfl rfl 7 (by decide) (hw _ wd_294) (fun _ h9 => h9) rfl dMo_reckon_131 ?_
        refine lv_iload_n hx hb dMo_reckon_134 rfl (lv_at hl 1 rfl) ?_
        refine va_iald hx hb hE.1 hP 6 0 rfl rfl (vp_in_nI hi1 (by decide)) dMo_reckon_135 ?_
        refine lv_sipush (v := 18112) hx hb dMo_reckon_136 (by first | rfl | decide) ?_
        refine pq_callv (wc := (wM ad cI cS mq mn g1.1 g1.2.1 g1.2.2.1 mx g1.2.2.2.1 mz mu vn vz vc vv vp ve mK mA mB mC g1.2.2.2.2.2.2.2 g1.2.2.2.2.2.2.1 g1.2.2.2.2.1 mL g1.2.2.2.2.2.1 mi mr mw)) (wr := ([] : List Nat).filterMap (fun i => (wM ad cI cS mq mn g1.1 g1.2.1 g1.2.2.1 mx g1.2.2.2.1 mz mu vn vz vc vv vp ve mK mA mB mC g1.2.2.2.2.2.2.2 g1.2.2.2.2.2.2.1 g1.2.2.2.2.1 mL g1.2.2.2.2.2.1 mi mr mw)[i]?)) hP hD hS hA [0, 1, 2, 3, 4, 5, 6, 7, 8, 9, 10, 11, 12] [] rfl rfl (by decide) (by decide) (va_runV (own := RMo) (C := RMo) (As := [.int (g1.2.2.2.2.2.2.1 (nI i).toNatClampNeg), .int 18112]) (rest := []) ⟨hx, hb, hml, hown, hw⟩ (k_Mo_write l D ad cI cS (g1.2.2.2.2.2.2.1 (nI i).toNatClampNeg) 18112 mq mn g1.1 g1.2.1 g1.2.2.1 mx g1.2.2.2.1 mz mu vn vz vc vv vp ve mK mA mB mC g1.2.2.2.2.2.2.2 g1.2.2.2.2.2.2.1 g1.2.2.2.2.1 mL g1.2.2.2.2.2.1 mi mr mw (hlv _) H.size) ⟨pq_cwB 2 hw wd_285 wd_186 wd_284 rfl rfl (by decide +kernel) ⟨Nat.le_trans (by decide) hR.1, Nat.le_trans (by decide) hR.2⟩, hw _ wd_286, hw _ wd_287⟩ (pq_preV (ci := 5) (C := RMo) (T := TMo) (N := 27) hE (hP.sub [0, 1, 2, 3, 4, 5, 6, 7, 8, 9, 10, 11, 12] rfl) (hD.sub [0, 1, 2, 3, 4, 5, 6, 7, 8, 9, 10, 11, 12] (by decide) rfl) rfl 0 rfl) rfl rfl hl.1 rfl (lv_room (Nat.le_of_ble_eq_true rfl)) dMo_reckon_139 ⟨Nat.zero_le _, Nat.zero_le _⟩) (fun _ H locs hP hD hS => ?_)
        have hP : va_P D vwCl (wM ad cI cS mq mn g1.1 g1.2.1 g1.2.2.1 mx g1.2.2.2.1 mz mu vn vz vc vv vp ve mK mA mB mC g1.2.2.2.2.2.2.2 g1.2.2.2.2.2.2.1 g1.2.2.2.2.1 mL (FMo_write (g1.2.2.2.2.2.2.1 (nI i).toNatClampNeg) 18112 g1.2.2.2.2.2.1) mi mr mw) H := hP.sub [0, 1, 2, 3, 4, 5, 6, 7, 8, 9, 10, 11, 12] rfl
        have hD : va_D _ (wM ad cI cS mq mn g1.1 g1.2.1 g1.2.2.1 mx g1.2.2.2.1 mz mu vn vz vc vv vp ve mK mA mB mC g1.2.2.2.2.2.2.2 g1.2.2.2.2.2.2.1 g1.2.2.2.2.1 mL (FMo_write (g1.2.2.2.2.2.2.1 (nI i).toNatClampNeg) 18112 g1.2.2.2.2.2.1) mi mr mw) := hD.sub [0, 1, 2, 3, 4, 5, 6, 7, 8, 9, 10, 11, 12] (by decide) rfl
        refine lv_iinc (k := 3) (v := (nI j) + 1) (lv' := [(3, .int ((nI j) + 1)), (0, .ref (ad 17)), (1, .int (nI i)), (2, .int w)]) hx hb dMo_reckon_142 hl rfl (by first | rfl | decide) (by decide) rfl (fun ls hl => ?_)
        refine lv_goto (tgt := 108) hx hb dMo_reckon_145 (by decide) ?_
        have e9 : LMo_reckon_108 (n + 1) mK mB i w j me mo mt mp mc md ml mf = LMo_reckon_108 n mK mB i w (j + 1) g1.1 g1.2.1 g1.2.2.1 g1.2.2.2.1 g1.2.2.2.2.1 (FMo_write (g1.2.2.2.2.2.2.1 (nI i).toNatClampNeg) 18112 g1.2.2.2.2.2.1) g1.2.2.2.2.2.2.1 g1.2.2.2.2.2.2.2 := by simp only [LMo_reckon_108, hg1, if_neg h1, if_pos h2]
        rw [e9] at kk
        rw [nI_1] at hl
        exact ih (j + 1) mq mn g1.1 g1.2.1 g1.2.2.1 mx g1.2.2.2.1 mz mu vn vz vc vv vp ve mK mA mB mC g1.2.2.2.2.2.2.2 g1.2.2.2.2.2.2.1 g1.2.2.2.2.1 mL (FMo_write (g1.2.2.2.2.2.2.1 (nI i).toNatClampNeg) 18112 g1.2.2.2.2.2.1) mi mr mw ls H locs (by have := pq_up (j := j) (by omega) (by assumption); omega) (pq_phi_le hpl2 (by omega)) hf hlv (by have := pq_up (j := j) (by omega) (by assumption); omega) (lv_sub hl [1, 2, 3, 0] rfl) hP hD hS kk
def LMo_reckon_22 : Nat → (Int32) → (Nat → Int32) → (Nat → Int32) → (Nat → Int32) → (Nat) → (Int32) → (Int32) → (Int32) → (Int32) → (Nat → Int32) → (Nat → Int32) → (Nat → Int32) → (Nat → Int32) → Nat × Int32 × Int32 × Int32 × Int32 × (Nat → Int32) × (Nat → Int32) × (Nat → Int32) × (Nat → Int32)
  | 0, _, _, _, _, i, me, mo, mt, mp, mc, md, ml, mf => (i, me, mo, mt, mp, mc, md, ml, mf)
  | n + 1, mn, mK, mA, mB, i, me, mo, mt, mp, mc, md, ml, mf => if mn ≤ (nI i) then (i, me, mo, mt, mp, mc, md, ml, mf) else if (mK (nI i).toNatClampNeg) = 0 then if (mK (nI i).toNatClampNeg) = 14 then if (mK (nI i).toNatClampNeg) = 10 then if (LMo_reckon_108 (((0 : Int32)).toInt.toNat + 1) mK mB i 0 0 (FMo_pool (nI i) me mo mt mp mK mB mc md).1 (FMo_pool (nI i) me mo mt mp mK mB mc md).2.1 (FMo_pool (nI i) me mo mt mp mK mB mc md).2.2.1 (FMo_pool (nI i) me mo mt mp mK mB mc md).2.2.2.1 (FMo_pool (nI i) me mo mt mp mK mB mc md).2.2.2.2.1 (FMo_pool (nI i) me mo mt mp mK mB mc md).2.2.2.2.2 (upd ml (nI i).toNatClampNeg (-1)) (upd mf (nI i).toNatClampNeg (-1))).2.2.1 = (-1) then LMo_reckon_22 n mn mK mA mB (i + 1) ((LMo_reckon_108 (((0 : Int32)).toInt.toNat + 1) mK mB i 0 0 (FMo_pool (nI i) me mo mt mp mK mB mc md).1 (FMo_pool (nI i) me mo mt mp mK mB mc md).2.1 (FMo_pool (nI i) me mo mt mp mK mB mc md).2.2.1 (FMo_pool (nI i) me mo mt mp mK mB mc md).2.2.2.1 (FMo_pool (nI i) me mo mt mp mK mB mc md).2.2.2.2.1 (FMo_pool (nI i) me mo mt mp mK mB mc md).2.2.2.2.2 (upd ml (nI i).toNatClampNeg (-1)) (upd mf (nI i).toNatClampNeg (-1))).2.1) (nI i) ((LMo_reckon_108 (((0 : Int32)).toInt.toNat + 1) mK mB i 0 0 (FMo_pool (nI i) me mo mt mp mK mB mc md).1 (FMo_pool (nI i) me mo mt mp mK mB mc md).2.1 (FMo_pool (nI i) me mo mt mp mK mB mc md).2.2.1 (FMo_pool (nI i) me mo mt mp mK mB mc md).2.2.2.1 (FMo_pool (nI i) me mo mt mp mK mB mc md).2.2.2.2.1 (FMo_pool (nI i) me mo mt mp mK mB mc md).2.2.2.2.2 (upd ml (nI i).toNatClampNeg (-1)) (upd mf (nI i).toNatClampNeg (-1))).2.2.2.1) ((LMo_reckon_108 (((0 : Int32)).toInt.toNat + 1) mK mB i 0 0 (FMo_pool (nI i) me mo mt mp mK mB mc md).1 (FMo_pool (nI i) me mo mt mp mK mB mc md).2.1 (FMo_pool (nI i) me mo mt mp mK mB mc md).2.2.1 (FMo_pool (nI i) me mo mt mp mK mB mc md).2.2.2.1 (FMo_pool (nI i) me mo mt mp mK mB mc md).2.2.2.2.1 (FMo_pool (nI i) me mo mt mp mK mB mc md).2.2.2.2.2 (upd ml (nI i).toNatClampNeg (-1)) (upd mf (nI i).toNatClampNeg (-1))).2.2.2.2.1) ((LMo_reckon_108 (((0 : Int32)).toInt.toNat + 1) mK mB i 0 0 (FMo_pool (nI i) me mo mt mp mK mB mc md).1 (FMo_pool (nI i) me mo mt mp mK mB mc md).2.1 (FMo_pool (nI i) me mo mt mp mK mB mc md).2.2.1 (FMo_pool (nI i) me mo mt mp mK mB mc md).2.2.2.1 (FMo_pool (nI i) me mo mt mp mK mB mc md).2.2.2.2.1 (FMo_pool (nI i) me mo mt mp mK mB mc md).2.2.2.2.2 (upd ml (nI i).toNatClampNeg (-1)) (upd mf (nI i).toNatClampNeg (-1))).2.2.2.2.2.1) ((LMo_reckon_108 (((0 : Int32)).toInt.toNat + 1) mK mB i 0 0 (FMo_pool (nI i) me mo mt mp mK mB mc md).1 (FMo_pool (nI i) me mo mt mp mK mB mc md).2.1 (FMo_pool (nI i) me mo mt mp mK mB mc md).2.2.1 (FMo_pool (nI i) me mo mt mp mK mB mc md).2.2.2.1 (FMo_pool (nI i) me mo mt mp mK mB mc md).2.2.2.2.1 (FMo_pool (nI i) me mo mt mp mK mB mc md).2.2.2.2.2 (upd ml (nI i).toNatClampNeg (-1)) (upd mf (nI i).toNatClampNeg (-1))).2.2.2.2.2.2.1) ((LMo_reckon_108 (((0 : Int32)).toInt.toNat + 1) mK mB i 0 0 (FMo_pool (nI i) me mo mt mp mK mB mc md).1 (FMo_pool (nI i) me mo mt mp mK mB mc md).2.1 (FMo_pool (nI i) me mo mt mp mK mB mc md).2.2.1 (FMo_pool (nI i) me mo mt mp mK mB mc md).2.2.2.1 (FMo_pool (nI i) me mo mt mp mK mB mc md).2.2.2.2.1 (FMo_pool (nI i) me mo mt mp mK mB mc md).2.2.2.2.2 (upd ml (nI i).toNatClampNeg (-1)) (upd mf (nI i).toNatClampNeg (-1))).2.2.2.2.2.2.2.1) ((LMo_reckon_108 (((0 : Int32)).toInt.toNat + 1) mK mB i 0 0 (FMo_pool (nI i) me mo mt mp mK mB mc md).1 (FMo_pool (nI i) me mo mt mp mK mB mc md).2.1 (FMo_pool (nI i) me mo mt mp mK mB mc md).2.2.1 (FMo_pool (nI i) me mo mt mp mK mB mc md).2.2.2.1 (FMo_pool (nI i) me mo mt mp mK mB mc md).2.2.2.2.1 (FMo_pool (nI i) me mo mt mp mK mB mc md).2.2.2.2.2 (upd ml (nI i).toNatClampNeg (-1)) (upd mf (nI i).toNatClampNeg (-1))).2.2.2.2.2.2.2.2) else LMo_reckon_22 n mn mK mA mB (i + 1) ((LMo_reckon_108 (((0 : Int32)).toInt.toNat + 1) mK mB i 0 0 (FMo_pool (nI i) me mo mt mp mK mB mc md).1 (FMo_pool (nI i) me mo mt mp mK mB mc md).2.1 (FMo_pool (nI i) me mo mt mp mK mB mc md).2.2.1 (FMo_pool (nI i) me mo mt mp mK mB mc md).2.2.2.1 (FMo_pool (nI i) me mo mt mp mK mB mc md).2.2.2.2.1 (FMo_pool (nI i) me mo mt mp mK mB mc md).2.2.2.2.2 (upd ml (nI i).toNatClampNeg (-1)) (upd mf (nI i).toNatClampNeg (-1))).2.1) ((LMo_reckon_108 (((0 : Int32)).toInt.toNat + 1) mK mB i 0 0 (FMo_pool (nI i) me mo mt mp mK mB mc md).1 (FMo_pool (nI i) me mo mt mp mK mB mc md).2.1 (FMo_pool (nI i) me mo mt mp mK mB mc md).2.2.1 (FMo_pool (nI i) me mo mt mp mK mB mc md).2.2.2.1 (FMo_pool (nI i) me mo mt mp mK mB mc md).2.2.2.2.1 (FMo_pool (nI i) me mo mt mp mK mB mc md).2.2.2.2.2 (upd ml (nI i).toNatClampNeg (-1)) (upd mf (nI i).toNatClampNeg (-1))).2.2.1) ((LMo_reckon_108 (((0 : Int32)).toInt.toNat + 1) mK mB i 0 0 (FMo_pool (nI i) me mo mt mp mK mB mc md).1 (FMo_pool (nI i) me mo mt mp mK mB mc md).2.1 (FMo_pool (nI i) me mo mt mp mK mB mc md).2.2.1 (FMo_pool (nI i) me mo mt mp mK mB mc md).2.2.2.1 (FMo_pool (nI i) me mo mt mp mK mB mc md).2.2.2.2.1 (FMo_pool (nI i) me mo mt mp mK mB mc md).2.2.2.2.2 (upd ml (nI i).toNatClampNeg (-1)) (upd mf (nI i).toNatClampNeg (-1))).2.2.2.1) ((LMo_reckon_108 (((0 : Int32)).toInt.toNat + 1) mK mB i 0 0 (FMo_pool (nI i) me mo mt mp mK mB mc md).1 (FMo_pool (nI i) me mo mt mp mK mB mc md).2.1 (FMo_pool (nI i) me mo mt mp mK mB mc md).2.2.1 (FMo_pool (nI i) me mo mt mp mK mB mc md).2.2.2.1 (FMo_pool (nI i) me mo mt mp mK mB mc md).2.2.2.2.1 (FMo_pool (nI i) me mo mt mp mK mB mc md).2.2.2.2.2 (upd ml (nI i).toNatClampNeg (-1)) (upd mf (nI i).toNatClampNeg (-1))).2.2.2.2.1) ((LMo_reckon_108 (((0 : Int32)).toInt.toNat + 1) mK mB i 0 0 (FMo_pool (nI i) me mo mt mp mK mB mc md).1 (FMo_pool (nI i) me mo mt mp mK mB mc md).2.1 (FMo_pool (nI i) me mo mt mp mK mB mc md).2.2.1 (FMo_pool (nI i) me mo mt mp mK mB mc md).2.2.2.1 (FMo_pool (nI i) me mo mt mp mK mB mc md).2.2.2.2.1 (FMo_pool (nI i) me mo mt mp mK mB mc md).2.2.2.2.2 (upd ml (nI i).toNatClampNeg (-1)) (upd mf (nI i).toNatClampNeg (-1))).2.2.2.2.2.1) ((LMo_reckon_108 (((0 : Int32)).toInt.toNat + 1) mK mB i 0 0 (FMo_pool (nI i) me mo mt mp mK mB mc md).1 (FMo_pool (nI i) me mo mt mp mK mB mc md).2.1 (FMo_pool (nI i) me mo mt mp mK mB mc md).2.2.1 (FMo_pool (nI i) me mo mt mp mK mB mc md).2.2.2.1 (FMo_pool (nI i) me mo mt mp mK mB mc md).2.2.2.2.1 (FMo_pool (nI i) me mo mt mp mK mB mc md).2.2.2.2.2 (upd ml (nI i).toNatClampNeg (-1)) (upd mf (nI i).toNatClampNeg (-1))).2.2.2.2.2.2.1) ((LMo_reckon_108 (((0 : Int32)).toInt.toNat + 1) mK mB i 0 0 (FMo_pool (nI i) me mo mt mp mK mB mc md).1 (FMo_pool (nI i) me mo mt mp mK mB mc md).2.1 (FMo_pool (nI i) me mo mt mp mK mB mc md).2.2.1 (FMo_pool (nI i) me mo mt mp mK mB mc md).2.2.2.1 (FMo_pool (nI i) me mo mt mp mK mB mc md).2.2.2.2.1 (FMo_pool (nI i) me mo mt mp mK mB mc md).2.2.2.2.2 (upd ml (nI i).toNatClampNeg (-1)) (upd mf (nI i).toNatClampNeg (-1))).2.2.2.2.2.2.2.1) ((LMo_reckon_108 (((0 : Int32)).toInt.toNat + 1) mK mB i 0 0 (FMo_pool (nI i) me mo mt mp mK mB mc md).1 (FMo_pool (nI i) me mo mt mp mK mB mc md).2.1 (FMo_pool (nI i) me mo mt mp mK mB mc md).2.2.1 (FMo_pool (nI i) me mo mt mp mK mB mc md).2.2.2.1 (FMo_pool (nI i) me mo mt mp mK mB mc md).2.2.2.2.1 (FMo_pool (nI i) me mo mt mp mK mB mc md).2.2.2.2.2 (upd ml (nI i).toNatClampNeg (-1)) (upd mf (nI i).toNatClampNeg (-1))).2.2.2.2.2.2.2.2) else LMo_reckon_22 n mn mK mA mB (i + 1) ((LMo_reckon_108 (((0 : Int32)).toInt.toNat + 1) mK mB i 0 0 (FMo_pool (nI i) me mo mt mp mK mB mc md).1 (FMo_pool (nI i) me mo mt mp mK mB mc md).2.1 (FMo_pool (nI i) me mo mt mp mK mB mc md).2.2.1 (FMo_pool (nI i) me mo mt mp mK mB mc md).2.2.2.1 (FMo_pool (nI i) me mo mt mp mK mB mc md).2.2.2.2.1 (FMo_pool (nI i) me mo mt mp mK mB mc md).2.2.2.2.2 (upd ml (nI i).toNatClampNeg (-1)) (upd mf (nI i).toNatClampNeg (-1))).2.1) ((LMo_reckon_108 (((0 : Int32)).toInt.toNat + 1) mK mB i 0 0 (FMo_pool (nI i) me mo mt mp mK mB mc md).1 (FMo_pool (nI i) me mo mt mp mK mB mc md).2.1 (FMo_pool (nI i) me mo mt mp mK mB mc md).2.2.1 (FMo_pool (nI i) me mo mt mp mK mB mc md).2.2.2.1 (FMo_pool (nI i) me mo mt mp mK mB mc md).2.2.2.2.1 (FMo_pool (nI i) me mo mt mp mK mB mc md).2.2.2.2.2 (upd ml (nI i).toNatClampNeg (-1)) (upd mf (nI i).toNatClampNeg (-1))).2.2.1) ((LMo_reckon_108 (((0 : Int32)).toInt.toNat + 1) mK mB i 0 0 (FMo_pool (nI i) me mo mt mp mK mB mc md).1 (FMo_pool (nI i) me mo mt mp mK mB mc md).2.1 (FMo_pool (nI i) me mo mt mp mK mB mc md).2.2.1 (FMo_pool (nI i) me mo mt mp mK mB mc md).2.2.2.1 (FMo_pool (nI i) me mo mt mp mK mB mc md).2.2.2.2.1 (FMo_pool (nI i) me mo mt mp mK mB mc md).2.2.2.2.2 (upd ml (nI i).toNatClampNeg (-1)) (upd mf (nI i).toNatClampNeg (-1))).2.2.2.1) ((LMo_reckon_108 (((0 : Int32)).toInt.toNat + 1) mK mB i 0 0 (FMo_pool (nI i) me mo mt mp mK mB mc md).1 (FMo_pool (nI i) me mo mt mp mK mB mc md).2.1 (FMo_pool (nI i) me mo mt mp mK mB mc md).2.2.1 (FMo_pool (nI i) me mo mt mp mK mB mc md).2.2.2.1 (FMo_pool (nI i) me mo mt mp mK mB mc md).2.2.2.2.1 (FMo_pool (nI i) me mo mt mp mK mB mc md).2.2.2.2.2 (upd ml (nI i).toNatClampNeg (-1)) (upd mf (nI i).toNatClampNeg (-1))).2.2.2.2.1) ((LMo_reckon_108 (((0 : Int32)).toInt.toNat + 1) mK mB i 0 0 (FMo_pool (nI i) me mo mt mp mK mB mc md).1 (FMo_pool (nI i) me mo mt mp mK mB mc md).2.1 (FMo_pool (nI i) me mo mt mp mK mB mc md).2.2.1 (FMo_pool (nI i) me mo mt mp mK mB mc md).2.2.2.1 (FMo_pool (nI i) me mo mt mp mK mB mc md).2.2.2.2.1 (FMo_pool (nI i) me mo mt mp mK mB mc md).2.2.2.2.2 (upd ml (nI i).toNatClampNeg (-1)) (upd mf (nI i).toNatClampNeg (-1))).2.2.2.2.2.1) ((LMo_reckon_108 (((0 : Int32)).toInt.toNat + 1) mK mB i 0 0 (FMo_pool (nI i) me mo mt mp mK mB mc md).1 (FMo_pool (nI i) me mo mt mp mK mB mc md).2.1 (FMo_pool (nI i) me mo mt mp mK mB mc md).2.2.1 (FMo_pool (nI i) me mo mt mp mK mB mc md).2.2.2.1 (FMo_pool (nI i) me mo mt mp mK mB mc md).2.2.2.2.1 (FMo_pool (nI i) me mo mt mp mK mB mc md).2.2.2.2.2 (upd ml (nI i).toNatClampNeg (-1)) (upd mf (nI i).toNatClampNeg (-1))).2.2.2.2.2.2.1) ((LMo_reckon_108 (((0 : Int32)).toInt.toNat + 1) mK mB i 0 0 (FMo_pool (nI i) me mo mt mp mK mB mc md).1 (FMo_pool (nI i) me mo mt mp mK mB mc md).2.1 (FMo_pool (nI i) me mo mt mp mK mB mc md).2.2.1 (FMo_pool (nI i) me mo mt mp mK mB mc md).2.2.2.1 (FMo_pool (nI i) me mo mt mp mK mB mc md).2.2.2.2.1 (FMo_pool (nI i) me mo mt mp mK mB mc md).2.2.2.2.2 (upd ml (nI i).toNatClampNeg (-1)) (upd mf (nI i).toNatClampNeg (-1))).2.2.2.2.2.2.2.1) ((LMo_reckon_108 (((0 : Int32)).toInt.toNat + 1) mK mB i 0 0 (FMo_pool (nI i) me mo mt mp mK mB mc md).1 (FMo_pool (nI i) me mo mt mp mK mB mc md).2.1 (FMo_pool (nI i) me mo mt mp mK mB mc md).2.2.1 (FMo_pool (nI i) me mo mt mp mK mB mc md).2.2.2.1 (FMo_pool (nI i) me mo mt mp mK mB mc md).2.2.2.2.1 (FMo_pool (nI i) me mo mt mp mK mB mc md).2.2.2.2.2 (upd ml (nI i).toNatClampNeg (-1)) (upd mf (nI i).toNatClampNeg (-1))).2.2.2.2.2.2.2.2) else if (mK (nI i).toNatClampNeg) = 10 then if (LMo_reckon_108 (((0 : Int32)).toInt.toNat + 1) mK mB i 0 0 me mo mt mp mc md (upd ml (nI i).toNatClampNeg (-1)) (upd mf (nI i).toNatClampNeg (-1))).2.2.1 = (-1) then LMo_reckon_22 n mn mK mA mB (i + 1) ((LMo_reckon_108 (((0 : Int32)).toInt.toNat + 1) mK mB i 0 0 me mo mt mp mc md (upd ml (nI i).toNatClampNeg (-1)) (upd mf (nI i).toNatClampNeg (-1))).2.1) (nI i) ((LMo_reckon_108 (((0 : Int32)).toInt.toNat + 1) mK mB i 0 0 me mo mt mp mc md (upd ml (nI i).toNatClampNeg (-1)) (upd mf (nI i).toNatClampNeg (-1))).2.2.2.1) ((LMo_reckon_108 (((0 : Int32)).toInt.toNat + 1) mK mB i 0 0 me mo mt mp mc md (upd ml (nI i).toNatClampNeg (-1)) (upd mf (nI i).toNatClampNeg (-1))).2.2.2.2.1) ((LMo_reckon_108 (((0 : Int32)).toInt.toNat + 1) mK mB i 0 0 me mo mt mp mc md (upd ml (nI i).toNatClampNeg (-1)) (upd mf (nI i).toNatClampNeg (-1))).2.2.2.2.2.1) ((LMo_reckon_108 (((0 : Int32)).toInt.toNat + 1) mK mB i 0 0 me mo mt mp mc md (upd ml (nI i).toNatClampNeg (-1)) (upd mf (nI i).toNatClampNeg (-1))).2.2.2.2.2.2.1) ((LMo_reckon_108 (((0 : Int32)).toInt.toNat + 1) mK mB i 0 0 me mo mt mp mc md (upd ml (nI i).toNatClampNeg (-1)) (upd mf (nI i).toNatClampNeg (-1))).2.2.2.2.2.2.2.1) ((LMo_reckon_108 (((0 : Int32)).toInt.toNat + 1) mK mB i 0 0 me mo mt mp mc md (upd ml (nI i).toNatClampNeg (-1)) (upd mf (nI i).toNatClampNeg (-1))).2.2.2.2.2.2.2.2) else LMo_reckon_22 n mn mK mA mB (i + 1) ((LMo_reckon_108 (((0 : Int32)).toInt.toNat + 1) mK mB i 0 0 me mo mt mp mc md (upd ml (nI i).toNatClampNeg (-1)) (upd mf (nI i).toNatClampNeg (-1))).2.1) ((LMo_reckon_108 (((0 : Int32)).toInt.toNat + 1) mK mB i 0 0 me mo mt mp mc md (upd ml (nI i).toNatClampNeg (-1)) (upd mf (nI i).toNatClampNeg (-1))).2.2.1) ((LMo_reckon_108 (((0 : Int32)).toInt.toNat + 1) mK mB i 0 0 me mo mt mp mc md (upd ml (nI i).toNatClampNeg (-1)) (upd mf (nI i).toNatClampNeg (-1))).2.2.2.1) ((LMo_reckon_108 (((0 : Int32)).toInt.toNat + 1) mK mB i 0 0 me mo mt mp mc md (upd ml (nI i).toNatClampNeg (-1)) (upd mf (nI i).toNatClampNeg (-1))).2.2.2.2.1) ((LMo_reckon_108 (((0 : Int32)).toInt.toNat + 1) mK mB i 0 0 me mo mt mp mc md (upd ml (nI i).toNatClampNeg (-1)) (upd mf (nI i).toNatClampNeg (-1))).2.2.2.2.2.1) ((LMo_reckon_108 (((0 : Int32)).toInt.toNat + 1) mK mB i 0 0 me mo mt mp mc md (upd ml (nI i).toNatClampNeg (-1)) (upd mf (nI i).toNatClampNeg (-1))).2.2.2.2.2.2.1) ((LMo_reckon_108 (((0 : Int32)).toInt.toNat + 1) mK mB i 0 0 me mo mt mp mc md (upd ml (nI i).toNatClampNeg (-1)) (upd mf (nI i).toNatClampNeg (-1))).2.2.2.2.2.2.2.1) ((LMo_reckon_108 (((0 : Int32)).toInt.toNat + 1) mK mB i 0 0 me mo mt mp mc md (upd ml (nI i).toNatClampNeg (-1)) (upd mf (nI i).toNatClampNeg (-1))).2.2.2.2.2.2.2.2) else LMo_reckon_22 n mn mK mA mB (i + 1) ((LMo_reckon_108 (((0 : Int32)).toInt.toNat + 1) mK mB i 0 0 me mo mt mp mc md (upd ml (nI i).toNatClampNeg (-1)) (upd mf (nI i).toNatClampNeg (-1))).2.1) ((LMo_reckon_108 (((0 : Int32)).toInt.toNat + 1) mK mB i 0 0 me mo mt mp mc md (upd ml (nI i).toNatClampNeg (-1)) (upd mf (nI i).toNatClampNeg (-1))).2.2.1) ((LMo_reckon_108 (((0 : Int32)).toInt.toNat + 1) mK mB i 0 0 me mo mt mp mc md (upd ml (nI i).toNatClampNeg (-1)) (upd mf (nI i).toNatClampNeg (-1))).2.2.2.1) ((LMo_reckon_108 (((0 : Int32)).toInt.toNat + 1) mK mB i 0 0 me mo mt mp mc md (upd ml (nI i).toNatClampNeg (-1)) (upd mf (nI i).toNatClampNeg (-1))).2.2.2.2.1) ((LMo_reckon_108 (((0 : Int32)).toInt.toNat + 1) mK mB i 0 0 me mo mt mp mc md (upd ml (nI i).toNatClampNeg (-1)) (upd mf (nI i).toNatClampNeg (-1))).2.2.2.2.2.1) ((LMo_reckon_108 (((0 : Int32)).toInt.toNat + 1) mK mB i 0 0 me mo mt mp mc md (upd ml (nI i).toNatClampNeg (-1)) (upd mf (nI i).toNatClampNeg (-1))).2.2.2.2.2.2.1) ((LMo_reckon_108 (((0 : Int32)).toInt.toNat + 1) mK mB i 0 0 me mo mt mp mc md (upd ml (nI i).toNatClampNeg (-1)) (upd mf (nI i).toNatClampNeg (-1))).2.2.2.2.2.2.2.1) ((LMo_reckon_108 (((0 : Int32)).toInt.toNat + 1) mK mB i 0 0 me mo mt mp mc md (upd ml (nI i).toNatClampNeg (-1)) (upd mf (nI i).toNatClampNeg (-1))).2.2.2.2.2.2.2.2) else if (mK (nI i).toNatClampNeg) = 14 then if (mK (nI i).toNatClampNeg) = 10 then if (LMo_reckon_108 (((0 : Int32)).toInt.toNat + 1) mK mB i 0 0 (FMo_pool (nI i) me mo mt mp mK mB mc md).1 (FMo_pool (nI i) me mo mt mp mK mB mc md).2.1 (FMo_pool (nI i) me mo mt mp mK mB mc md).2.2.1 (FMo_pool (nI i) me mo mt mp mK mB mc md).2.2.2.1 (FMo_pool (nI i) me mo mt mp mK mB mc md).2.2.2.2.1 (FMo_pool (nI i) me mo mt mp mK mB mc md).2.2.2.2.2 (upd ml (nI i).toNatClampNeg (-1)) (upd mf (nI i).toNatClampNeg (-1))).2.2.1 = (-1) then LMo_reckon_22 n mn mK mA mB (i + 1) ((LMo_reckon_108 (((0 : Int32)).toInt.toNat + 1) mK mB i 0 0 (FMo_pool (nI i) me mo mt mp mK mB mc md).1 (FMo_pool (nI i) me mo mt mp mK mB mc md).2.1 (FMo_pool (nI i) me mo mt mp mK mB mc md).2.2.1 (FMo_pool (nI i) me mo mt mp mK mB mc md).2.2.2.1 (FMo_pool (nI i) me mo mt mp mK mB mc md).2.2.2.2.1 (FMo_pool (nI i) me mo mt mp mK mB mc md).2.2.2.2.2 (upd ml (nI i).toNatClampNeg (-1)) (upd mf (nI i).toNatClampNeg (-1))).2.1) (nI i) ((LMo_reckon_108 (((0 : Int32)).toInt.toNat + 1) mK mB i 0 0 (FMo_pool (nI i) me mo mt mp mK mB mc md).1 (FMo_pool (nI i) me mo mt mp mK mB mc md).2.1 (FMo_pool (nI i) me mo mt mp mK mB mc md).2.2.1 (FMo_pool (nI i) me mo mt mp mK mB mc md).2.2.2.1 (FMo_pool (nI i) me mo mt mp mK mB mc md).2.2.2.2.1 (FMo_pool (nI i) me mo mt mp mK mB mc md).2.2.2.2.2 (upd ml (nI i).toNatClampNeg (-1)) (upd mf (nI i).toNatClampNeg (-1))).2.2.2.1) ((LMo_reckon_108 (((0 : Int32)).toInt.toNat + 1) mK mB i 0 0 (FMo_pool (nI i) me mo mt mp mK mB mc md).1 (FMo_pool (nI i) me mo mt mp mK mB mc md).2.1 (FMo_pool (nI i) me mo mt mp mK mB mc md).2.2.1 (FMo_pool (nI i) me mo mt mp mK mB mc md).2.2.2.1 (FMo_pool (nI i) me mo mt mp mK mB mc md).2.2.2.2.1 (FMo_pool (nI i) me mo mt mp mK mB mc md).2.2.2.2.2 (upd ml (nI i).toNatClampNeg (-1)) (upd mf (nI i).toNatClampNeg (-1))).2.2.2.2.1) ((LMo_reckon_108 (((0 : Int32)).toInt.toNat + 1) mK mB i 0 0 (FMo_pool (nI i) me mo mt mp mK mB mc md).1 (FMo_pool (nI i) me mo mt mp mK mB mc md).2.1 (FMo_pool (nI i) me mo mt mp mK mB mc md).2.2.1 (FMo_pool (nI i) me mo mt mp mK mB mc md).2.2.2.1 (FMo_pool (nI i) me mo mt mp mK mB mc md).2.2.2.2.1 (FMo_pool (nI i) me mo mt mp mK mB mc md).2.2.2.2.2 (upd ml (nI i).toNatClampNeg (-1)) (upd mf (nI i).toNatClampNeg (-1))).2.2.2.2.2.1) ((LMo_reckon_108 (((0 : Int32)).toInt.toNat + 1) mK mB i 0 0 (FMo_pool (nI i) me mo mt mp mK mB mc md).1 (FMo_pool (nI i) me mo mt mp mK mB mc md).2.1 (FMo_pool (nI i) me mo mt mp mK mB mc md).2.2.1 (FMo_pool (nI i) me mo mt mp mK mB mc md).2.2.2.1 (FMo_pool (nI i) me mo mt mp mK mB mc md).2.2.2.2.1 (FMo_pool (nI i) me mo mt mp mK mB mc md).2.2.2.2.2 (upd ml (nI i).toNatClampNeg (-1)) (upd mf (nI i).toNatClampNeg (-1))).2.2.2.2.2.2.1) ((LMo_reckon_108 (((0 : Int32)).toInt.toNat + 1) mK mB i 0 0 (FMo_pool (nI i) me mo mt mp mK mB mc md).1 (FMo_pool (nI i) me mo mt mp mK mB mc md).2.1 (FMo_pool (nI i) me mo mt mp mK mB mc md).2.2.1 (FMo_pool (nI i) me mo mt mp mK mB mc md).2.2.2.1 (FMo_pool (nI i) me mo mt mp mK mB mc md).2.2.2.2.1 (FMo_pool (nI i) me mo mt mp mK mB mc md).2.2.2.2.2 (upd ml (nI i).toNatClampNeg (-1)) (upd mf (nI i).toNatClampNeg (-1))).2.2.2.2.2.2.2.1) ((LMo_reckon_108 (((0 : Int32)).toInt.toNat + 1) mK mB i 0 0 (FMo_pool (nI i) me mo mt mp mK mB mc md).1 (FMo_pool (nI i) me mo mt mp mK mB mc md).2.1 (FMo_pool (nI i) me mo mt mp mK mB mc md).2.2.1 (FMo_pool (nI i) me mo mt mp mK mB mc md).2.2.2.1 (FMo_pool (nI i) me mo mt mp mK mB mc md).2.2.2.2.1 (FMo_pool (nI i) me mo mt mp mK mB mc md).2.2.2.2.2 (upd ml (nI i).toNatClampNeg (-1)) (upd mf (nI i).toNatClampNeg (-1))).2.2.2.2.2.2.2.2) else LMo_reckon_22 n mn mK mA mB (i + 1) ((LMo_reckon_108 (((0 : Int32)).toInt.toNat + 1) mK mB i 0 0 (FMo_pool (nI i) me mo mt mp mK mB mc md).1 (FMo_pool (nI i) me mo mt mp mK mB mc md).2.1 (FMo_pool (nI i) me mo mt mp mK mB mc md).2.2.1 (FMo_pool (nI i) me mo mt mp mK mB mc md).2.2.2.1 (FMo_pool (nI i) me mo mt mp mK mB mc md).2.2.2.2.1 (FMo_pool (nI i) me mo mt mp mK mB mc md).2.2.2.2.2 (upd ml (nI i).toNatClampNeg (-1)) (upd mf (nI i).toNatClampNeg (-1))).2.1) ((LMo_reckon_108 (((0 : Int32)).toInt.toNat + 1) mK mB i 0 0 (FMo_pool (nI i) me mo mt mp mK mB mc md).1 (FMo_pool (nI i) me mo mt mp mK mB mc md).2.1 (FMo_pool (nI i) me mo mt mp mK mB mc md).2.2.1 (FMo_pool (nI i) me mo mt mp mK mB mc md).2.2.2.1 (FMo_pool (nI i) me mo mt mp mK mB mc md).2.2.2.2.1 (FMo_pool (nI i) me mo mt mp mK mB mc md).2.2.2.2.2 (upd ml (nI i).toNatClampNeg (-1)) (upd mf (nI i).toNatClampNeg (-1))).2.2.1) ((LMo_reckon_108 (((0 : Int32)).toInt.toNat + 1) mK mB i 0 0 (FMo_pool (nI i) me mo mt mp mK mB mc md).1 (FMo_pool (nI i) me mo mt mp mK mB mc md).2.1 (FMo_pool (nI i) me mo mt mp mK mB mc md).2.2.1 (FMo_pool (nI i) me mo mt mp mK mB mc md).2.2.2.1 (FMo_pool (nI i) me mo mt mp mK mB mc md).2.2.2.2.1 (FMo_pool (nI i) me mo mt mp mK mB mc md).2.2.2.2.2 (upd ml (nI i).toNatClampNeg (-1)) (upd mf (nI i).toNatClampNeg (-1))).2.2.2.1) ((LMo_reckon_108 (((0 : Int32)).toInt.toNat + 1) mK mB i 0 0 (FMo_pool (nI i) me mo mt mp mK mB mc md).1 (FMo_pool (nI i) me mo mt mp mK mB mc md).2.1 (FMo_pool (nI i) me mo mt mp mK mB mc md).2.2.1 (FMo_pool (nI i) me mo mt mp mK mB mc md).2.2.2.1 (FMo_pool (nI i) me mo mt mp mK mB mc md).2.2.2.2.1 (FMo_pool (nI i) me mo mt mp mK mB mc md).2.2.2.2.2 (upd ml (nI i).toNatClampNeg (-1)) (upd mf (nI i).toNatClampNeg (-1))).2.2.2.2.1) ((LMo_reckon_108 (((0 : Int32)).toInt.toNat + 1) mK mB i 0 0 (FMo_pool (nI i) me mo mt mp mK mB mc md).1 (FMo_pool (nI i) me mo mt mp mK mB mc md).2.1 (FMo_pool (nI i) me mo mt mp mK mB mc md).2.2.1 (FMo_pool (nI i) me mo mt mp mK mB mc md).2.2.2.1 (FMo_pool (nI i) me mo mt mp mK mB mc md).2.2.2.2.1 (FMo_pool (nI i) me mo mt mp mK mB mc md).2.2.2.2.2 (upd ml (nI i).toNatClampNeg (-1)) (upd mf (nI i).toNatClampNeg (-1))).2.2.2.2.2.1) ((LMo_reckon_108 (((0 : Int32)).toInt.toNat + 1) mK mB i 0 0 (FMo_pool (nI i) me mo mt mp mK mB mc md).1 (FMo_pool (nI i) me mo mt mp mK mB mc md).2.1 (FMo_pool (nI i) me mo mt mp mK mB mc md).2.2.1 (FMo_pool (nI i) me mo mt mp mK mB mc md).2.2.2.1 (FMo_pool (nI i) me mo mt mp mK mB mc md).2.2.2.2.1 (FMo_pool (nI i) me mo mt mp mK mB mc md).2.2.2.2.2 (upd ml (nI i).toNatClampNeg (-1)) (upd mf (nI i).toNatClampNeg (-1))).2.2.2.2.2.2.1) ((LMo_reckon_108 (((0 : Int32)).toInt.toNat + 1) mK mB i 0 0 (FMo_pool (nI i) me mo mt mp mK mB mc md).1 (FMo_pool (nI i) me mo mt mp mK mB mc md).2.1 (FMo_pool (nI i) me mo mt mp mK mB mc md).2.2.1 (FMo_pool (nI i) me mo mt mp mK mB mc md).2.2.2.1 (FMo_pool (nI i) me mo mt mp mK mB mc md).2.2.2.2.1 (FMo_pool (nI i) me mo mt mp mK mB mc md).2.2.2.2.2 (upd ml (nI i).toNatClampNeg (-1)) (upd mf (nI i).toNatClampNeg (-1))).2.2.2.2.2.2.2.1) ((LMo_reckon_108 (((0 : Int32)).toInt.toNat + 1) mK mB i 0 0 (FMo_pool (nI i) me mo mt mp mK mB mc md).1 (FMo_pool (nI i) me mo mt mp mK mB mc md).2.1 (FMo_pool (nI i) me mo mt mp mK mB mc md).2.2.1 (FMo_pool (nI i) me mo mt mp mK mB mc md).2.2.2.1 (FMo_pool (nI i) me mo mt mp mK mB mc md).2.2.2.2.1 (FMo_pool (nI i) me mo mt mp mK mB mc md).2.2.2.2.2 (upd ml (nI i).toNatClampNeg (-1)) (upd mf (nI i).toNatClampNeg (-1))).2.2.2.2.2.2.2.2) else LMo_reckon_22 n mn mK mA mB (i + 1) ((LMo_reckon_108 (((0 : Int32)).toInt.toNat + 1) mK mB i 0 0 (FMo_pool (nI i) me mo mt mp mK mB mc md).1 (FMo_pool (nI i) me mo mt mp mK mB mc md).2.1 (FMo_pool (nI i) me mo mt mp mK mB mc md).2.2.1 (FMo_pool (nI i) me mo mt mp mK mB mc md).2.2.2.1 (FMo_pool (nI i) me mo mt mp mK mB mc md).2.2.2.2.1 (FMo_pool (nI i) me mo mt mp mK mB mc md).2.2.2.2.2 (upd ml (nI i).toNatClampNeg (-1)) (upd mf (nI i).toNatClampNeg (-1))).2.1) ((LMo_reckon_108 (((0 : Int32)).toInt.toNat + 1) mK mB i 0 0 (FMo_pool (nI i) me mo mt mp mK mB mc md).1 (FMo_pool (nI i) me mo mt mp mK mB mc md).2.1 (FMo_pool (nI i) me mo mt mp mK mB mc md).2.2.1 (FMo_pool (nI i) me mo mt mp mK mB mc md).2.2.2.1 (FMo_pool (nI i) me mo mt mp mK mB mc md).2.2.2.2.1 (FMo_pool (nI i) me mo mt mp mK mB mc md).2.2.2.2.2 (upd ml (nI i).toNatClampNeg (-1)) (upd mf (nI i).toNatClampNeg (-1))).2.2.1) ((LMo_reckon_108 (((0 : Int32)).toInt.toNat + 1) mK mB i 0 0 (FMo_pool (nI i) me mo mt mp mK mB mc md).1 (FMo_pool (nI i) me mo mt mp mK mB mc md).2.1 (FMo_pool (nI i) me mo mt mp mK mB mc md).2.2.1 (FMo_pool (nI i) me mo mt mp mK mB mc md).2.2.2.1 (FMo_pool (nI i) me mo mt mp mK mB mc md).2.2.2.2.1 (FMo_pool (nI i) me mo mt mp mK mB mc md).2.2.2.2.2 (upd ml (nI i).toNatClampNeg (-1)) (upd mf (nI i).toNatClampNeg (-1))).2.2.2.1) ((LMo_reckon_108 (((0 : Int32)).toInt.toNat + 1) mK mB i 0 0 (FMo_pool (nI i) me mo mt mp mK mB mc md).1 (FMo_pool (nI i) me mo mt mp mK mB mc md).2.1 (FMo_pool (nI i) me mo mt mp mK mB mc md).2.2.1 (FMo_pool (nI i) me mo mt mp mK mB mc md).2.2.2.1 (FMo_pool (nI i) me mo mt mp mK mB mc md).2.2.2.2.1 (FMo_pool (nI i) me mo mt mp mK mB mc md).2.2.2.2.2 (upd ml (nI i).toNatClampNeg (-1)) (upd mf (nI i).toNatClampNeg (-1))).2.2.2.2.1) ((LMo_reckon_108 (((0 : Int32)).toInt.toNat + 1) mK mB i 0 0 (FMo_pool (nI i) me mo mt mp mK mB mc md).1 (FMo_pool (nI i) me mo mt mp mK mB mc md).2.1 (FMo_pool (nI i) me mo mt mp mK mB mc md).2.2.1 (FMo_pool (nI i) me mo mt mp mK mB mc md).2.2.2.1 (FMo_pool (nI i) me mo mt mp mK mB mc md).2.2.2.2.1 (FMo_pool (nI i) me mo mt mp mK mB mc md).2.2.2.2.2 (upd ml (nI i).toNatClampNeg (-1)) (upd mf (nI i).toNatClampNeg (-1))).2.2.2.2.2.1) ((LMo_reckon_108 (((0 : Int32)).toInt.toNat + 1) mK mB i 0 0 (FMo_pool (nI i) me mo mt mp mK mB mc md).1 (FMo_pool (nI i) me mo mt mp mK mB mc md).2.1 (FMo_pool (nI i) me mo mt mp mK mB mc md).2.2.1 (FMo_pool (nI i) me mo mt mp mK mB mc md).2.2.2.1 (FMo_pool (nI i) me mo mt mp mK mB mc md).2.2.2.2.1 (FMo_pool (nI i) me mo mt mp mK mB mc md).2.2.2.2.2 (upd ml (nI i).toNatClampNeg (-1)) (upd mf (nI i).toNatClampNeg (-1))).2.2.2.2.2.2.1) ((LMo_reckon_108 (((0 : Int32)).toInt.toNat + 1) mK mB i 0 0 (FMo_pool (nI i) me mo mt mp mK mB mc md).1 (FMo_pool (nI i) me mo mt mp mK mB mc md).2.1 (FMo_pool (nI i) me mo mt mp mK mB mc md).2.2.1 (FMo_pool (nI i) me mo mt mp mK mB mc md).2.2.2.1 (FMo_pool (nI i) me mo mt mp mK mB mc md).2.2.2.2.1 (FMo_pool (nI i) me mo mt mp mK mB mc md).2.2.2.2.2 (upd ml (nI i).toNatClampNeg (-1)) (upd mf (nI i).toNatClampNeg (-1))).2.2.2.2.2.2.2.1) ((LMo_reckon_108 (((0 : Int32)).toInt.toNat + 1) mK mB i 0 0 (FMo_pool (nI i) me mo mt mp mK mB mc md).1 (FMo_pool (nI i) me mo mt mp mK mB mc md).2.1 (FMo_pool (nI i) me mo mt mp mK mB mc md).2.2.1 (FMo_pool (nI i) me mo mt mp mK mB mc md).2.2.2.1 (FMo_pool (nI i) me mo mt mp mK mB mc md).2.2.2.2.1 (FMo_pool (nI i) me mo mt mp mK mB mc md).2.2.2.2.2 (upd ml (nI i).toNatClampNeg (-1)) (upd mf (nI i).toNatClampNeg (-1))).2.2.2.2.2.2.2.2) else if (mK (nI i).toNatClampNeg) = 13 then if (mK (nI i).toNatClampNeg) = 10 then if (LMo_reckon_108 ((mA (nI i).toNatClampNeg).toInt.toNat + 1) mK mB i (mA (nI i).toNatClampNeg) 0 me mo mt mp mc md (upd ml (nI i).toNatClampNeg (-1)) (upd mf (nI i).toNatClampNeg (-1))).2.2.1 = (-1) then LMo_reckon_22 n mn mK mA mB (i + 1) ((LMo_reckon_108 ((mA (nI i).toNatClampNeg).toInt.toNat + 1) mK mB i (mA (nI i).toNatClampNeg) 0 me mo mt mp mc md (upd ml (nI i).toNatClampNeg (-1)) (upd mf (nI i).toNatClampNeg (-1))).2.1) (nI i) ((LMo_reckon_108 ((mA (nI i).toNatClampNeg).toInt.toNat + 1) mK mB i (mA (nI i).toNatClampNeg) 0 me mo mt mp mc md (upd ml (nI i).toNatClampNeg (-1)) (upd mf (nI i).toNatClampNeg (-1))).2.2.2.1) ((LMo_reckon_108 ((mA (nI i).toNatClampNeg).toInt.toNat + 1) mK mB i (mA (nI i).toNatClampNeg) 0 me mo mt mp mc md (upd ml (nI i).toNatClampNeg (-1)) (upd mf (nI i).toNatClampNeg (-1))).2.2.2.2.1) ((LMo_reckon_108 ((mA (nI i).toNatClampNeg).toInt.toNat + 1) mK mB i (mA (nI i).toNatClampNeg) 0 me mo mt mp mc md (upd ml (nI i).toNatClampNeg (-1)) (upd mf (nI i).toNatClampNeg (-1))).2.2.2.2.2.1) ((LMo_reckon_108 ((mA (nI i).toNatClampNeg).toInt.toNat + 1) mK mB i (mA (nI i).toNatClampNeg) 0 me mo mt mp mc md (upd ml (nI i).toNatClampNeg (-1)) (upd mf (nI i).toNatClampNeg (-1))).2.2.2.2.2.2.1) ((LMo_reckon_108 ((mA (nI i).toNatClampNeg).toInt.toNat + 1) mK mB i (mA (nI i).toNatClampNeg) 0 me mo mt mp mc md (upd ml (nI i).toNatClampNeg (-1)) (upd mf (nI i).toNatClampNeg (-1))).2.2.2.2.2.2.2.1) ((LMo_reckon_108 ((mA (nI i).toNatClampNeg).toInt.toNat + 1) mK mB i (mA (nI i).toNatClampNeg) 0 me mo mt mp mc md (upd ml (nI i).toNatClampNeg (-1)) (upd mf (nI i).toNatClampNeg (-1))).2.2.2.2.2.2.2.2) else LMo_reckon_22 n mn mK mA mB (i + 1) ((LMo_reckon_108 ((mA (nI i).toNatClampNeg).toInt.toNat + 1) mK mB i (mA (nI i).toNatClampNeg) 0 me mo mt mp mc md (upd ml (nI i).toNatClampNeg (-1)) (upd mf (nI i).toNatClampNeg (-1))).2.1) ((LMo_reckon_108 ((mA (nI i).toNatClampNeg).toInt.toNat + 1) mK mB i (mA (nI i).toNatClampNeg) 0 me mo mt mp mc md (upd ml (nI i).toNatClampNeg (-1)) (upd mf (nI i).toNatClampNeg (-1))).2.2.1) ((LMo_reckon_108 ((mA (nI i).toNatClampNeg).toInt.toNat + 1) mK mB i (mA (nI i).toNatClampNeg) 0 me mo mt mp mc md (upd ml (nI i).toNatClampNeg (-1)) (upd mf (nI i).toNatClampNeg (-1))).2.2.2.1) ((LMo_reckon_108 ((mA (nI i).toNatClampNeg).toInt.toNat + 1) mK mB i (mA (nI i).toNatClampNeg) 0 me mo mt mp mc md (upd ml (nI i).toNatClampNeg (-1)) (upd mf (nI i).toNatClampNeg (-1))).2.2.2.2.1) ((LMo_reckon_108 ((mA (nI i).toNatClampNeg).toInt.toNat + 1) mK mB i (mA (nI i).toNatClampNeg) 0 me mo mt mp mc md (upd ml (nI i).toNatClampNeg (-1)) (upd mf (nI i).toNatClampNeg (-1))).2.2.2.2.2.1) ((LMo_reckon_108 ((mA (nI i).toNatClampNeg).toInt.toNat + 1) mK mB i (mA (nI i).toNatClampNeg) 0 me mo mt mp mc md (upd ml (nI i).toNatClampNeg (-1)) (upd mf (nI i).toNatClampNeg (-1))).2.2.2.2.2.2.1) ((LMo_reckon_108 ((mA (nI i).toNatClampNeg).toInt.toNat + 1) mK mB i (mA (nI i).toNatClampNeg) 0 me mo mt mp mc md (upd ml (nI i).toNatClampNeg (-1)) (upd mf (nI i).toNatClampNeg (-1))).2.2.2.2.2.2.2.1) ((LMo_reckon_108 ((mA (nI i).toNatClampNeg).toInt.toNat + 1) mK mB i (mA (nI i).toNatClampNeg) 0 me mo mt mp mc md (upd ml (nI i).toNatClampNeg (-1)) (upd mf (nI i).toNatClampNeg (-1))).2.2.2.2.2.2.2.2) else LMo_reckon_22 n mn mK mA mB (i + 1) ((LMo_reckon_108 ((mA (nI i).toNatClampNeg).toInt.toNat + 1) mK mB i (mA (nI i).toNatClampNeg) 0 me mo mt mp mc md (upd ml (nI i).toNatClampNeg (-1)) (upd mf (nI i).toNatClampNeg (-1))).2.1) ((LMo_reckon_108 ((mA (nI i).toNatClampNeg).toInt.toNat + 1) mK mB i (mA (nI i).toNatClampNeg) 0 me mo mt mp mc md (upd ml (nI i).toNatClampNeg (-1)) (upd mf (nI i).toNatClampNeg (-1))).2.2.1) ((LMo_reckon_108 ((mA (nI i).toNatClampNeg).toInt.toNat + 1) mK mB i (mA (nI i).toNatClampNeg) 0 me mo mt mp mc md (upd ml (nI i).toNatClampNeg (-1)) (upd mf (nI i).toNatClampNeg (-1))).2.2.2.1) ((LMo_reckon_108 ((mA (nI i).toNatClampNeg).toInt.toNat + 1) mK mB i (mA (nI i).toNatClampNeg) 0 me mo mt mp mc md (upd ml (nI i).toNatClampNeg (-1)) (upd mf (nI i).toNatClampNeg (-1))).2.2.2.2.1) ((LMo_reckon_108 ((mA (nI i).toNatClampNeg).toInt.toNat + 1) mK mB i (mA (nI i).toNatClampNeg) 0 me mo mt mp mc md (upd ml (nI i).toNatClampNeg (-1)) (upd mf (nI i).toNatClampNeg (-1))).2.2.2.2.2.1) ((LMo_reckon_108 ((mA (nI i).toNatClampNeg).toInt.toNat + 1) mK mB i (mA (nI i).toNatClampNeg) 0 me mo mt mp mc md (upd ml (nI i).toNatClampNeg (-1)) (upd mf (nI i).toNatClampNeg (-1))).2.2.2.2.2.2.1) ((LMo_reckon_108 ((mA (nI i).toNatClampNeg).toInt.toNat + 1) mK mB i (mA (nI i).toNatClampNeg) 0 me mo mt mp mc md (upd ml (nI i).toNatClampNeg (-1)) (upd mf (nI i).toNatClampNeg (-1))).2.2.2.2.2.2.2.1) ((LMo_reckon_108 ((mA (nI i).toNatClampNeg).toInt.toNat + 1) mK mB i (mA (nI i).toNatClampNeg) 0 me mo mt mp mc md (upd ml (nI i).toNatClampNeg (-1)) (upd mf (nI i).toNatClampNeg (-1))).2.2.2.2.2.2.2.2) else if (mK (nI i).toNatClampNeg) = 10 then if (LMo_reckon_108 (((1 : Int32)).toInt.toNat + 1) mK mB i 1 0 me mo mt mp mc md (upd ml (nI i).toNatClampNeg (-1)) (upd mf (nI i).toNatClampNeg (-1))).2.2.1 = (-1) then LMo_reckon_22 n mn mK mA mB (i + 1) ((LMo_reckon_108 (((1 : Int32)).toInt.toNat + 1) mK mB i 1 0 me mo mt mp mc md (upd ml (nI i).toNatClampNeg (-1)) (upd mf (nI i).toNatClampNeg (-1))).2.1) (nI i) ((LMo_reckon_108 (((1 : Int32)).toInt.toNat + 1) mK mB i 1 0 me mo mt mp mc md (upd ml (nI i).toNatClampNeg (-1)) (upd mf (nI i).toNatClampNeg (-1))).2.2.2.1) ((LMo_reckon_108 (((1 : Int32)).toInt.toNat + 1) mK mB i 1 0 me mo mt mp mc md (upd ml (nI i).toNatClampNeg (-1)) (upd mf (nI i).toNatClampNeg (-1))).2.2.2.2.1) ((LMo_reckon_108 (((1 : Int32)).toInt.toNat + 1) mK mB i 1 0 me mo mt mp mc md (upd ml (nI i).toNatClampNeg (-1)) (upd mf (nI i).toNatClampNeg (-1))).2.2.2.2.2.1) ((LMo_reckon_108 (((1 : Int32)).toInt.toNat + 1) mK mB i 1 0 me mo mt mp mc md (upd ml (nI i).toNatClampNeg (-1)) (upd mf (nI i).toNatClampNeg (-1))).2.2.2.2.2.2.1) ((LMo_reckon_108 (((1 : Int32)).toInt.toNat + 1) mK mB i 1 0 me mo mt mp mc md (upd ml (nI i).toNatClampNeg (-1)) (upd mf (nI i).toNatClampNeg (-1))).2.2.2.2.2.2.2.1) ((LMo_reckon_108 (((1 : Int32)).toInt.toNat + 1) mK mB i 1 0 me mo mt mp mc md (upd ml (nI i).toNatClampNeg (-1)) (upd mf (nI i).toNatClampNeg (-1))).2.2.2.2.2.2.2.2) else LMo_reckon_22 n mn mK mA mB (i + 1) ((LMo_reckon_108 (((1 : Int32)).toInt.toNat + 1) mK mB i 1 0 me mo mt mp mc md (upd ml (nI i).toNatClampNeg (-1)) (upd mf (nI i).toNatClampNeg (-1))).2.1) ((LMo_reckon_108 (((1 : Int32)).toInt.toNat + 1) mK mB i 1 0 me mo mt mp mc md (upd ml (nI i).toNatClampNeg (-1)) (upd mf (nI i).toNatClampNeg (-1))).2.2.1) ((LMo_reckon_108 (((1 : Int32)).toInt.toNat + 1) mK mB i 1 0 me mo mt mp mc md (upd ml (nI i).toNatClampNeg (-1)) (upd mf (nI i).toNatClampNeg (-1))).2.2.2.1) ((LMo_reckon_108 (((1 : Int32)).toInt.toNat + 1) mK mB i 1 0 me mo mt mp mc md (upd ml (nI i).toNatClampNeg (-1)) (upd mf (nI i).toNatClampNeg (-1))).2.2.2.2.1) ((LMo_reckon_108 (((1 : Int32)).toInt.toNat + 1) mK mB i 1 0 me mo mt mp mc md (upd ml (nI i).toNatClampNeg (-1)) (upd mf (nI i).toNatClampNeg (-1))).2.2.2.2.2.1) ((LMo_reckon_108 (((1 : Int32)).toInt.toNat + 1) mK mB i 1 0 me mo mt mp mc md (upd ml (nI i).toNatClampNeg (-1)) (upd mf (nI i).toNatClampNeg (-1))).2.2.2.2.2.2.1) ((LMo_reckon_108 (((1 : Int32)).toInt.toNat + 1) mK mB i 1 0 me mo mt mp mc md (upd ml (nI i).toNatClampNeg (-1)) (upd mf (nI i).toNatClampNeg (-1))).2.2.2.2.2.2.2.1) ((LMo_reckon_108 (((1 : Int32)).toInt.toNat + 1) mK mB i 1 0 me mo mt mp mc md (upd ml (nI i).toNatClampNeg (-1)) (upd mf (nI i).toNatClampNeg (-1))).2.2.2.2.2.2.2.2) else LMo_reckon_22 n mn mK mA mB (i + 1) ((LMo_reckon_108 (((1 : Int32)).toInt.toNat + 1) mK mB i 1 0 me mo mt mp mc md (upd ml (nI i).toNatClampNeg (-1)) (upd mf (nI i).toNatClampNeg (-1))).2.1) ((LMo_reckon_108 (((1 : Int32)).toInt.toNat + 1) mK mB i 1 0 me mo mt mp mc md (upd ml (nI i).toNatClampNeg (-1)) (upd mf (nI i).toNatClampNeg (-1))).2.2.1) ((LMo_reckon_108 (((1 : Int32)).toInt.toNat + 1) mK mB i 1 0 me mo mt mp mc md (upd ml (nI i).toNatClampNeg (-1)) (upd mf (nI i).toNatClampNeg (-1))).2.2.2.1) ((LMo_reckon_108 (((1 : Int32)).toInt.toNat + 1) mK mB i 1 0 me mo mt mp mc md (upd ml (nI i).toNatClampNeg (-1)) (upd mf (nI i).toNatClampNeg (-1))).2.2.2.2.1) ((LMo_reckon_108 (((1 : Int32)).toInt.toNat + 1) mK mB i 1 0 me mo mt mp mc md (upd ml (nI i).toNatClampNeg (-1)) (upd mf (nI i).toNatClampNeg (-1))).2.2.2.2.2.1) ((LMo_reckon_108 (((1 : Int32)).toInt.toNat + 1) mK mB i 1 0 me mo mt mp mc md (upd ml (nI i).toNatClampNeg (-1)) (upd mf (nI i).toNatClampNeg (-1))).2.2.2.2.2.2.1) ((LMo_reckon_108 (((1 : Int32)).toInt.toNat + 1) mK mB i 1 0 me mo mt mp mc md (upd ml (nI i).toNatClampNeg (-1)) (upd mf (nI i).toNatClampNeg (-1))).2.2.2.2.2.2.2.1) ((LMo_reckon_108 (((1 : Int32)).toInt.toNat + 1) mK mB i 1 0 me mo mt mp mc md (upd ml (nI i).toNatClampNeg (-1)) (upd mf (nI i).toNatClampNeg (-1))).2.2.2.2.2.2.2.2)
set_option maxHeartbeats 4000000 in
set_option maxRecDepth 100000 in
theorem qMo_reckon_22 {p : Program} {l : Launch} {e : Env} {R : Room} {s : State} {m : MethodId} {args : Array Value} {below : List Frame} {meth : Method} {c : Code} {Q : State → Prop} {A : Nat → Prop} (D : va_G) (ad : Nat → Nat) (cI cS : ClassId) (hx : p.tables.exec = Jvm.exec) (hb : c.code = cMo_reckon) (hml : c.maxLocals = 4) (hw : ∀ w ∈ pq_ws, w.before args s = true) (hown : s.vm.findClass RMo = some m.cls) (hE : pq_E D cI cS s) (hA : ∀ q : Nat, s.heap.size ≤ q → A q) (hR : 3 ≤ R.frames ∧ 72 ≤ R.locals) (c0 : Nat) : ∀ (n : Nat) (i : Nat) (mq : Int32) (mn : Int32) (me : Int32) (mo : Int32) (mt : Int32) (mx : Int32) (mp : Int32) (mz : Int32) (mu : Int32) (vn : Int32) (vz : Int32) (vc : Int32) (vv : Int32) (vp : Int32) (ve : Int32) (mK : Nat → Int32) (mA : Nat → Int32) (mB : Nat → Int32) (mC : Nat → Int32) (mf : Nat → Int32) (ml : Nat → Int32) (mc : Nat → Int32) (mL : Nat → Int32) (md : Nat → Int32) (mi : Nat → Int32) (mr : Nat → Int32) (mw : Nat → Int32) (ls : Array Slot) (H : Heap) (locs : List Loc), (mn = nI c0) → (c0 ≤ 160) → (i ≤ c0) → (pq_phi me mo (nI i) (84 * (i : Int))) → (∀ y9 : Nat, vp_in (mf y9 / 2) 7200) → (∀ y9 : Nat, vp_in (ml y9 / 2) 7200) → (∀ y9 : Nat, y9 < 160 → mK y9 = 13 → (mA y9).toInt ≤ 40) → (c0 - i) < n → lv_has ls 4 [(0, .ref (ad 17)), (1, .int (nI i))] → va_P D vwCl (wM ad cI cS mq mn me mo mt mx mp mz mu vn vz vc vv vp ve mK mA mB mC mf ml mc mL md mi mr mw) H → va_D A (wM ad cI cS mq mn me mo mt mx mp mz mu vn vz vc vv vp ve mK mA mB mC mf ml mc mL md mi mr mw) → va_S A s.heap H locs → (∀ (ls : Array Slot) (H : Heap) (locs : List Loc), (pq_phi ((LMo_reckon_22 n mn mK mA mB i me mo mt mp mc md ml mf).2.1) ((LMo_reckon_22 n mn mK mA mB i me mo mt mp mc md ml mf).2.2.1) mn (84 * (c0 : Int))) → (∀ y9 : Nat, vp_in (((LMo_reckon_22 n mn mK mA mB i me mo mt mp mc md ml mf).2.2.2.2.2.2.2.2) y9 / 2) 7200) → (∀ y9 : Nat, vp_in (((LMo_reckon_22 n mn mK mA mB i me mo mt mp mc md ml mf).2.2.2.2.2.2.2.1) y9 / 2) 7200) → lv_has ls 4 [(0, .ref (ad 17)), (1, .int (nI ((LMo_reckon_22 n mn mK mA mB i me mo mt mp mc md ml mf).1)))] → va_P D vwCl (wM ad cI cS mq mn ((LMo_reckon_22 n mn mK mA mB i me mo mt mp mc md ml mf).2.1) ((LMo_reckon_22 n mn mK mA mB i me mo mt mp mc md ml mf).2.2.1) ((LMo_reckon_22 n mn mK mA mB i me mo mt mp mc md ml mf).2.2.2.1) mx ((LMo_reckon_22 n mn mK mA mB i me mo mt mp mc md ml mf).2.2.2.2.1) mz mu vn vz vc vv vp ve mK mA mB mC ((LMo_reckon_22 n mn mK mA mB i me mo mt mp mc md ml mf).2.2.2.2.2.2.2.2) ((LMo_reckon_22 n mn mK mA mB i me mo mt mp mc md ml mf).2.2.2.2.2.2.2.1) ((LMo_reckon_22 n mn mK mA mB i me mo mt mp mc md ml mf).2.2.2.2.2.1) mL ((LMo_reckon_22 n mn mK mA mB i me mo mt mp mc md ml mf).2.2.2.2.2.2.1) mi mr mw) H → va_D A (wM ad cI cS mq mn ((LMo_reckon_22 n mn mK mA mB i me mo mt mp mc md ml mf).2.1) ((LMo_reckon_22 n mn mK mA mB i me mo mt mp mc md ml mf).2.2.1) ((LMo_reckon_22 n mn mK mA mB i me mo mt mp mc md ml mf).2.2.2.1) mx ((LMo_reckon_22 n mn mK mA mB i me mo mt mp mc md ml mf).2.2.2.2.1) mz mu vn vz vc vv vp ve mK mA mB mC ((LMo_reckon_22 n mn mK mA mB i me mo mt mp mc md ml mf).2.2.2.2.2.2.2.2) ((LMo_reckon_22 n mn mK mA mB i me mo mt mp mc md ml mf).2.2.2.2.2.2.2.1) ((LMo_reckon_22 n mn mK mA mB i me mo mt mp mc md ml mf).2.2.2.2.2.1) mL ((LMo_reckon_22 n mn mK mA mB i me mo mt mp mc md ml mf).2.2.2.2.2.2.1) mi mr mw) → va_S A s.heap H locs → W p l e R s m args below meth c H locs 0 0 Q (F0 m 178 ls [])) → W p l e R s m args below meth c H locs 0 0 Q (F0 m 22 ls []) := by
  intro n
  induction n with
  | zero =>
    intro i mq mn me mo mt mx mp mz mu vn vz vc vv vp ve mK mA mB mC mf ml mc mL md mi mr mw ls H locs hc hc1 hi hph hf hlv hsp hm hl hP hD hS kk
    exact absurd hm (Nat.not_lt_zero _)
  | succ n ih =>
    intro i mq mn me mo mt mx mp mz mu vn vz vc vv vp ve mK mA mB mC mf ml mc mL md mi mr mw ls H locs hc hc1 hi hph hf hlv hsp hm hl hP hD hS kk
    refine lv_iload_n hx hb dMo_reckon_22 rfl (lv_at hl 1 rfl) ?_
    refine lv_aload_n hx hb dMo_reckon_23 rfl (lv_at hl 0 rfl) ?_
    refine va_get (D := D) (ci := 5) (v := .int mn) (C := RMo) (T := TMo) (N := 27) hx hb hw pinMo hown hE.1 hP 0 rfl rfl 1 (by decide) (hw _ wd_265) (fun _ h9 => h9) rfl dMo_reckon_24 ?_
    refine lv_icmp_ge (tgt := 178) hx hb dMo_reckon_27 (by decide) (fun h1 => ?_) (fun h1 => ?_)
    · have e9 : LMo_reckon_22 (n + 1) mn mK mA mB i me mo mt mp mc md ml mf = (i, me, mo, mt, mp, mc, md, ml, mf) := by simp only [LMo_reckon_22, if_pos h1]
      rw [e9] at kk
      exact kk ls H locs (by have q9 : i = c0 := pq_eqc hc (by omega) hi (by assumption); subst q9; rw [hc]; exact hph) hf hlv (lv_sub hl [0, 1] rfl) hP hD hS
    · have hf := pq_updv (k := (nI i).toNatClampNeg) hf pq_m1v
      have hlv := pq_updv (k := (nI i).toNatClampNeg) hlv pq_m1v
      refine lv_aload_n hx hb dMo_reckon_30 rfl (lv_at hl 0 rfl) ?_
      refine va_get (D := D) (ci := 5) (v := .ref (ad 22)) (C := RMo) (T := TMo) (N := 27) hx hb hw pinMo hown hE.1 hP 0 rfl rfl 6 (by decide) (hw _ wd_277) (fun _ h9 => h9) rfl dMo_reckon_31 ?_
      refine lv_iload_n hx hb dMo_reckon_34 rfl (lv_at hl 1 rfl) ?_
      refine lv_iconst (v := (-1)) hx hb dMo_reckon_35 (by first | rfl | decide) ?_
      refine va_iast hx hb hE.1 hP hD hS 5 0 rfl rfl (pq_ix hc hc1 (by decide) (by omega) (by assumption)) dMo_reckon_36 (fun H locs hP hD hS => ?_)
      have hP : va_P D vwCl (wM ad cI cS mq mn me mo mt mx mp mz mu vn vz vc vv vp ve mK mA mB mC (upd mf (nI i).toNatClampNeg (-1)) ml mc mL md mi mr mw) H := hP
      have hD : va_D _ (wM ad cI cS mq mn me mo mt mx mp mz mu vn vz vc vv vp ve mK mA mB mC (upd mf (nI i).toNatClampNeg (-1)) ml mc mL md mi mr mw) := hD
      refine lv_aload_n hx hb dMo_reckon_37 rfl (lv_at hl 0 rfl) ?_
      refine va_get (D := D) (ci := 5) (v := .ref (ad 23)) (C := RMo) (T := TMo) (N := 27) hx hb hw pinMo hown hE.1 hP 0 rfl rfl 7 (by decide) (hw _ wd_294) (fun _ h9 => h9) rfl dMo_reckon_38 ?_
      refine lv_iload_n hx hb dMo_reckon_41 rfl (lv_at hl 1 rfl) ?_
      refine lv_iconst (v := (-1)) hx hb dMo_reckon_42 (by first | rfl | decide) ?_
      refine va_iast hx hb hE.1 hP hD hS 6 0 rfl rfl (pq_ix hc hc1 (by decide) (by omega) (by assumption)) dMo_reckon_43 (fun H locs hP hD hS => ?_)
      have hP : va_P D vwCl (wM ad cI cS mq mn me mo mt mx mp mz mu vn vz vc vv vp ve mK mA mB mC (upd mf (nI i).toNatClampNeg (-1)) (upd ml (nI i).toNatClampNeg (-1)) mc mL md mi mr mw) H := hP
      have hD : va_D _ (wM ad cI cS mq mn me mo mt mx mp mz mu vn vz vc vv vp ve mK mA mB mC (upd mf (nI i).toNatClampNeg (-1)) (upd ml (nI i).toNatClampNeg (-1)) mc mL md mi mr mw) := hD
      refine lv_aload_n hx hb dMo_reckon_44 rfl (lv_at hl 0 rfl) ?_
      refine va_get (D := D) (ci := 5) (v := .ref (ad 18)) (C := RMo) (T := TMo) (N := 27) hx hb hw pinMo hown hE.1 hP 0 rfl rfl 2 (by decide) (hw _ wd_273) (fun _ h9 => h9) rfl dMo_reckon_45 ?_
      refine lv_iload_n hx hb dMo_reckon_48 rfl (lv_at hl 1 rfl) ?_
      refine va_iald hx hb hE.1 hP 1 0 rfl rfl (pq_ix hc hc1 (by decide) (by omega) (by assumption)) dMo_reckon_49 ?_
      refine lv_if_eq (tgt := 64) hx hb dMo_reckon_50 (by decide) (fun h2 => ?_) (fun h2 => ?_)
      · refine lv_iconst (v := 0) hx hb dMo_reckon_64 (by first | rfl | decide) ?_
        refine lv_goto (tgt := 89) hx hb dMo_reckon_65 (by decide) ?_
        refine lv_istore_n (lv' := [(2, .int 0), (0, .ref (ad 17)), (1, .int (nI i))]) hx hb dMo_reckon_89 rfl hl (by decide) rfl (fun ls hl => ?_)
        refine lv_aload_n hx hb dMo_reckon_90 rfl (lv_at hl 1 rfl) ?_
        refine va_get (D := D) (ci := 5) (v := .ref (ad 18)) (C := RMo) (T := TMo) (N := 27) hx hb hw pinMo hown hE.1 hP 0 rfl rfl 2 (by decide) (hw _ wd_273) (fun _ h9 => h9) rfl dMo_reckon_91 ?_
        refine lv_iload_n hx hb dMo_reckon_94 rfl (lv_at hl 2 rfl) ?_
        refine va_iald hx hb hE.1 hP 1 0 rfl rfl (pq_ix hc hc1 (by decide) (by omega) (by assumption)) dMo_reckon_95 ?_
        refine lv_bipush (v := 14) hx hb dMo_reckon_96 (by first | rfl | decide) ?_
        refine lv_icmp_ne (tgt := 106) hx hb dMo_reckon_98 (by decide) (fun h3 => ?_) (fun h3 => ?_)
        · refine lv_iconst (v := 0) hx hb dMo_reckon_106 (by first | rfl | decide) ?_
          refine lv_istore_n (lv' := [(3, .int 0), (2, .int 0), (0, .ref (ad 17)), (1, .int (nI i))]) hx hb dMo_reckon_107 rfl hl (by decide) rfl (fun ls hl => ?_)
          obtain ⟨g2, hg2⟩ : ∃ g9, LMo_reckon_108 (((0 : Int32)).toInt.toNat + 1) mK mB i 0 0 me mo mt mp mc md (upd ml (nI i).toNatClampNeg (-1)) (upd mf (nI i).toNatClampNeg (-1)) = g9 := ⟨_, rfl⟩
          refine qMo_reckon_108 D ad cI cS hx hb hml hw hown hE hA hR i 0 (by have := pq_lt (j := i) hc (by omega) (by omega) (by assumption); omega) (by first | decide | exact hsp _ (pq_clt (by have := pq_lt (j := i) hc (by omega) (by omega) (by assumption); omega)) (by assumption)) (((0 : Int32)).toInt.toNat + 1) 0 mq mn me mo mt mx mp mz mu vn vz vc vv vp ve mK mA mB mC (upd mf (nI i).toNatClampNeg (-1)) (upd ml (nI i).toNatClampNeg (-1)) mc mL md mi mr mw ls H locs (Nat.zero_le _) (by first | exact pq_phi_le hph (by omega) | exact pq_phi_le (pq_phi_none hpo) (by omega)) hf hlv (by omega) (lv_sub hl [2, 3, 1, 0] rfl) hP hD hS (fun ls H locs hph hf hlv hl hP hD hS => ?_)
          try rw [hg2] at hl
          try rw [hg2] at hP
          try rw [hg2] at hD
          try rw [hg2] at hph
          try rw [hg2] at hf
          try rw [hg2] at hlv
          have hP : va_P D vwCl (wM ad cI cS mq mn g2.2.1 g2.2.2.1 g2.2.2.2.1 mx g2.2.2.2.2.1 mz mu vn vz vc vv vp ve mK mA mB mC g2.2.2.2.2.2.2.2.2 g2.2.2.2.2.2.2.2.1 g2.2.2.2.2.2.1 mL g2.2.2.2.2.2.2.1 mi mr mw) H := hP
          have hD : va_D _ (wM ad cI cS mq mn g2.2.1 g2.2.2.1 g2.2.2.2.1 mx g2.2.2.2.2.1 mz mu vn vz vc vv vp ve mK mA mB mC g2.2.2.2.2.2.2.2.2 g2.2.2.2.2.2.2.2.1 g2.2.2.2.2.2.1 mL g2.2.2.2.2.2.2.1 mi mr mw) := hD
          have e1 : (1 : Int32).toInt = 1 := rfl
          have e0 : (0 : Int32).toInt = 0 := rfl
          refine lv_aload_n hx hb dMo_reckon_148 rfl (lv_at hl 0 rfl) ?_
          refine va_get (D := D) (ci := 5) (v := .ref (ad 18)) (C := RMo) (T := TMo) (N := 27) hx hb hw pinMo hown hE.1 hP 0 rfl rfl 2 (by decide) (hw _ wd_273) (fun _ h9 => h9) rfl dMo_reckon_149 ?_
          refine lv_iload_n hx hb dMo_reckon_152 rfl (lv_at hl 1 rfl) ?_
          refine va_iald hx hb hE.1 hP 1 0 rfl rfl (pq_ix hc hc1 (by decide) (by omega) (by assumption)) dMo_reckon_153 ?_
          refine lv_bipush (v := 10) hx hb dMo_reckon_154 (by first | rfl | decide) ?_
          refine lv_icmp_ne (tgt := 172) hx hb dMo_reckon_156 (by decide) (fun h4 => ?_) (fun h4 => ?_)
          · refine lv_iinc (k := 1) (v := (nI i) + 1) (lv' := [(1, .int ((nI i) + 1)), (0, .ref (ad 17)), (2, .int 0), (3, .int (nI g2.1))]) hx hb dMo_reckon_172 hl rfl (by first | rfl | decide) (by decide) rfl (fun ls hl => ?_)
            refine lv_goto (tgt := 22) hx hb dMo_reckon_175 (by decide) ?_
            have e9 : LMo_reckon_22 (n + 1) mn mK mA mB i me mo mt mp mc md ml mf = LMo_reckon_22 n mn mK mA mB (i + 1) g2.2.1 g2.2.2.1 g2.2.2.2.1 g2.2.2.2.2.1 g2.2.2.2.2.2.1 g2.2.2.2.2.2.2.1 g2.2.2.2.2.2.2.2.1 g2.2.2.2.2.2.2.2.2 := by simp only [LMo_reckon_22, hg2, if_neg h1, if_pos h2, if_neg h3, if_neg h4]
            rw [e9] at kk
            rw [nI_1] at hl
            exact ih (i + 1) mq mn g2.2.1 g2.2.2.1 g2.2.2.2.1 mx g2.2.2.2.2.1 mz mu vn vz vc vv vp ve mK mA mB mC g2.2.2.2.2.2.2.2.2 g2.2.2.2.2.2.2.2.1 g2.2.2.2.2.2.1 mL g2.2.2.2.2.2.2.1 mi mr mw ls H locs hc hc1 (by have := pq_lt (j := i) hc (by omega) (by omega) (by assumption); omega) (by first | exact pq_phi_step hph (by omega) (by omega) | exact pq_phi_new hph (by assumption) (by omega) (by omega) | exact pq_1310 (by assumption) (by assumption)) hf hlv hsp (by have := pq_lt (j := i) hc (by omega) (by omega) (by assumption); omega) (lv_sub hl [1, 0] rfl) hP hD hS kk
          · refine lv_aload_n hx hb dMo_reckon_159 rfl (lv_at hl 0 rfl) ?_
            refine va_get (D := D) (ci := 5) (v := .int g2.2.2.1) (C := RMo) (T := TMo) (N := 27) hx hb hw pinMo hown hE.1 hP 0 rfl rfl 11 (by decide) (hw _ wd_288) (fun _ h9 => h9) rfl dMo_reckon_160 ?_
            refine lv_iconst (v := (-1)) hx hb dMo_reckon_163 (by first | rfl | decide) ?_
            refine lv_icmp_ne (tgt := 172) hx hb dMo_reckon_164 (by decide) (fun h5 => ?_) (fun h5 => ?_)
            · refine lv_iinc (k := 1) (v := (nI i) + 1) (lv' := [(1, .int ((nI i) + 1)), (0, .ref (ad 17)), (2, .int 0), (3, .int (nI g2.1))]) hx hb dMo_reckon_172 hl rfl (by first | rfl | decide) (by decide) rfl (fun ls hl => ?_)
              refine lv_goto (tgt := 22) hx hb dMo_reckon_175 (by decide) ?_
              have e9 : LMo_reckon_22 (n + 1) mn mK mA mB i me mo mt mp mc md ml mf = LMo_reckon_22 n mn mK mA mB (i + 1) g2.2.1 g2.2.2.1 g2.2.2.2.1 g2.2.2.2.2.1 g2.2.2.2.2.2.1 g2.2.2.2.2.2.2.1 g2.2.2.2.2.2.2.2.1 g2.2.2.2.2.2.2.2.2 := by simp only [LMo_reckon_22, hg2, if_neg h1, if_pos h2, if_neg h3, if_pos h4, if_neg h5]
              rw [e9] at kk
              rw [nI_1] at hl
              exact ih (i + 1) mq mn g2.2.1 g2.2.2.1 g2.2.2.2.1 mx g2.2.2.2.2.1 mz mu vn vz vc vv vp ve mK mA mB mC g2.2.2.2.2.2.2.2.2 g2.2.2.2.2.2.2.2.1 g2.2.2.2.2.2.1 mL g2.2.2.2.2.2.2.1 mi mr mw ls H locs hc hc1 (by have := pq_lt (j := i) hc (by omega) (by omega) (by assumption); omega) (by first | exact pq_phi_step hph (by omega) (by omega) | exact pq_phi_new hph (by assumption) (by omega) (by omega) | exact pq_1310 (by assumption) (by assumption)) hf hlv hsp (by have := pq_lt (j := i) hc (by omega) (by omega) (by assumption); omega) (lv_sub hl [1, 0] rfl) hP hD hS kk
            · refine lv_aload_n hx hb dMo_reckon_167 rfl (lv_at hl 0 rfl) ?_
              refine lv_iload_n hx hb dMo_reckon_168 rfl (lv_at hl 1 rfl) ?_
              refine va_put (D := D) (ci := 5) (v := .int (nI i)) (ty := .int) (C := RMo) (T := TMo) (N := 27) hx hb hw pinMo tyMo tyMo_ok nmMo hown hE.1 hP hD hS 0 rfl rfl 11 (by decide) (hw _ wd_288) (fun _ h9 => h9) rfl (by decide +kernel) rfl rfl (Nat.le_of_ble_eq_true rfl) dMo_reckon_169 (fun H locs hP hD hS => ?_)
              have hP : va_P D vwCl (wM ad cI cS mq mn g2.2.1 (nI i) g2.2.2.2.1 mx g2.2.2.2.2.1 mz mu vn vz vc vv vp ve mK mA mB mC g2.2.2.2.2.2.2.2.2 g2.2.2.2.2.2.2.2.1 g2.2.2.2.2.2.1 mL g2.2.2.2.2.2.2.1 mi mr mw) H := hP
              have hD : va_D _ (wM ad cI cS mq mn g2.2.1 (nI i) g2.2.2.2.1 mx g2.2.2.2.2.1 mz mu vn vz vc vv vp ve mK mA mB mC g2.2.2.2.2.2.2.2.2 g2.2.2.2.2.2.2.2.1 g2.2.2.2.2.2.1 mL g2.2.2.2.2.2.2.1 mi mr mw) := hD
              refine lv_iinc (k := 1) (v := (nI i) + 1) (lv' := [(1, .int ((nI i) + 1)), (0, .ref (ad 17)), (2, .int 0), (3, .int (nI g2.1))]) hx hb dMo_reckon_172 hl rfl (by first | rfl | decide) (by decide) rfl (fun ls hl => ?_)
              refine lv_goto (tgt := 22) hx hb dMo_reckon_175 (by decide) ?_
              have e9 : LMo_reckon_22 (n + 1) mn mK mA mB i me mo mt mp mc md ml mf = LMo_reckon_22 n mn mK mA mB (i + 1) g2.2.1 (nI i) g2.2.2.2.1 g2.2.2.2.2.1 g2.2.2.2.2.2.1 g2.2.2.2.2.2.2.1 g2.2.2.2.2.2.2.2.1 g2.2.2.2.2.2.2.2.2 := by simp only [LMo_reckon_22, hg2, if_neg h1, if_pos h2, if_neg h3, if_pos h4, if_pos h5]
              rw [e9] at kk
              rw [nI_1] at hl
              exact ih (i + 1) mq mn g2.2.1 (nI i) g2.2.2.2.1 mx g2.2.2.2.2.1 mz mu vn vz vc vv vp ve mK mA mB mC g2.2.2.2.2.2.2.2.2 g2.2.2.2.2.2.2.2.1 g2.2.2.2.2.2.1 mL g2.2.2.2.2.2.2.1 mi mr mw ls H locs hc hc1 (by have := pq_lt (j := i) hc (by omega) (by omega) (by assumption); omega) (by first | exact pq_phi_step hph (by omega) (by omega) | exact pq_phi_new hph (by assumption) (by omega) (by omega) | exact pq_1310 (by assumption) (by assumption)) hf hlv hsp (by have := pq_lt (j := i) hc (by omega) (by omega) (by assumption); omega) (lv_sub hl [1, 0] rfl) hP hD hS kk
        · refine lv_aload_n hx hb dMo_reckon_101 rfl (lv_at hl 1 rfl) ?_
          refine lv_iload_n hx hb dMo_reckon_102 rfl (lv_at hl 2 rfl) ?_
          obtain ⟨g3, hg3⟩ : ∃ g9, FMo_pool (nI i) me mo mt mp mK mB mc md = g9 := ⟨_, rfl⟩
          have cg3 := k_Mo_pool l D ad cI cS (nI i) mq mn me mo mt mx mp mz mu vn vz vc vv vp ve mK mA mB mC (upd mf (nI i).toNatClampNeg (-1)) (upd ml (nI i).toNatClampNeg (-1)) mc mL md mi mr mw (nI_pos (by omega)) (by rw [nI_toInt (by omega)]; omega) (84 * (i : Int)) hph (by omega)
          rw [hg3] at cg3
          refine pq_callvp (wc := (wM ad cI cS mq mn me mo mt mx mp mz mu vn vz vc vv vp ve mK mA mB mC (upd mf (nI i).toNatClampNeg (-1)) (upd ml (nI i).toNatClampNeg (-1)) mc mL md mi mr mw)) (wr := ([] : List Nat).filterMap (fun i => (wM ad cI cS mq mn me mo mt mx mp mz mu vn vz vc vv vp ve mK mA mB mC (upd mf (nI i).toNatClampNeg (-1)) (upd ml (nI i).toNatClampNeg (-1)) mc mL md mi mr mw)[i]?)) hP hD hS hA [0, 1, 2, 3, 4, 5, 6, 7, 8, 9, 10, 11, 12] [] rfl rfl (by decide) (by decide) (va_runV (own := RMo) (C := RMo) (As := [.int (nI i)]) (rest := []) ⟨hx, hb, hml, hown, hw⟩ (cg3 H.size) ⟨pq_cwB 1 hw wd_296 wd_186 wd_295 rfl rfl (by decide +kernel) ⟨Nat.le_trans (by decide) hR.1, Nat.le_trans (by decide) hR.2⟩, hw _ wd_297, hw _ wd_298⟩ (pq_preV (ci := 5) (C := RMo) (T := TMo) (N := 27) hE (hP.sub [0, 1, 2, 3, 4, 5, 6, 7, 8, 9, 10, 11, 12] rfl) (hD.sub [0, 1, 2, 3, 4, 5, 6, 7, 8, 9, 10, 11, 12] (by decide) rfl) rfl 0 rfl) rfl rfl hl.1 rfl (lv_room (Nat.le_of_ble_eq_true rfl)) dMo_reckon_103 ⟨Nat.zero_le _, Nat.zero_le _⟩) (fun hq9 H locs hP hD hS => ?_)
          have hpo := hq9
          have hP : va_P D vwCl (wM ad cI cS mq mn g3.1 g3.2.1 g3.2.2.1 mx g3.2.2.2.1 mz mu vn vz vc vv vp ve mK mA mB mC (upd mf (nI i).toNatClampNeg (-1)) (upd ml (nI i).toNatClampNeg (-1)) g3.2.2.2.2.1 mL g3.2.2.2.2.2 mi mr mw) H := hP.sub [0, 1, 2, 3, 4, 5, 6, 7, 8, 9, 10, 11, 12] rfl
          have hD : va_D _ (wM ad cI cS mq mn g3.1 g3.2.1 g3.2.2.1 mx g3.2.2.2.1 mz mu vn vz vc vv vp ve mK mA mB mC (upd mf (nI i).toNatClampNeg (-1)) (upd ml (nI i).toNatClampNeg (-1)) g3.2.2.2.2.1 mL g3.2.2.2.2.2 mi mr mw) := hD.sub [0, 1, 2, 3, 4, 5, 6, 7, 8, 9, 10, 11, 12] (by decide) rfl
          refine lv_iconst (v := 0) hx hb dMo_reckon_106 (by first | rfl | decide) ?_
          refine lv_istore_n (lv' := [(3, .int 0), (2, .int 0), (0, .ref (ad 17)), (1, .int (nI i))]) hx hb dMo_reckon_107 rfl hl (by decide) rfl (fun ls hl => ?_)
          obtain ⟨g4, hg4⟩ : ∃ g9, LMo_reckon_108 (((0 : Int32)).toInt.toNat + 1) mK mB i 0 0 g3.1 g3.2.1 g3.2.2.1 g3.2.2.2.1 g3.2.2.2.2.1 g3.2.2.2.2.2 (upd ml (nI i).toNatClampNeg (-1)) (upd mf (nI i).toNatClampNeg (-1)) = g9 := ⟨_, rfl⟩
          refine qMo_reckon_108 D ad cI cS hx hb hml hw hown hE hA hR i 0 (by have := pq_lt (j := i) hc (by omega) (by omega) (by assumption); omega) (by first | decide | exact hsp _ (pq_clt (by have := pq_lt (j := i) hc (by omega) (by omega) (by assumption); omega)) (by assumption)) (((0 : Int32)).toInt.toNat + 1) 0 mq mn g3.1 g3.2.1 g3.2.2.1 mx g3.2.2.2.1 mz mu vn vz vc vv vp ve mK mA mB mC (upd mf (nI i).toNatClampNeg (-1)) (upd ml (nI i).toNatClampNeg (-1)) g3.2.2.2.2.1 mL g3.2.2.2.2.2 mi mr mw ls H locs (Nat.zero_le _) (by first | exact pq_phi_le hph (by omega) | exact pq_phi_le (pq_phi_none hpo) (by omega)) hf hlv (by omega) (lv_sub hl [2, 3, 1, 0] rfl) hP hD hS (fun ls H locs hph hf hlv hl hP hD hS => ?_)
          try rw [hg4] at hl
          try rw [hg4] at hP
          try rw [hg4] at hD
          try rw [hg4] at hph
          try rw [hg4] at hf
          try rw [hg4] at hlv
          have hP : va_P D vwCl (wM ad cI cS mq mn g4.2.1 g4.2.2.1 g4.2.2.2.1 mx g4.2.2.2.2.1 mz mu vn vz vc vv vp ve mK mA mB mC g4.2.2.2.2.2.2.2.2 g4.2.2.2.2.2.2.2.1 g4.2.2.2.2.2.1 mL g4.2.2.2.2.2.2.1 mi mr mw) H := hP
          have hD : va_D _ (wM ad cI cS mq mn g4.2.1 g4.2.2.1 g4.2.2.2.1 mx g4.2.2.2.2.1 mz mu vn vz vc vv vp ve mK mA mB mC g4.2.2.2.2.2.2.2.2 g4.2.2.2.2.2.2.2.1 g4.2.2.2.2.2.1 mL g4.2.2.2.2.2.2.1 mi mr mw) := hD
          have e1 : (1 : Int32).toInt = 1 := rfl
          have e0 : (0 : Int32).toInt = 0 := rfl
          refine lv_aload_n hx hb dMo_reckon_148 rfl (lv_at hl 0 rfl) ?_
          refine va_get (D := D) (ci := 5) (v := .ref (ad 18)) (C := RMo) (T := TMo) (N := 27) hx hb hw pinMo hown hE.1 hP 0 rfl rfl 2 (by decide) (hw _ wd_273) (fun _ h9 => h9) rfl dMo_reckon_149 ?_
          refine lv_iload_n hx hb dMo_reckon_152 rfl (lv_at hl 1 rfl) ?_
          refine va_iald hx hb hE.1 hP 1 0 rfl rfl (pq_ix hc hc1 (by decide) (by omega) (by assumption)) dMo_reckon_153 ?_
          refine lv_bipush (v := 10) hx hb dMo_reckon_154 (by first | rfl | decide) ?_
          refine lv_icmp_ne (tgt := 172) hx hb dMo_reckon_156 (by decide) (fun h6 => ?_) (fun h6 => ?_)
          · refine lv_iinc (k := 1) (v := (nI i) + 1) (lv' := [(1, .int ((nI i) + 1)), (0, .ref (ad 17)), (2, .int 0), (3, .int (nI g4.1))]) hx hb dMo_reckon_172 hl rfl (by first | rfl | decide) (by decide) rfl (fun ls hl => ?_)
            refine lv_goto (tgt := 22) hx hb dMo_reckon_175 (by decide) ?_
            have e9 : LMo_reckon_22 (n + 1) mn mK mA mB i me mo mt mp mc md ml mf = LMo_reckon_22 n mn mK mA mB (i + 1) g4.2.1 g4.2.2.1 g4.2.2.2.1 g4.2.2.2.2.1 g4.2.2.2.2.2.1 g4.2.2.2.2.2.2.1 g4.2.2.2.2.2.2.2.1 g4.2.2.2.2.2.2.2.2 := by simp only [LMo_reckon_22, hg3, hg4, if_neg h1, if_pos h2, if_pos h3, if_neg h6]
            rw [e9] at kk
            rw [nI_1] at hl
            exact ih (i + 1) mq mn g4.2.1 g4.2.2.1 g4.2.2.2.1 mx g4.2.2.2.2.1 mz mu vn vz vc vv vp ve mK mA mB mC g4.2.2.2.2.2.2.2.2 g4.2.2.2.2.2.2.2.1 g4.2.2.2.2.2.1 mL g4.2.2.2.2.2.2.1 mi mr mw ls H locs hc hc1 (by have := pq_lt (j := i) hc (by omega) (by omega) (by assumption); omega) (by first | exact pq_phi_step hph (by omega) (by omega) | exact pq_phi_new hph (by assumption) (by omega) (by omega) | exact pq_1310 (by assumption) (by assumption)) hf hlv hsp (by have := pq_lt (j := i) hc (by omega) (by omega) (by assumption); omega) (lv_sub hl [1, 0] rfl) hP hD hS kk
          · refine lv_aload_n hx hb dMo_reckon_159 rfl (lv_at hl 0 rfl) ?_
            refine va_get (D := D) (ci := 5) (v := .int g4.2.2.1) (C := RMo) (T := TMo) (N := 27) hx hb hw pinMo hown hE.1 hP 0 rfl rfl 11 (by decide) (hw _ wd_288) (fun _ h9 => h9) rfl dMo_reckon_160 ?_
            refine lv_iconst (v := (-1)) hx hb dMo_reckon_163 (by first | rfl | decide) ?_
            refine lv_icmp_ne (tgt := 172) hx hb dMo_reckon_164 (by decide) (fun h7 => ?_) (fun h7 => ?_)
            · refine lv_iinc (k := 1) (v := (nI i) + 1) (lv' := [(1, .int ((nI i) + 1)), (0, .ref (ad 17)), (2, .int 0), (3, .int (nI g4.1))]) hx hb dMo_reckon_172 hl rfl (by first | rfl | decide) (by decide) rfl (fun ls hl => ?_)
              refine lv_goto (tgt := 22) hx hb dMo_reckon_175 (by decide) ?_
              have e9 : LMo_reckon_22 (n + 1) mn mK mA mB i me mo mt mp mc md ml mf = LMo_reckon_22 n mn mK mA mB (i + 1) g4.2.1 g4.2.2.1 g4.2.2.2.1 g4.2.2.2.2.1 g4.2.2.2.2.2.1 g4.2.2.2.2.2.2.1 g4.2.2.2.2.2.2.2.1 g4.2.2.2.2.2.2.2.2 := by simp only [LMo_reckon_22, hg3, hg4, if_neg h1, if_pos h2, if_pos h3, if_pos h6, if_neg h7]
              rw [e9] at kk
              rw [nI_1] at hl
              exact ih (i + 1) mq mn g4.2.1 g4.2.2.1 g4.2.2.2.1 mx g4.2.2.2.2.1 mz mu vn vz vc vv vp ve mK mA mB mC g4.2.2.2.2.2.2.2.2 g4.2.2.2.2.2.2.2.1 g4.2.2.2.2.2.1 mL g4.2.2.2.2.2.2.1 mi mr mw ls H locs hc hc1 (by have := pq_lt (j := i) hc (by omega) (by omega) (by assumption); omega) (by first | exact pq_phi_step hph (by omega) (by omega) | exact pq_phi_new hph (by assumption) (by omega) (by omega) | exact pq_1310 (by assumption) (by assumption)) hf hlv hsp (by have := pq_lt (j := i) hc (by omega) (by omega) (by assumption); omega) (lv_sub hl [1, 0] rfl) hP hD hS kk
            · refine lv_aload_n hx hb dMo_reckon_167 rfl (lv_at hl 0 rfl) ?_
              refine lv_iload_n hx hb dMo_reckon_168 rfl (lv_at hl 1 rfl) ?_
              refine va_put (D := D) (ci := 5) (v := .int (nI i)) (ty := .int) (C := RMo) (T := TMo) (N := 27) hx hb hw pinMo tyMo tyMo_ok nmMo hown hE.1 hP hD hS 0 rfl rfl 11 (by decide) (hw _ wd_288) (fun _ h9 => h9) rfl (by decide +kernel) rfl rfl (Nat.le_of_ble_eq_true rfl) dMo_reckon_169 (fun H locs hP hD hS => ?_)
              have hP : va_P D vwCl (wM ad cI cS mq mn g4.2.1 (nI i) g4.2.2.2.1 mx g4.2.2.2.2.1 mz mu vn vz vc vv vp ve mK mA mB mC g4.2.2.2.2.2.2.2.2 g4.2.2.2.2.2.2.2.1 g4.2.2.2.2.2.1 mL g4.2.2.2.2.2.2.1 mi mr mw) H := hP
              have hD : va_D _ (wM ad cI cS mq mn g4.2.1 (nI i) g4.2.2.2.1 mx g4.2.2.2.2.1 mz mu vn vz vc vv vp ve mK mA mB mC g4.2.2.2.2.2.2.2.2 g4.2.2.2.2.2.2.2.1 g4.2.2.2.2.2.1 mL g4.2.2.2.2.2.2.1 mi mr mw) := hD
              refine lv_iinc (k := 1) (v := (nI i) + 1) (lv' := [(1, .int ((nI i) + 1)), (0, .ref (ad 17)), (2, .int 0), (3, .int (nI g4.1))]) hx hb dMo_reckon_172 hl rfl (by first | rfl | decide) (by decide) rfl (fun ls hl => ?_)
              refine lv_goto (tgt := 22) hx hb dMo_reckon_175 (by decide) ?_
              have e9 : LMo_reckon_22 (n + 1) mn mK mA mB i me mo mt mp mc md ml mf = LMo_reckon_22 n mn mK mA mB (i + 1) g4.2.1 (nI i) g4.2.2.2.1 g4.2.2.2.2.1 g4.2.2.2.2.2.1 g4.2.2.2.2.2.2.1 g4.2.2.2.2.2.2.2.1 g4.2.2.2.2.2.2.2.2 := by simp only [LMo_reckon_22, hg3, hg4, if_neg h1, if_pos h2, if_pos h3, if_pos h6, if_pos h7]
              rw [e9] at kk
              rw [nI_1] at hl
              exact ih (i + 1) mq mn g4.2.1 (nI i) g4.2.2.2.1 mx g4.2.2.2.2.1 mz mu vn vz vc vv vp ve mK mA mB mC g4.2.2.2.2.2.2.2.2 g4.2.2.2.2.2.2.2.1 g4.2.2.2.2.2.1 mL g4.2.2.2.2.2.2.1 mi mr mw ls H locs hc hc1 (by have := pq_lt (j := i) hc (by omega) (by omega) (by assumption); omega) (by first | exact pq_phi_step hph (by omega) (by omega) | exact pq_phi_new hph (by assumption) (by omega) (by omega) | exact pq_1310 (by assumption) (by assumption)) hf hlv hsp (by have := pq_lt (j := i) hc (by omega) (by omega) (by assumption); omega) (lv_sub hl [1, 0] rfl) hP hD hS kk
      · refine lv_aload_n hx hb dMo_reckon_53 rfl (lv_at hl 0 rfl) ?_
        refine va_get (D := D) (ci := 5) (v := .ref (ad 18)) (C := RMo) (T := TMo) (N := 27) hx hb hw pinMo hown hE.1 hP 0 rfl rfl 2 (by decide) (hw _ wd_273) (fun _ h9 => h9) rfl dMo_reckon_54 ?_
        refine lv_iload_n hx hb dMo_reckon_57 rfl (lv_at hl 1 rfl) ?_
        refine va_iald hx hb hE.1 hP 1 0 rfl rfl (pq_ix hc hc1 (by decide) (by omega) (by assumption)) dMo_reckon_58 ?_
        refine lv_bipush (v := 14) hx hb dMo_reckon_59 (by first | rfl | decide) ?_
        refine lv_icmp_ne (tgt := 68) hx hb dMo_reckon_61 (by decide) (fun h8 => ?_) (fun h8 => ?_)
        · refine lv_aload_n hx hb dMo_reckon_68 rfl (lv_at hl 0 rfl) ?_
          refine va_get (D := D) (ci := 5) (v := .ref (ad 18)) (C := RMo) (T := TMo) (N := 27) hx hb hw pinMo hown hE.1 hP 0 rfl rfl 2 (by decide) (hw _ wd_273) (fun _ h9 => h9) rfl dMo_reckon_69 ?_
          refine lv_iload_n hx hb dMo_reckon_72 rfl (lv_at hl 1 rfl) ?_
          refine va_iald hx hb hE.1 hP 1 0 rfl rfl (pq_ix hc hc1 (by decide) (by omega) (by assumption)) dMo_reckon_73 ?_
          refine lv_bipush (v := 13) hx hb dMo_reckon_74 (by first | rfl | decide) ?_
          refine lv_icmp_ne (tgt := 88) hx hb dMo_reckon_76 (by decide) (fun h9 => ?_) (fun h9 => ?_)
          · refine lv_iconst (v := 1) hx hb dMo_reckon_88 (by first | rfl | decide) ?_
            refine lv_istore_n (lv' := [(2, .int 1), (0, .ref (ad 17)), (1, .int (nI i))]) hx hb dMo_reckon_89 rfl hl (by decide) rfl (fun ls hl => ?_)
            refine lv_aload_n hx hb dMo_reckon_90 rfl (lv_at hl 1 rfl) ?_
            refine va_get (D := D) (ci := 5) (v := .ref (ad 18)) (C := RMo) (T := TMo) (N := 27) hx hb hw pinMo hown hE.1 hP 0 rfl rfl 2 (by decide) (hw _ wd_273) (fun _ h9 => h9) rfl dMo_reckon_91 ?_
            refine lv_iload_n hx hb dMo_reckon_94 rfl (lv_at hl 2 rfl) ?_
            refine va_iald hx hb hE.1 hP 1 0 rfl rfl (pq_ix hc hc1 (by decide) (by omega) (by assumption)) dMo_reckon_95 ?_
            refine lv_bipush (v := 14) hx hb dMo_reckon_96 (by first | rfl | decide) ?_
            refine lv_icmp_ne (tgt := 106) hx hb dMo_reckon_98 (by decide) (fun _ => ?_) (fun h9 => absurd h9 h8)
            refine lv_iconst (v := 0) hx hb dMo_reckon_106 (by first | rfl | decide) ?_
            refine lv_istore_n (lv' := [(3, .int 0), (2, .int 1), (0, .ref (ad 17)), (1, .int (nI i))]) hx hb dMo_reckon_107 rfl hl (by decide) rfl (fun ls hl => ?_)
            obtain ⟨g5, hg5⟩ : ∃ g9, LMo_reckon_108 (((1 : Int32)).toInt.toNat + 1) mK mB i 1 0 me mo mt mp mc md (upd ml (nI i).toNatClampNeg (-1)) (upd mf (nI i).toNatClampNeg (-1)) = g9 := ⟨_, rfl⟩
            refine qMo_reckon_108 D ad cI cS hx hb hml hw hown hE hA hR i 1 (by have := pq_lt (j := i) hc (by omega) (by omega) (by assumption); omega) (by first | decide | exact hsp _ (pq_clt (by have := pq_lt (j := i) hc (by omega) (by omega) (by assumption); omega)) (by assumption)) (((1 : Int32)).toInt.toNat + 1) 0 mq mn me mo mt mx mp mz mu vn vz vc vv vp ve mK mA mB mC (upd mf (nI i).toNatClampNeg (-1)) (upd ml (nI i).toNatClampNeg (-1)) mc mL md mi mr mw ls H locs (Nat.zero_le _) (by first | exact pq_phi_le hph (by omega) | exact pq_phi_le (pq_phi_none hpo) (by omega)) hf hlv (by omega) (lv_sub hl [2, 3, 1, 0] rfl) hP hD hS (fun ls H locs hph hf hlv hl hP hD hS => ?_)
            try rw [hg5] at hl
            try rw [hg5] at hP
            try rw [hg5] at hD
            try rw [hg5] at hph
            try rw [hg5] at hf
            try rw [hg5] at hlv
            have hP : va_P D vwCl (wM ad cI cS mq mn g5.2.1 g5.2.2.1 g5.2.2.2.1 mx g5.2.2.2.2.1 mz mu vn vz vc vv vp ve mK mA mB mC g5.2.2.2.2.2.2.2.2 g5.2.2.2.2.2.2.2.1 g5.2.2.2.2.2.1 mL g5.2.2.2.2.2.2.1 mi mr mw) H := hP
            have hD : va_D _ (wM ad cI cS mq mn g5.2.1 g5.2.2.1 g5.2.2.2.1 mx g5.2.2.2.2.1 mz mu vn vz vc vv vp ve mK mA mB mC g5.2.2.2.2.2.2.2.2 g5.2.2.2.2.2.2.2.1 g5.2.2.2.2.2.1 mL g5.2.2.2.2.2.2.1 mi mr mw) := hD
            have e1 : (1 : Int32).toInt = 1 := rfl
            have e0 : (0 : Int32).toInt = 0 := rfl
            refine lv_aload_n hx hb dMo_reckon_148 rfl (lv_at hl 0 rfl) ?_
            refine va_get (D := D) (ci := 5) (v := .ref (ad 18)) (C := RMo) (T := TMo) (N := 27) hx hb hw pinMo hown hE.1 hP 0 rfl rfl 2 (by decide) (hw _ wd_273) (fun _ h9 => h9) rfl dMo_reckon_149 ?_
            refine lv_iload_n hx hb dMo_reckon_152 rfl (lv_at hl 1 rfl) ?_
            refine va_iald hx hb hE.1 hP 1 0 rfl rfl (pq_ix hc hc1 (by decide) (by omega) (by assumption)) dMo_reckon_153 ?_
            refine lv_bipush (v := 10) hx hb dMo_reckon_154 (by first | rfl | decide) ?_
            refine lv_icmp_ne (tgt := 172) hx hb dMo_reckon_156 (by decide) (fun h11 => ?_) (fun h11 => ?_)
            · refine lv_iinc (k := 1) (v := (nI i) + 1) (lv' := [(1, .int ((nI i) + 1)), (0, .ref (ad 17)), (2, .int 1), (3, .int (nI g5.1))]) hx hb dMo_reckon_172 hl rfl (by first | rfl | decide) (by decide) rfl (fun ls hl => ?_)
              refine lv_goto (tgt := 22) hx hb dMo_reckon_175 (by decide) ?_
              have e9 : LMo_reckon_22 (n + 1) mn mK mA mB i me mo mt mp mc md ml mf = LMo_reckon_22 n mn mK mA mB (i + 1) g5.2.1 g5.2.2.1 g5.2.2.2.1 g5.2.2.2.2.1 g5.2.2.2.2.2.1 g5.2.2.2.2.2.2.1 g5.2.2.2.2.2.2.2.1 g5.2.2.2.2.2.2.2.2 := by simp only [LMo_reckon_22, hg5, if_neg h1, if_neg h2, if_neg h8, if_neg h9, if_neg h11]
              rw [e9] at kk
              rw [nI_1] at hl
              exact ih (i + 1) mq mn g5.2.1 g5.2.2.1 g5.2.2.2.1 mx g5.2.2.2.2.1 mz mu vn vz vc vv vp ve mK mA mB mC g5.2.2.2.2.2.2.2.2 g5.2.2.2.2.2.2.2.1 g5.2.2.2.2.2.1 mL g5.2.2.2.2.2.2.1 mi mr mw ls H locs hc hc1 (by have := pq_lt (j := i) hc (by omega) (by omega) (by assumption); omega) (by first | exact pq_phi_step hph (by omega) (by omega) | exact pq_phi_new hph (by assumption) (by omega) (by omega) | exact pq_1310 (by assumption) (by assumption)) hf hlv hsp (by have := pq_lt (j := i) hc (by omega) (by omega) (by assumption); omega) (lv_sub hl [1, 0] rfl) hP hD hS kk
            · refine lv_aload_n hx hb dMo_reckon_159 rfl (lv_at hl 0 rfl) ?_
              refine va_get (D := D) (ci := 5) (v := .int g5.2.2.1) (C := RMo) (T := TMo) (N := 27) hx hb hw pinMo hown hE.1 hP 0 rfl rfl 11 (by decide) (hw _ wd_288) (fun _ h9 => h9) rfl dMo_reckon_160 ?_
              refine lv_iconst (v := (-1)) hx hb dMo_reckon_163 (by first | rfl | decide) ?_
              refine lv_icmp_ne (tgt := 172) hx hb dMo_reckon_164 (by decide) (fun h12 => ?_) (fun h12 => ?_)
              · refine lv_iinc (k := 1) (v := (nI i) + 1) (lv' := [(1, .int ((nI i) + 1)), (0, .ref (ad 17)), (2, .int 1), (3, .int (nI g5.1))]) hx hb dMo_reckon_172 hl rfl (by first | rfl | decide) (by decide) rfl (fun ls hl => ?_)
                refine lv_goto (tgt := 22) hx hb dMo_reckon_175 (by decide) ?_
                have e9 : LMo_reckon_22 (n + 1) mn mK mA mB i me mo mt mp mc md ml mf = LMo_reckon_22 n mn mK mA mB (i + 1) g5.2.1 g5.2.2.1 g5.2.2.2.1 g5.2.2.2.2.1 g5.2.2.2.2.2.1 g5.2.2.2.2.2.2.1 g5.2.2.2.2.2.2.2.1 g5.2.2.2.2.2.2.2.2 := by simp only [LMo_reckon_22, hg5, if_neg h1, if_neg h2, if_neg h8, if_neg h9, if_pos h11, if_neg h12]
                rw [e9] at kk
                rw [nI_1] at hl
                exact ih (i + 1) mq mn g5.2.1 g5.2.2.1 g5.2.2.2.1 mx g5.2.2.2.2.1 mz mu vn vz vc vv vp ve mK mA mB mC g5.2.2.2.2.2.2.2.2 g5.2.2.2.2.2.2.2.1 g5.2.2.2.2.2.1 mL g5.2.2.2.2.2.2.1 mi mr mw ls H locs hc hc1 (by have := pq_lt (j := i) hc (by omega) (by omega) (by assumption); omega) (by first | exact pq_phi_step hph (by omega) (by omega) | exact pq_phi_new hph (by assumption) (by omega) (by omega) | exact pq_1310 (by assumption) (by assumption)) hf hlv hsp (by have := pq_lt (j := i) hc (by omega) (by omega) (by assumption); omega) (lv_sub hl [1, 0] rfl) hP hD hS kk
              · refine lv_aload_n hx hb dMo_reckon_167 rfl (lv_at hl 0 rfl) ?_
                refine lv_iload_n hx hb dMo_reckon_168 rfl (lv_at hl 1 rfl) ?_
                refine va_put (D := D) (ci := 5) (v := .int (nI i)) (ty := .int) (C := RMo) (T := TMo) (N := 27) hx hb hw pinMo tyMo tyMo_ok nmMo hown hE.1 hP hD hS 0 rfl rfl 11 (by decide) (hw _ wd_288) (fun _ h9 => h9) rfl (by decide +kernel) rfl rfl (Nat.le_of_ble_eq_true rfl) dMo_reckon_169 (fun H locs hP hD hS => ?_)
                have hP : va_P D vwCl (wM ad cI cS mq mn g5.2.1 (nI i) g5.2.2.2.1 mx g5.2.2.2.2.1 mz mu vn vz vc vv vp ve mK mA mB mC g5.2.2.2.2.2.2.2.2 g5.2.2.2.2.2.2.2.1 g5.2.2.2.2.2.1 mL g5.2.2.2.2.2.2.1 mi mr mw) H := hP
                have hD : va_D _ (wM ad cI cS mq mn g5.2.1 (nI i) g5.2.2.2.1 mx g5.2.2.2.2.1 mz mu vn vz vc vv vp ve mK mA mB mC g5.2.2.2.2.2.2.2.2 g5.2.2.2.2.2.2.2.1 g5.2.2.2.2.2.1 mL g5.2.2.2.2.2.2.1 mi mr mw) := hD
                refine lv_iinc (k := 1) (v := (nI i) + 1) (lv' := [(1, .int ((nI i) + 1)), (0, .ref (ad 17)), (2, .int 1), (3, .int (nI g5.1))]) hx hb dMo_reckon_172 hl rfl (by first | rfl | decide) (by decide) rfl (fun ls hl => ?_)
                refine lv_goto (tgt := 22) hx hb dMo_reckon_175 (by decide) ?_
                have e9 : LMo_reckon_22 (n + 1) mn mK mA mB i me mo mt mp mc md ml mf = LMo_reckon_22 n mn mK mA mB (i + 1) g5.2.1 (nI i) g5.2.2.2.1 g5.2.2.2.2.1 g5.2.2.2.2.2.1 g5.2.2.2.2.2.2.1 g5.2.2.2.2.2.2.2.1 g5.2.2.2.2.2.2.2.2 := by simp only [LMo_reckon_22, hg5, if_neg h1, if_neg h2, if_neg h8, if_neg h9, if_pos h11, if_pos h12]
                rw [e9] at kk
                rw [nI_1] at hl
                exact ih (i + 1) mq mn g5.2.1 (nI i) g5.2.2.2.1 mx g5.2.2.2.2.1 mz mu vn vz vc vv vp ve mK mA mB mC g5.2.2.2.2.2.2.2.2 g5.2.2.2.2.2.2.2.1 g5.2.2.2.2.2.1 mL g5.2.2.2.2.2.2.1 mi mr mw ls H locs hc hc1 (by have := pq_lt (j := i) hc (by omega) (by omega) (by assumption); omega) (by first | exact pq_phi_step hph (by omega) (by omega) | exact pq_phi_new hph (by assumption) (by omega) (by omega) | exact pq_1310 (by assumption) (by assumption)) hf hlv hsp (by have := pq_lt (j := i) hc (by omega) (by omega) (by assumption); omega) (lv_sub hl [1, 0] rfl) hP hD hS kk
          · refine lv_aload_n hx hb dMo_reckon_79 rfl (lv_at hl 0 rfl) ?_
            refine va_get (D := D) (ci := 5) (v := .ref (ad 19)) (C := RMo) (T := TMo) (N := 27) hx hb hw pinMo hown hE.1 hP 0 rfl rfl 3 (by decide) (hw _ wd_274) (fun _ h9 => h9) rfl dMo_reckon_80 ?_
            refine lv_iload_n hx hb dMo_reckon_83 rfl (lv_at hl 1 rfl) ?_
            refine va_iald hx hb hE.1 hP 2 0 rfl rfl (pq_ix hc hc1 (by decide) (by omega) (by assumption)) dMo_reckon_84 ?_
            refine lv_goto (tgt := 89) hx hb dMo_reckon_85 (by decide) ?_
            refine lv_istore_n (lv' := [(2, .int (mA (nI i).toNatClampNeg)), (0, .ref (ad 17)), (1, .int (nI i))]) hx hb dMo_reckon_89 rfl hl (by decide) rfl (fun ls hl => ?_)
            refine lv_aload_n hx hb dMo_reckon_90 rfl (lv_at hl 1 rfl) ?_
            refine va_get (D := D) (ci := 5) (v := .ref (ad 18)) (C := RMo) (T := TMo) (N := 27) hx hb hw pinMo hown hE.1 hP 0 rfl rfl 2 (by decide) (hw _ wd_273) (fun _ h9 => h9) rfl dMo_reckon_91 ?_
            refine lv_iload_n hx hb dMo_reckon_94 rfl (lv_at hl 2 rfl) ?_
            refine va_iald hx hb hE.1 hP 1 0 rfl rfl (pq_ix hc hc1 (by decide) (by omega) (by assumption)) dMo_reckon_95 ?_
            refine lv_bipush (v := 14) hx hb dMo_reckon_96 (by first | rfl | decide) ?_
            refine lv_icmp_ne (tgt := 106) hx hb dMo_reckon_98 (by decide) (fun _ => ?_) (fun h9 => absurd h9 h8)
            refine lv_iconst (v := 0) hx hb dMo_reckon_106 (by first | rfl | decide) ?_
            refine lv_istore_n (lv' := [(3, .int 0), (2, .int (mA (nI i).toNatClampNeg)), (0, .ref (ad 17)), (1, .int (nI i))]) hx hb dMo_reckon_107 rfl hl (by decide) rfl (fun ls hl => ?_)
            obtain ⟨g6, hg6⟩ : ∃ g9, LMo_reckon_108 ((mA (nI i).toNatClampNeg).toInt.toNat + 1) mK mB i (mA (nI i).toNatClampNeg) 0 me mo mt mp mc md (upd ml (nI i).toNatClampNeg (-1)) (upd mf (nI i).toNatClampNeg (-1)) = g9 := ⟨_, rfl⟩
            refine qMo_reckon_108 D ad cI cS hx hb hml hw hown hE hA hR i (mA (nI i).toNatClampNeg) (by have := pq_lt (j := i) hc (by omega) (by omega) (by assumption); omega) (by first | decide | exact hsp _ (pq_clt (by have := pq_lt (j := i) hc (by omega) (by omega) (by assumption); omega)) (by assumption)) ((mA (nI i).toNatClampNeg).toInt.toNat + 1) 0 mq mn me mo mt mx mp mz mu vn vz vc vv vp ve mK mA mB mC (upd mf (nI i).toNatClampNeg (-1)) (upd ml (nI i).toNatClampNeg (-1)) mc mL md mi mr mw ls H locs (Nat.zero_le _) (by first | exact pq_phi_le hph (by omega) | exact pq_phi_le (pq_phi_none hpo) (by omega)) hf hlv (by omega) (lv_sub hl [2, 3, 1, 0] rfl) hP hD hS (fun ls H locs hph hf hlv hl hP hD hS => ?_)
            try rw [hg6] at hl
            try rw [hg6] at hP
            try rw [hg6] at hD
            try rw [hg6] at hph
            try rw [hg6] at hf
            try rw [hg6] at hlv
            have hP : va_P D vwCl (wM ad cI cS mq mn g6.2.1 g6.2.2.1 g6.2.2.2.1 mx g6.2.2.2.2.1 mz mu vn vz vc vv vp ve mK mA mB mC g6.2.2.2.2.2.2.2.2 g6.2.2.2.2.2.2.2.1 g6.2.2.2.2.2.1 mL g6.2.2.2.2.2.2.1 mi mr mw) H := hP
            have hD : va_D _ (wM ad cI cS mq mn g6.2.1 g6.2.2.1 g6.2.2.2.1 mx g6.2.2.2.2.1 mz mu vn vz vc vv vp ve mK mA mB mC g6.2.2.2.2.2.2.2.2 g6.2.2.2.2.2.2.2.1 g6.2.2.2.2.2.1 mL g6.2.2.2.2.2.2.1 mi mr mw) := hD
            have e1 : (1 : Int32).toInt = 1 := rfl
            have e0 : (0 : Int32).toInt = 0 := rfl
            have hw9 : (mA (nI i).toNatClampNeg).toInt ≤ 40 := hsp _ (pq_clt (by have := pq_lt (j := i) hc (by omega) (by omega) (by assumption); omega)) (by assumption)
            refine lv_aload_n hx hb dMo_reckon_148 rfl (lv_at hl 0 rfl) ?_
            refine va_get (D := D) (ci := 5) (v := .ref (ad 18)) (C := RMo) (T := TMo) (N := 27) hx hb hw pinMo hown hE.1 hP 0 rfl rfl 2 (by decide) (hw _ wd_273) (fun _ h9 => h9) rfl dMo_reckon_149 ?_
            refine lv_iload_n hx hb dMo_reckon_152 rfl (lv_at hl 1 rfl) ?_
            refine va_iald hx hb hE.1 hP 1 0 rfl rfl (pq_ix hc hc1 (by decide) (by omega) (by assumption)) dMo_reckon_153 ?_
            refine lv_bipush (v := 10) hx hb dMo_reckon_154 (by first | rfl | decide) ?_
            refine lv_icmp_ne (tgt := 172) hx hb dMo_reckon_156 (by decide) (fun h14 => ?_) (fun h14 => ?_)
            · refine lv_iinc (k := 1) (v := (nI i) + 1) (lv' := [(1, .int ((nI i) + 1)), (0, .ref (ad 17)), (2, .int (mA (nI i).toNatClampNeg)), (3, .int (nI g6.1))]) hx hb dMo_reckon_172 hl rfl (by first | rfl | decide) (by decide) rfl (fun ls hl => ?_)
              refine lv_goto (tgt := 22) hx hb dMo_reckon_175 (by decide) ?_
              have e9 : LMo_reckon_22 (n + 1) mn mK mA mB i me mo mt mp mc md ml mf = LMo_reckon_22 n mn mK mA mB (i + 1) g6.2.1 g6.2.2.1 g6.2.2.2.1 g6.2.2.2.2.1 g6.2.2.2.2.2.1 g6.2.2.2.2.2.2.1 g6.2.2.2.2.2.2.2.1 g6.2.2.2.2.2.2.2.2 := by simp only [LMo_reckon_22, hg6, if_neg h1, if_neg h2, if_neg h8, if_pos h9, if_neg h14]
              rw [e9] at kk
              rw [nI_1] at hl
              exact ih (i + 1) mq mn g6.2.1 g6.2.2.1 g6.2.2.2.1 mx g6.2.2.2.2.1 mz mu vn vz vc vv vp ve mK mA mB mC g6.2.2.2.2.2.2.2.2 g6.2.2.2.2.2.2.2.1 g6.2.2.2.2.2.1 mL g6.2.2.2.2.2.2.1 mi mr mw ls H locs hc hc1 (by have := pq_lt (j := i) hc (by omega) (by omega) (by assumption); omega) (by first | exact pq_phi_step hph (by omega) (by omega) | exact pq_phi_new hph (by assumption) (by omega) (by omega) | exact pq_1310 (by assumption) (by assumption)) hf hlv hsp (by have := pq_lt (j := i) hc (by omega) (by omega) (by assumption); omega) (lv_sub hl [1, 0] rfl) hP hD hS kk
            · refine lv_aload_n hx hb dMo_reckon_159 rfl (lv_at hl 0 rfl) ?_
              refine va_get (D := D) (ci := 5) (v := .int g6.2.2.1) (C := RMo) (T := TMo) (N := 27) hx hb hw pinMo hown hE.1 hP 0 rfl rfl 11 (by decide) (hw _ wd_288) (fun _ h9 => h9) rfl dMo_reckon_160 ?_
              refine lv_iconst (v := (-1)) hx hb dMo_reckon_163 (by first | rfl | decide) ?_
              refine lv_icmp_ne (tgt := 172) hx hb dMo_reckon_164 (by decide) (fun h15 => ?_) (fun h15 => ?_)
              · refine lv_iinc (k := 1) (v := (nI i) + 1) (lv' := [(1, .int ((nI i) + 1)), (0, .ref (ad 17)), (2, .int (mA (nI i).toNatClampNeg)), (3, .int (nI g6.1))]) hx hb dMo_reckon_172 hl rfl (by first | rfl | decide) (by decide) rfl (fun ls hl => ?_)
                refine lv_goto (tgt := 22) hx hb dMo_reckon_175 (by decide) ?_
                have e9 : LMo_reckon_22 (n + 1) mn mK mA mB i me mo mt mp mc md ml mf = LMo_reckon_22 n mn mK mA mB (i + 1) g6.2.1 g6.2.2.1 g6.2.2.2.1 g6.2.2.2.2.1 g6.2.2.2.2.2.1 g6.2.2.2.2.2.2.1 g6.2.2.2.2.2.2.2.1 g6.2.2.2.2.2.2.2.2 := by simp only [LMo_reckon_22, hg6, if_neg h1, if_neg h2, if_neg h8, if_pos h9, if_pos h14, if_neg h15]
                rw [e9] at kk
                rw [nI_1] at hl
                exact ih (i + 1) mq mn g6.2.1 g6.2.2.1 g6.2.2.2.1 mx g6.2.2.2.2.1 mz mu vn vz vc vv vp ve mK mA mB mC g6.2.2.2.2.2.2.2.2 g6.2.2.2.2.2.2.2.1 g6.2.2.2.2.2.1 mL g6.2.2.2.2.2.2.1 mi mr mw ls H locs hc hc1 (by have := pq_lt (j := i) hc (by omega) (by omega) (by assumption); omega) (by first | exact pq_phi_step hph (by omega) (by omega) | exact pq_phi_new hph (by assumption) (by omega) (by omega) | exact pq_1310 (by assumption) (by assumption)) hf hlv hsp (by have := pq_lt (j := i) hc (by omega) (by omega) (by assumption); omega) (lv_sub hl [1, 0] rfl) hP hD hS kk
              · refine lv_aload_n hx hb dMo_reckon_167 rfl (lv_at hl 0 rfl) ?_
                refine lv_iload_n hx hb dMo_reckon_168 rfl (lv_at hl 1 rfl) ?_
                refine va_put (D := D) (ci := 5) (v := .int (nI i)) (ty := .int) (C := RMo) (T := TMo) (N := 27) hx hb hw pinMo tyMo tyMo_ok nmMo hown hE.1 hP hD hS 0 rfl rfl 11 (by decide) (hw _ wd_288) (fun _ h9 => h9) rfl (by decide +kernel) rfl rfl (Nat.le_of_ble_eq_true rfl) dMo_reckon_169 (fun H locs hP hD hS => ?_)
                have hP : va_P D vwCl (wM ad cI cS mq mn g6.2.1 (nI i) g6.2.2.2.1 mx g6.2.2.2.2.1 mz mu vn vz vc vv vp ve mK mA mB mC g6.2.2.2.2.2.2.2.2 g6.2.2.2.2.2.2.2.1 g6.2.2.2.2.2.1 mL g6.2.2.2.2.2.2.1 mi mr mw) H := hP
                have hD : va_D _ (wM ad cI cS mq mn g6.2.1 (nI i) g6.2.2.2.1 mx g6.2.2.2.2.1 mz mu vn vz vc vv vp ve mK mA mB mC g6.2.2.2.2.2.2.2.2 g6.2.2.2.2.2.2.2.1 g6.2.2.2.2.2.1 mL g6.2.2.2.2.2.2.1 mi mr mw) := hD
                refine lv_iinc (k := 1) (v := (nI i) + 1) (lv' := [(1, .int ((nI i) + 1)), (0, .ref (ad 17)), (2, .int (mA (nI i).toNatClampNeg)), (3, .int (nI g6.1))]) hx hb dMo_reckon_172 hl rfl (by first | rfl | decide) (by decide) rfl (fun ls hl => ?_)
                refine lv_goto (tgt := 22) hx hb dMo_reckon_175 (by decide) ?_
                have e9 : LMo_reckon_22 (n + 1) mn mK mA mB i me mo mt mp mc md ml mf = LMo_reckon_22 n mn mK mA mB (i + 1) g6.2.1 (nI i) g6.2.2.2.1 g6.2.2.2.2.1 g6.2.2.2.2.2.1 g6.2.2.2.2.2.2.1 g6.2.2.2.2.2.2.2.1 g6.2.2.2.2.2.2.2.2 := by simp only [LMo_reckon_22, hg6, if_neg h1, if_neg h2, if_neg h8, if_pos h9, if_pos h14, if_pos h15]
                rw [e9] at kk
                rw [nI_1] at hl
                exact ih (i + 1) mq mn g6.2.1 (nI i) g6.2.2.2.1 mx g6.2.2.2.2.1 mz mu vn vz vc vv vp ve mK mA mB mC g6.2.2.2.2.2.2.2.2 g6.2.2.2.2.2.2.2.1 g6.2.2.2.2.2.1 mL g6.2.2.2.2.2.2.1 mi mr mw ls H locs hc hc1 (by have := pq_lt (j := i) hc (by omega) (by omega) (by assumption); omega) (by first | exact pq_phi_step hph (by omega) (by omega) | exact pq_phi_new hph (by assumption) (by omega) (by omega) | exact pq_1310 (by assumption) (by assumption)) hf hlv hsp (by have := pq_lt (j := i) hc (by omega) (by omega) (by assumption); omega) (lv_sub hl [1, 0] rfl) hP hD hS kk
        · refine lv_iconst (v := 0) hx hb dMo_reckon_64 (by first | rfl | decide) ?_
          refine lv_goto (tgt := 89) hx hb dMo_reckon_65 (by decide) ?_
          refine lv_istore_n (lv' := [(2, .int 0), (0, .ref (ad 17)), (1, .int (nI i))]) hx hb dMo_reckon_89 rfl hl (by decide) rfl (fun ls hl => ?_)
          refine lv_aload_n hx hb dMo_reckon_90 rfl (lv_at hl 1 rfl) ?_
          refine va_get (D := D) (ci := 5) (v := .ref (ad 18)) (C := RMo) (T := TMo) (N := 27) hx hb hw pinMo hown hE.1 hP 0 rfl rfl 2 (by decide) (hw _ wd_273) (fun _ h9 => h9) rfl dMo_reckon_91 ?_
          refine lv_iload_n hx hb dMo_reckon_94 rfl (lv_at hl 2 rfl) ?_
          refine va_iald hx hb hE.1 hP 1 0 rfl rfl (pq_ix hc hc1 (by decide) (by omega) (by assumption)) dMo_reckon_95 ?_
          refine lv_bipush (v := 14) hx hb dMo_reckon_96 (by first | rfl | decide) ?_
          refine lv_icmp_ne (tgt := 106) hx hb dMo_reckon_98 (by decide) (fun h9 => absurd h8 h9) (fun _ => ?_)
          refine lv_aload_n hx hb dMo_reckon_101 rfl (lv_at hl 1 rfl) ?_
          refine lv_iload_n hx hb dMo_reckon_102 rfl (lv_at hl 2 rfl) ?_
          obtain ⟨g7, hg7⟩ : ∃ g9, FMo_pool (nI i) me mo mt mp mK mB mc md = g9 := ⟨_, rfl⟩
          have cg7 := k_Mo_pool l D ad cI cS (nI i) mq mn me mo mt mx mp mz mu vn vz vc vv vp ve mK mA mB mC (upd mf (nI i).toNatClampNeg (-1)) (upd ml (nI i).toNatClampNeg (-1)) mc mL md mi mr mw (nI_pos (by omega)) (by rw [nI_toInt (by omega)]; omega) (84 * (i : Int)) hph (by omega)
          rw [hg7] at cg7
          refine pq_callvp (wc := (wM ad cI cS mq mn me mo mt mx mp mz mu vn vz vc vv vp ve mK mA mB mC (upd mf (nI i).toNatClampNeg (-1)) (upd ml (nI i).toNatClampNeg (-1)) mc mL md mi mr mw)) (wr := ([] : List Nat).filterMap (fun i => (wM ad cI cS mq mn me mo mt mx mp mz mu vn vz vc vv vp ve mK mA mB mC (upd mf (nI i).toNatClampNeg (-1)) (upd ml (nI i).toNatClampNeg (-1)) mc mL md mi mr mw)[i]?)) hP hD hS hA [0, 1, 2, 3, 4, 5, 6, 7, 8, 9, 10, 11, 12] [] rfl rfl (by decide) (by decide) (va_runV (own := RMo) (C := RMo) (As := [.int (nI i)]) (rest := []) ⟨hx, hb, hml, hown, hw⟩ (cg7 H.size) ⟨pq_cwB 1 hw wd_296 wd_186 wd_295 rfl rfl (by decide +kernel) ⟨Nat.le_trans (by decide) hR.1, Nat.le_trans (by decide) hR.2⟩, hw _ wd_297, hw _ wd_298⟩ (pq_preV (ci := 5) (C := RMo) (T := TMo) (N := 27) hE (hP.sub [0, 1, 2, 3, 4, 5, 6, 7, 8, 9, 10, 11, 12] rfl) (hD.sub [0, 1, 2, 3, 4, 5, 6, 7, 8, 9, 10, 11, 12] (by decide) rfl) rfl 0 rfl) rfl rfl hl.1 rfl (lv_room (Nat.le_of_ble_eq_true rfl)) dMo_reckon_103 ⟨Nat.zero_le _, Nat.zero_le _⟩) (fun hq9 H locs hP hD hS => ?_)
          have hpo := hq9
          have hP : va_P D vwCl (wM ad cI cS mq mn g7.1 g7.2.1 g7.2.2.1 mx g7.2.2.2.1 mz mu vn vz vc vv vp ve mK mA mB mC (upd mf (nI i).toNatClampNeg (-1)) (upd ml (nI i).toNatClampNeg (-1)) g7.2.2.2.2.1 mL g7.2.2.2.2.2 mi mr mw) H := hP.sub [0, 1, 2, 3, 4, 5, 6, 7, 8, 9, 10, 11, 12] rfl
          have hD : va_D _ (wM ad cI cS mq mn g7.1 g7.2.1 g7.2.2.1 mx g7.2.2.2.1 mz mu vn vz vc vv vp ve mK mA mB mC (upd mf (nI i).toNatClampNeg (-1)) (upd ml (nI i).toNatClampNeg (-1)) g7.2.2.2.2.1 mL g7.2.2.2.2.2 mi mr mw) := hD.sub [0, 1, 2, 3, 4, 5, 6, 7, 8, 9, 10, 11, 12] (by decide) rfl
          refine lv_iconst (v := 0) hx hb dMo_reckon_106 (by first | rfl | decide) ?_
          refine lv_istore_n (lv' := [(3, .int 0), (2, .int 0), (0, .ref (ad 17)), (1, .int (nI i))]) hx hb dMo_reckon_107 rfl hl (by decide) rfl (fun ls hl => ?_)
          obtain ⟨g8, hg8⟩ : ∃ g9, LMo_reckon_108 (((0 : Int32)).toInt.toNat + 1) mK mB i 0 0 g7.1 g7.2.1 g7.2.2.1 g7.2.2.2.1 g7.2.2.2.2.1 g7.2.2.2.2.2 (upd ml (nI i).toNatClampNeg (-1)) (upd mf (nI i).toNatClampNeg (-1)) = g9 := ⟨_, rfl⟩
          refine qMo_reckon_108 D ad cI cS hx hb hml hw hown hE hA hR i 0 (by have := pq_lt (j := i) hc (by omega) (by omega) (by assumption); omega) (by first | decide | exact hsp _ (pq_clt (by have := pq_lt (j := i) hc (by omega) (by omega) (by assumption); omega)) (by assumption)) (((0 : Int32)).toInt.toNat + 1) 0 mq mn g7.1 g7.2.1 g7.2.2.1 mx g7.2.2.2.1 mz mu vn vz vc vv vp ve mK mA mB mC (upd mf (nI i).toNatClampNeg (-1)) (upd ml (nI i).toNatClampNeg (-1)) g7.2.2.2.2.1 mL g7.2.2.2.2.2 mi mr mw ls H locs (Nat.zero_le _) (by first | exact pq_phi_le hph (by omega) | exact pq_phi_le (pq_phi_none hpo) (by omega)) hf hlv (by omega) (lv_sub hl [2, 3, 1, 0] rfl) hP hD hS (fun ls H locs hph hf hlv hl hP hD hS => ?_)
          try rw [hg8] at hl
          try rw [hg8] at hP
          try rw [hg8] at hD
          try rw [hg8] at hph
          try rw [hg8] at hf
          try rw [hg8] at hlv
          have hP : va_P D vwCl (wM ad cI cS mq mn g8.2.1 g8.2.2.1 g8.2.2.2.1 mx g8.2.2.2.2.1 mz mu vn vz vc vv vp ve mK mA mB mC g8.2.2.2.2.2.2.2.2 g8.2.2.2.2.2.2.2.1 g8.2.2.2.2.2.1 mL g8.2.2.2.2.2.2.1 mi mr mw) H := hP
          have hD : va_D _ (wM ad cI cS mq mn g8.2.1 g8.2.2.1 g8.2.2.2.1 mx g8.2.2.2.2.1 mz mu vn vz vc vv vp ve mK mA mB mC g8.2.2.2.2.2.2.2.2 g8.2.2.2.2.2.2.2.1 g8.2.2.2.2.2.1 mL g8.2.2.2.2.2.2.1 mi mr mw) := hD
          have e1 : (1 : Int32).toInt = 1 := rfl
          have e0 : (0 : Int32).toInt = 0 := rfl
          refine lv_aload_n hx hb dMo_reckon_148 rfl (lv_at hl 0 rfl) ?_
          refine va_get (D := D) (ci := 5) (v := .ref (ad 18)) (C := RMo) (T := TMo) (N := 27) hx hb hw pinMo hown hE.1 hP 0 rfl rfl 2 (by decide) (hw _ wd_273) (fun _ h9 => h9) rfl dMo_reckon_149 ?_
          refine lv_iload_n hx hb dMo_reckon_152 rfl (lv_at hl 1 rfl) ?_
          refine va_iald hx hb hE.1 hP 1 0 rfl rfl (pq_ix hc hc1 (by decide) (by omega) (by assumption)) dMo_reckon_153 ?_
          refine lv_bipush (v := 10) hx hb dMo_reckon_154 (by first | rfl | decide) ?_
          refine lv_icmp_ne (tgt := 172) hx hb dMo_reckon_156 (by decide) (fun h17 => ?_) (fun h17 => ?_)
          · refine lv_iinc (k := 1) (v := (nI i) + 1) (lv' := [(1, .int ((nI i) + 1)), (0, .ref (ad 17)), (2, .int 0), (3, .int (nI g8.1))]) hx hb dMo_reckon_172 hl rfl (by first | rfl | decide) (by decide) rfl (fun ls hl => ?_)
            refine lv_goto (tgt := 22) hx hb dMo_reckon_175 (by decide) ?_
            have e9 : LMo_reckon_22 (n + 1) mn mK mA mB i me mo mt mp mc md ml mf = LMo_reckon_22 n mn mK mA mB (i + 1) g8.2.1 g8.2.2.1 g8.2.2.2.1 g8.2.2.2.2.1 g8.2.2.2.2.2.1 g8.2.2.2.2.2.2.1 g8.2.2.2.2.2.2.2.1 g8.2.2.2.2.2.2.2.2 := by simp only [LMo_reckon_22, hg7, hg8, if_neg h1, if_neg h2, if_pos h8, if_neg h17]
            rw [e9] at kk
            rw [nI_1] at hl
            exact ih (i + 1) mq mn g8.2.1 g8.2.2.1 g8.2.2.2.1 mx g8.2.2.2.2.1 mz mu vn vz vc vv vp ve mK mA mB mC g8.2.2.2.2.2.2.2.2 g8.2.2.2.2.2.2.2.1 g8.2.2.2.2.2.1 mL g8.2.2.2.2.2.2.1 mi mr mw ls H locs hc hc1 (by have := pq_lt (j := i) hc (by omega) (by omega) (by assumption); omega) (by first | exact pq_phi_step hph (by omega) (by omega) | exact pq_phi_new hph (by assumption) (by omega) (by omega) | exact pq_1310 (by assumption) (by assumption)) hf hlv hsp (by have := pq_lt (j := i) hc (by omega) (by omega) (by assumption); omega) (lv_sub hl [1, 0] rfl) hP hD hS kk
          · refine lv_aload_n hx hb dMo_reckon_159 rfl (lv_at hl 0 rfl) ?_
            refine va_get (D := D) (ci := 5) (v := .int g8.2.2.1) (C := RMo) (T := TMo) (N := 27) hx hb hw pinMo hown hE.1 hP 0 rfl rfl 11 (by decide) (hw _ wd_288) (fun _ h9 => h9) rfl dMo_reckon_160 ?_
            refine lv_iconst (v := (-1)) hx hb dMo_reckon_163 (by first | rfl | decide) ?_
            refine lv_icmp_ne (tgt := 172) hx hb dMo_reckon_164 (by decide) (fun h18 => ?_) (fun h18 => ?_)
            · refine lv_iinc (k := 1) (v := (nI i) + 1) (lv' := [(1, .int ((nI i) + 1)), (0, .ref (ad 17)), (2, .int 0), (3, .int (nI g8.1))]) hx hb dMo_reckon_172 hl rfl (by first | rfl | decide) (by decide) rfl (fun ls hl => ?_)
              refine lv_goto (tgt := 22) hx hb dMo_reckon_175 (by decide) ?_
              have e9 : LMo_reckon_22 (n + 1) mn mK mA mB i me mo mt mp mc md ml mf = LMo_reckon_22 n mn mK mA mB (i + 1) g8.2.1 g8.2.2.1 g8.2.2.2.1 g8.2.2.2.2.1 g8.2.2.2.2.2.1 g8.2.2.2.2.2.2.1 g8.2.2.2.2.2.2.2.1 g8.2.2.2.2.2.2.2.2 := by simp only [LMo_reckon_22, hg7, hg8, if_neg h1, if_neg h2, if_pos h8, if_pos h17, if_neg h18]
              rw [e9] at kk
              rw [nI_1] at hl
              exact ih (i + 1) mq mn g8.2.1 g8.2.2.1 g8.2.2.2.1 mx g8.2.2.2.2.1 mz mu vn vz vc vv vp ve mK mA mB mC g8.2.2.2.2.2.2.2.2 g8.2.2.2.2.2.2.2.1 g8.2.2.2.2.2.1 mL g8.2.2.2.2.2.2.1 mi mr mw ls H locs hc hc1 (by have := pq_lt (j := i) hc (by omega) (by omega) (by assumption); omega) (by first | exact pq_phi_step hph (by omega) (by omega) | exact pq_phi_new hph (by assumption) (by omega) (by omega) | exact pq_1310 (by assumption) (by assumption)) hf hlv hsp (by have := pq_lt (j := i) hc (by omega) (by omega) (by assumption); omega) (lv_sub hl [1, 0] rfl) hP hD hS kk
            · refine lv_aload_n hx hb dMo_reckon_167 rfl (lv_at hl 0 rfl) ?_
              refine lv_iload_n hx hb dMo_reckon_168 rfl (lv_at hl 1 rfl) ?_
              refine va_put (D := D) (ci := 5) (v := .int (nI i)) (ty := .int) (C := RMo) (T := TMo) (N := 27) hx hb hw pinMo tyMo tyMo_ok nmMo hown hE.1 hP hD hS 0 rfl rfl 11 (by decide) (hw _ wd_288) (fun _ h9 => h9) rfl (by decide +kernel) rfl rfl (Nat.le_of_ble_eq_true rfl) dMo_reckon_169 (fun H locs hP hD hS => ?_)
              have hP : va_P D vwCl (wM ad cI cS mq mn g8.2.1 (nI i) g8.2.2.2.1 mx g8.2.2.2.2.1 mz mu vn vz vc vv vp ve mK mA mB mC g8.2.2.2.2.2.2.2.2 g8.2.2.2.2.2.2.2.1 g8.2.2.2.2.2.1 mL g8.2.2.2.2.2.2.1 mi mr mw) H := hP
              have hD : va_D _ (wM ad cI cS mq mn g8.2.1 (nI i) g8.2.2.2.1 mx g8.2.2.2.2.1 mz mu vn vz vc vv vp ve mK mA mB mC g8.2.2.2.2.2.2.2.2 g8.2.2.2.2.2.2.2.1 g8.2.2.2.2.2.1 mL g8.2.2.2.2.2.2.1 mi mr mw) := hD
              refine lv_iinc (k := 1) (v := (nI i) + 1) (lv' := [(1, .int ((nI i) + 1)), (0, .ref (ad 17)), (2, .int 0), (3, .int (nI g8.1))]) hx hb dMo_reckon_172 hl rfl (by first | rfl | decide) (by decide) rfl (fun ls hl => ?_)
              refine lv_goto (tgt := 22) hx hb dMo_reckon_175 (by decide) ?_
              have e9 : LMo_reckon_22 (n + 1) mn mK mA mB i me mo mt mp mc md ml mf = LMo_reckon_22 n mn mK mA mB (i + 1) g8.2.1 (nI i) g8.2.2.2.1 g8.2.2.2.2.1 g8.2.2.2.2.2.1 g8.2.2.2.2.2.2.1 g8.2.2.2.2.2.2.2.1 g8.2.2.2.2.2.2.2.2 := by simp only [LMo_reckon_22, hg7, hg8, if_neg h1, if_neg h2, if_pos h8, if_pos h17, if_pos h18]
              rw [e9] at kk
              rw [nI_1] at hl
              exact ih (i + 1) mq mn g8.2.1 (nI i) g8.2.2.2.1 mx g8.2.2.2.2.1 mz mu vn vz vc vv vp ve mK mA mB mC g8.2.2.2.2.2.2.2.2 g8.2.2.2.2.2.2.2.1 g8.2.2.2.2.2.1 mL g8.2.2.2.2.2.2.1 mi mr mw ls H locs hc hc1 (by have := pq_lt (j := i) hc (by omega) (by omega) (by assumption); omega) (by first | exact pq_phi_step hph (by omega) (by omega) | exact pq_phi_new hph (by assumption) (by omega) (by omega) | exact pq_1310 (by assumption) (by assumption)) hf hlv hsp (by have := pq_lt (j := i) hc (by omega) (by omega) (by assumption); omega) (lv_sub hl [1, 0] rfl) hP hD hS kk
def FMo_reckon (mn : Int32) (mK : Nat → Int32) (mA : Nat → Int32) (mB : Nat → Int32) (mf : Nat → Int32) (ml : Nat → Int32) (mc : Nat → Int32) (md : Nat → Int32) : Int32 × Int32 × Int32 × Int32 × (Nat → Int32) × (Nat → Int32) × (Nat → Int32) × (Nat → Int32) := ((FMo_pool mn (LMo_reckon_22 (mn.toInt.toNat + 1) mn mK mA mB 0 0 (-1) (-1) 0 mc md ml mf).2.1 (LMo_reckon_22 (mn.toInt.toNat + 1) mn mK mA mB 0 0 (-1) (-1) 0 mc md ml mf).2.2.1 (LMo_reckon_22 (mn.toInt.toNat + 1) mn mK mA mB 0 0 (-1) (-1) 0 mc md ml mf).2.2.2.1 (LMo_reckon_22 (mn.toInt.toNat + 1) mn mK mA mB 0 0 (-1) (-1) 0 mc md ml mf).2.2.2.2.1 mK mB (LMo_reckon_22 (mn.toInt.toNat + 1) mn mK mA mB 0 0 (-1) (-1) 0 mc md ml mf).2.2.2.2.2.1 (LMo_reckon_22 (mn.toInt.toNat + 1) mn mK mA mB 0 0 (-1) (-1) 0 mc md ml mf).2.2.2.2.2.2.1).1, (FMo_pool mn (LMo_reckon_22 (mn.toInt.toNat + 1) mn mK mA mB 0 0 (-1) (-1) 0 mc md ml mf).2.1 (LMo_reckon_22 (mn.toInt.toNat + 1) mn mK mA mB 0 0 (-1) (-1) 0 mc md ml mf).2.2.1 (LMo_reckon_22 (mn.toInt.toNat + 1) mn mK mA mB 0 0 (-1) (-1) 0 mc md ml mf).2.2.2.1 (LMo_reckon_22 (mn.toInt.toNat + 1) mn mK mA mB 0 0 (-1) (-1) 0 mc md ml mf).2.2.2.2.1 mK mB (LMo_reckon_22 (mn.toInt.toNat + 1) mn mK mA mB 0 0 (-1) (-1) 0 mc md ml mf).2.2.2.2.2.1 (LMo_reckon_22 (mn.toInt.toNat + 1) mn mK mA mB 0 0 (-1) (-1) 0 mc md ml mf).2.2.2.2.2.2.1).2.1, (FMo_pool mn (LMo_reckon_22 (mn.toInt.toNat + 1) mn mK mA mB 0 0 (-1) (-1) 0 mc md ml mf).2.1 (LMo_reckon_22 (mn.toInt.toNat + 1) mn mK mA mB 0 0 (-1) (-1) 0 mc md ml mf).2.2.1 (LMo_reckon_22 (mn.toInt.toNat + 1) mn mK mA mB 0 0 (-1) (-1) 0 mc md ml mf).2.2.2.1 (LMo_reckon_22 (mn.toInt.toNat + 1) mn mK mA mB 0 0 (-1) (-1) 0 mc md ml mf).2.2.2.2.1 mK mB (LMo_reckon_22 (mn.toInt.toNat + 1) mn mK mA mB 0 0 (-1) (-1) 0 mc md ml mf).2.2.2.2.2.1 (LMo_reckon_22 (mn.toInt.toNat + 1) mn mK mA mB 0 0 (-1) (-1) 0 mc md ml mf).2.2.2.2.2.2.1).2.2.1, (FMo_pool mn (LMo_reckon_22 (mn.toInt.toNat + 1) mn mK mA mB 0 0 (-1) (-1) 0 mc md ml mf).2.1 (LMo_reckon_22 (mn.toInt.toNat + 1) mn mK mA mB 0 0 (-1) (-1) 0 mc md ml mf).2.2.1 (LMo_reckon_22 (mn.toInt.toNat + 1) mn mK mA mB 0 0 (-1) (-1) 0 mc md ml mf).2.2.2.1 (LMo_reckon_22 (mn.toInt.toNat + 1) mn mK mA mB 0 0 (-1) (-1) 0 mc md ml mf).2.2.2.2.1 mK mB (LMo_reckon_22 (mn.toInt.toNat + 1) mn mK mA mB 0 0 (-1) (-1) 0 mc md ml mf).2.2.2.2.2.1 (LMo_reckon_22 (mn.toInt.toNat + 1) mn mK mA mB 0 0 (-1) (-1) 0 mc md ml mf).2.2.2.2.2.2.1).2.2.2.1, (FMo_pool mn (LMo_reckon_22 (mn.toInt.toNat + 1) mn mK mA mB 0 0 (-1) (-1) 0 mc md ml mf).2.1 (LMo_reckon_22 (mn.toInt.toNat + 1) mn mK mA mB 0 0 (-1) (-1) 0 mc md ml mf).2.2.1 (LMo_reckon_22 (mn.toInt.toNat + 1) mn mK mA mB 0 0 (-1) (-1) 0 mc md ml mf).2.2.2.1 (LMo_reckon_22 (mn.toInt.toNat + 1) mn mK mA mB 0 0 (-1) (-1) 0 mc md ml mf).2.2.2.2.1 mK mB (LMo_reckon_22 (mn.toInt.toNat + 1) mn mK mA mB 0 0 (-1) (-1) 0 mc md ml mf).2.2.2.2.2.1 (LMo_reckon_22 (mn.toInt.toNat + 1) mn mK mA mB 0 0 (-1) (-1) 0 mc md ml mf).2.2.2.2.2.2.1).2.2.2.2.1, (FMo_pool mn (LMo_reckon_22 (mn.toInt.toNat + 1) mn mK mA mB 0 0 (-1) (-1) 0 mc md ml mf).2.1 (LMo_reckon_22 (mn.toInt.toNat + 1) mn mK mA mB 0 0 (-1) (-1) 0 mc md ml mf).2.2.1 (LMo_reckon_22 (mn.toInt.toNat + 1) mn mK mA mB 0 0 (-1) (-1) 0 mc md ml mf).2.2.2.1 (LMo_reckon_22 (mn.toInt.toNat + 1) mn mK mA mB 0 0 (-1) (-1) 0 mc md ml mf).2.2.2.2.1 mK mB (LMo_reckon_22 (mn.toInt.toNat + 1) mn mK mA mB 0 0 (-1) (-1) 0 mc md ml mf).2.2.2.2.2.1 (LMo_reckon_22 (mn.toInt.toNat + 1) mn mK mA mB 0 0 (-1) (-1) 0 mc md ml mf).2.2.2.2.2.2.1).2.2.2.2.2, (LMo_reckon_22 (mn.toInt.toNat + 1) mn mK mA mB 0 0 (-1) (-1) 0 mc md ml mf).2.2.2.2.2.2.2.1, (LMo_reckon_22 (mn.toInt.toNat + 1) mn mK mA mB 0 0 (-1) (-1) 0 mc md ml mf).2.2.2.2.2.2.2.2)
set_option maxHeartbeats 4000000 in
set_option maxRecDepth 100000 in
theorem k_Mo_reckon (l : Launch) (D : va_G) (ad : Nat → Nat) (cI cS : ClassId) (mq : Int32) (mn : Int32) (me : Int32) (mo : Int32) (mt : Int32) (mx : Int32) (mp : Int32) (mz : Int32) (mu : Int32) (vn : Int32) (vz : Int32) (vc : Int32) (vv : Int32) (vp : Int32) (ve : Int32) (mK : Nat → Int32) (mA : Nat → Int32) (mB : Nat → Int32) (mC : Nat → Int32) (mf : Nat → Int32) (ml : Nat → Int32) (mc : Nat → Int32) (mL : Nat → Int32) (md : Nat → Int32) (mi : Nat → Int32) (mr : Nat → Int32) (mw : Nat → Int32) (hmn0 : ¬ mn < 0) (hmn1 : mn.toInt ≤ 160) (hf : ∀ y9 : Nat, vp_in (mf y9 / 2) 7200) (hlv : ∀ y9 : Nat, vp_in (ml y9 / 2) 7200) (hsp : ∀ y9 : Nat, y9 < 160 → mK y9 = 13 → (mA y9).toInt ≤ 40) : pq_VP l yMo_reckon (.code yMo_reckon cMo_reckon 4 none :: pq_ws) { frames := 3, cells := 0, slots := 0, locals := 72 } D cI cS [.ref (ad 17)] (wM ad cI cS mq mn me mo mt mx mp mz mu vn vz vc vv vp ve mK mA mB mC mf ml mc mL md mi mr mw) ((¬ ((FMo_reckon mn mK mA mB mf ml mc md).1) < 0 ∧ ((FMo_reckon mn mK mA mB mf ml mc md).1).toInt ≤ 13440) ∧ (∀ y9 : Nat, vp_in (((FMo_reckon mn mK mA mB mf ml mc md).2.2.2.2.2.2.2) y9 / 2) 7200) ∧ (∀ y9 : Nat, vp_in (((FMo_reckon mn mK mA mB mf ml mc md).2.2.2.2.2.2.1) y9 / 2) 7200)) (wM ad cI cS mq mn ((FMo_reckon mn mK mA mB mf ml mc md).1) ((FMo_reckon mn mK mA mB mf ml mc md).2.1) ((FMo_reckon mn mK mA mB mf ml mc md).2.2.1) mx ((FMo_reckon mn mK mA mB mf ml mc md).2.2.2.1) mz mu vn vz vc vv vp ve mK mA mB mC ((FMo_reckon mn mK mA mB mf ml mc md).2.2.2.2.2.2.2) ((FMo_reckon mn mK mA mB mf ml mc md).2.2.2.2.2.2.1) ((FMo_reckon mn mK mA mB mf ml mc md).2.2.2.2.1) mL ((FMo_reckon mn mK mA mB mf ml mc md).2.2.2.2.2.1) mi mr mw) := by
  intro sz
  refine Met.ofW (cc := cMo_reckon) (maxL := 4) (ret := none) (by decide) rfl ?_
  intro p e s m args below meth c s₁ B hml hv
  obtain ⟨rfl, hsz, hP, hD0, hE⟩ := hv
  have hx := B.exec
  have hb := B.bytes
  have hr := B.returns
  have hts := atoms_spec (ws := (.code yMo_reckon cMo_reckon 4 none :: pq_ws : List Cond)) B.pre
  have hw : ∀ w ∈ pq_ws, w.before _ s = true := fun w h => hts w (List.mem_cons_of_mem _ h)
  have hown : s.vm.findClass RMo = some m.cls := findClass_of_methodNamed B.named
  have hlocks := B.notSynchronized
  subst hsz
  have hD := hD0.self (sz := s.heap.size)
  have hA : ∀ q : Nat, s.heap.size ≤ q → va_A (wM ad cI cS mq mn me mo mt mx mp mz mu vn vz vc vv vp ve mK mA mB mC mf ml mc mL md mi mr mw) s.heap.size q := fun q h => Or.inr h
  have hS : va_S (va_A (wM ad cI cS mq mn me mo mt mx mp mz mu vn vz vc vv vp ve mK mA mB mC mf ml mc mL md mi mr mw) s.heap.size) s.heap s.heap [] := va_S.rf
  have hl := lv_entry ([.ref (ad 17)] : List Value) (n := 4) (Nat.le_of_ble_eq_true rfl)
  rw [lg_entry_eq]
  generalize (lg_sl ([.ref (ad 17)] : List Value) ++ List.replicate (4 - (lg_sl ([.ref (ad 17)] : List Value)).length) Slot.unset).toArray = ls at hl ⊢
  have hl : lv_has ls 4 [(0, .ref (ad 17))] := hl
  refine lv_aload_n hx hb dMo_reckon_0 rfl (lv_at hl 0 rfl) ?_
  refine lv_iconst (v := 0) hx hb dMo_reckon_1 (by first | rfl | decide) ?_
  refine va_put (D := D) (ci := 5) (v := .int 0) (ty := .int) (C := RMo) (T := TMo) (N := 27) hx hb hw pinMo tyMo tyMo_ok nmMo hown hE.1 hP hD hS 0 rfl rfl 10 (by decide) (hw _ wd_278) (fun _ h9 => h9) rfl (by decide +kernel) rfl rfl (Nat.le_of_ble_eq_true rfl) dMo_reckon_2 (fun H locs hP hD hS => ?_)
  have hP : va_P D vwCl (wM ad cI cS mq mn 0 mo mt mx mp mz mu vn vz vc vv vp ve mK mA mB mC mf ml mc mL md mi mr mw) H := hP
  have hD : va_D _ (wM ad cI cS mq mn 0 mo mt mx mp mz mu vn vz vc vv vp ve mK mA mB mC mf ml mc mL md mi mr mw) := hD
  refine lv_aload_n hx hb dMo_reckon_5 rfl (lv_at hl 0 rfl) ?_
  refine lv_iconst (v := (-1)) hx hb dMo_reckon_6 (by first | rfl | decide) ?_
  refine va_put (D := D) (ci := 5) (v := .int (-1)) (ty := .int) (C := RMo) (T := TMo) (N := 27) hx hb hw pinMo tyMo tyMo_ok nmMo hown hE.1 hP hD hS 0 rfl rfl 11 (by decide) (hw _ wd_288) (fun _ h9 => h9) rfl (by decide +kernel) rfl rfl (Nat.le_of_ble_eq_true rfl) dMo_reckon_7 (fun H locs hP hD hS => ?_)
  have hP : va_P D vwCl (wM ad cI cS mq mn 0 (-1) mt mx mp mz mu vn vz vc vv vp ve mK mA mB mC mf ml mc mL md mi mr mw) H := hP
  have hD : va_D _ (wM ad cI cS mq mn 0 (-1) mt mx mp mz mu vn vz vc vv vp ve mK mA mB mC mf ml mc mL md mi mr mw) := hD
  refine lv_aload_n hx hb dMo_reckon_10 rfl (lv_at hl 0 rfl) ?_
  refine lv_iconst (v := (-1)) hx hb dMo_reckon_11 (by first | rfl | decide) ?_
  refine va_put (D := D) (ci := 5) (v := .int (-1)) (ty := .int) (C := RMo) (T := TMo) (N := 27) hx hb hw pinMo tyMo tyMo_ok nmMo hown hE.1 hP hD hS 0 rfl rfl 12 (by decide) (hw _ wd_289) (fun _ h9 => h9) rfl (by decide +kernel) rfl rfl (Nat.le_of_ble_eq_true rfl) dMo_reckon_12 (fun H locs hP hD hS => ?_)
  have hP : va_P D vwCl (wM ad cI cS mq mn 0 (-1) (-1) mx mp mz mu vn vz vc vv vp ve mK mA mB mC mf ml mc mL md mi mr mw) H := hP
  have hD : va_D _ (wM ad cI cS mq mn 0 (-1) (-1) mx mp mz mu vn vz vc vv vp ve mK mA mB mC mf ml mc mL md mi mr mw) := hD
  refine lv_aload_n hx hb dMo_reckon_15 rfl (lv_at hl 0 rfl) ?_
  refine lv_iconst (v := 0) hx hb dMo_reckon_16 (by first | rfl | decide) ?_
  refine va_put (D := D) (ci := 5) (v := .int 0) (ty := .int) (C := RMo) (T := TMo) (N := 27) hx hb hw pinMo tyMo tyMo_ok nmMo hown hE.1 hP hD hS 0 rfl rfl 14 (by decide) (hw _ wd_293) (fun _ h9 => h9) rfl (by decide +kernel) rfl rfl (Nat.le_of_ble_eq_true rfl) dMo_reckon_17 (fun H locs hP hD hS => ?_)
  have hP : va_P D vwCl (wM ad cI cS mq mn 0 (-1) (-1) mx 0 mz mu vn vz vc vv vp ve mK mA mB mC mf ml mc mL md mi mr mw) H := hP
  have hD : va_D _ (wM ad cI cS mq mn 0 (-1) (-1) mx 0 mz mu vn vz vc vv vp ve mK mA mB mC mf ml mc mL md mi mr mw) := hD
  refine lv_iconst (v := 0) hx hb dMo_reckon_20 (by first | rfl | decide) ?_
  refine lv_istore_n (lv' := [(1, .int 0), (0, .ref (ad 17))]) hx hb dMo_reckon_21 rfl hl (by decide) rfl (fun ls hl => ?_)
  obtain ⟨g9, hg9⟩ : ∃ g9, LMo_reckon_22 (mn.toInt.toNat + 1) mn mK mA mB 0 0 (-1) (-1) 0 mc md ml mf = g9 := ⟨_, rfl⟩
  refine qMo_reckon_22 D ad cI cS hx hb hml hw hown hE hA ⟨Nat.le_of_ble_eq_true rfl, Nat.le_of_ble_eq_true rfl⟩ mn.toInt.toNat (mn.toInt.toNat + 1) 0 mq mn 0 (-1) (-1) mx 0 mz mu vn vz vc vv vp ve mK mA mB mC mf ml mc mL md mi mr mw ls H locs (pq_nat hmn0) (pq_nat_le hmn1) (Nat.zero_le _) (⟨by decide, Or.inl ⟨rfl, by decide⟩⟩) hf hlv hsp (by omega) (lv_sub hl [1, 0] rfl) hP hD hS (fun ls H locs hph hf hlv hl hP hD hS => ?_)
  try rw [hg9] at hl
  try rw [hg9] at hP
  try rw [hg9] at hD
  try rw [hg9] at hph
  try rw [hg9] at hf
  try rw [hg9] at hlv
  have hP : va_P D vwCl (wM ad cI cS mq mn g9.2.1 g9.2.2.1 g9.2.2.2.1 mx g9.2.2.2.2.1 mz mu vn vz vc vv vp ve mK mA mB mC g9.2.2.2.2.2.2.2.2 g9.2.2.2.2.2.2.2.1 g9.2.2.2.2.2.1 mL g9.2.2.2.2.2.2.1 mi mr mw) H := hP
  have hD : va_D _ (wM ad cI cS mq mn g9.2.1 g9.2.2.1 g9.2.2.2.1 mx g9.2.2.2.2.1 mz mu vn vz vc vv vp ve mK mA mB mC g9.2.2.2.2.2.2.2.2 g9.2.2.2.2.2.2.2.1 g9.2.2.2.2.2.1 mL g9.2.2.2.2.2.2.1 mi mr mw) := hD
  refine lv_aload_n hx hb dMo_reckon_178 rfl (lv_at hl 0 rfl) ?_
  refine lv_aload_n hx hb dMo_reckon_179 rfl (lv_at hl 0 rfl) ?_
  refine va_get (D := D) (ci := 5) (v := .int mn) (C := RMo) (T := TMo) (N := 27) hx hb hw pinMo hown hE.1 hP 0 rfl rfl 1 (by decide) (hw _ wd_265) (fun _ h9 => h9) rfl dMo_reckon_180 ?_
  obtain ⟨g10, hg10⟩ : ∃ zz9, FMo_pool mn g9.2.1 g9.2.2.1 g9.2.2.2.1 g9.2.2.2.2.1 mK mB g9.2.2.2.2.2.1 g9.2.2.2.2.2.2.1 = zz9 := ⟨_, rfl⟩
  have cg10 := k_Mo_pool l D ad cI cS mn mq mn g9.2.1 g9.2.2.1 g9.2.2.2.1 mx g9.2.2.2.2.1 mz mu vn vz vc vv vp ve mK mA mB mC g9.2.2.2.2.2.2.2.2 g9.2.2.2.2.2.2.2.1 g9.2.2.2.2.2.1 mL g9.2.2.2.2.2.2.1 mi mr mw hmn0 hmn1 (84 * (mn.toInt.toNat : Int)) hph (by omega)
  rw [hg10] at cg10
  refine pq_callvp (wc := (wM ad cI cS mq mn g9.2.1 g9.2.2.1 g9.2.2.2.1 mx g9.2.2.2.2.1 mz mu vn vz vc vv vp ve mK mA mB mC g9.2.2.2.2.2.2.2.2 g9.2.2.2.2.2.2.2.1 g9.2.2.2.2.2.1 mL g9.2.2.2.2.2.2.1 mi mr mw)) (wr := ([] : List Nat).filterMap (fun i => (wM ad cI cS mq mn g9.2.1 g9.2.2.1 g9.2.2.2.1 mx g9.2.2.2.2.1 mz mu vn vz vc vv vp ve mK mA mB mC g9.2.2.2.2.2.2.2.2 g9.2.2.2.2.2.2.2.1 g9.2.2.2.2.2.1 mL g9.2.2.2.2.2.2.1 mi mr mw)[i]?)) hP hD hS hA [0, 1, 2, 3, 4, 5, 6, 7, 8, 9, 10, 11, 12] [] rfl rfl (by decide) (by decide) (va_runV (own := RMo) (C := RMo) (As := [.int mn]) (rest := []) ⟨hx, hb, hml, hown, hw⟩ (cg10 H.size) ⟨pq_cwB 1 hw wd_296 wd_186 wd_295 rfl rfl (by decide +kernel) ⟨Nat.le_of_ble_eq_true rfl, Nat.le_of_ble_eq_true rfl⟩, hw _ wd_297, hw _ wd_298⟩ (pq_preV (ci := 5) (C := RMo) (T := TMo) (N := 27) hE (hP.sub [0, 1, 2, 3, 4, 5, 6, 7, 8, 9, 10, 11, 12] rfl) (hD.sub [0, 1, 2, 3, 4, 5, 6, 7, 8, 9, 10, 11, 12] (by decide) rfl) rfl 0 rfl) rfl rfl hl.1 rfl (lv_room (Nat.le_of_ble_eq_true rfl)) dMo_reckon_183 ⟨Nat.zero_le _, Nat.zero_le _⟩) (fun hq9 H locs hP hD hS => ?_)
  have hpo := hq9
  have hP : va_P D vwCl (wM ad cI cS mq mn g10.1 g10.2.1 g10.2.2.1 mx g10.2.2.2.1 mz mu vn vz vc vv vp ve mK mA mB mC g9.2.2.2.2.2.2.2.2 g9.2.2.2.2.2.2.2.1 g10.2.2.2.2.1 mL g10.2.2.2.2.2 mi mr mw) H := hP.sub [0, 1, 2, 3, 4, 5, 6, 7, 8, 9, 10, 11, 12] rfl
  have hD : va_D _ (wM ad cI cS mq mn g10.1 g10.2.1 g10.2.2.1 mx g10.2.2.2.1 mz mu vn vz vc vv vp ve mK mA mB mC g9.2.2.2.2.2.2.2.2 g9.2.2.2.2.2.2.2.1 g10.2.2.2.2.1 mL g10.2.2.2.2.2 mi mr mw) := hD.sub [0, 1, 2, 3, 4, 5, 6, 7, 8, 9, 10, 11, 12] (by decide) rfl
  have e9 : FMo_reckon mn mK mA mB mf ml mc md = (g10.1, g10.2.1, g10.2.2.1, g10.2.2.2.1, g10.2.2.2.2.1, g10.2.2.2.2.2, g9.2.2.2.2.2.2.2.1, g9.2.2.2.2.2.2.2.2) := by simp only [FMo_reckon, hg9, hg10]
  have p9 : (¬ g10.1 < 0 ∧ g10.1.toInt ≤ 13440) ∧ (∀ y9 : Nat, vp_in (g9.2.2.2.2.2.2.2.2 y9 / 2) 7200) ∧ (∀ y9 : Nat, vp_in (g9.2.2.2.2.2.2.2.1 y9 / 2) 7200) := ⟨⟨hpo.2.1, by omega⟩, by assumption, by assumption⟩
  exact W.vret hx hb hr (fun t ht hW => ⟨⟨(), rfl, by rw [e9]; exact p9, by rw [e9, ht]; exact hP, by rw [e9]; exact hD⟩, hS.F ht⟩) hS.2.2 dMo_reckon_186
def FMo_halfOf (xk : Int32) (mn : Int32) (me : Int32) (mK : Nat → Int32) (mA : Nat → Int32) (mB : Nat → Int32) (mC : Nat → Int32) (mf : Nat → Int32) (mc : Nat → Int32) (mL : Nat → Int32) : Int32 := if (mK xk.toNatClampNeg) = 1 then ((8192 + (2048 * ((mK xk.toNatClampNeg) - 1))) + (256 * (mA xk.toNatClampNeg))) + (mB xk.toNatClampNeg) else if (mK xk.toNatClampNeg) = 2 then ((8192 + (2048 * ((mK xk.toNatClampNeg) - 1))) + (256 * (mA xk.toNatClampNeg))) + (mB xk.toNatClampNeg) else if (mK xk.toNatClampNeg) = 3 then ((8192 + (2048 * ((mK xk.toNatClampNeg) - 1))) + (256 * (mA xk.toNatClampNeg))) + (mB xk.toNatClampNeg) else if (mK xk.toNatClampNeg) = 4 then ((8192 + (2048 * ((mK xk.toNatClampNeg) - 1))) + (256 * (mA xk.toNatClampNeg))) + (mB xk.toNatClampNeg) else if (mK xk.toNatClampNeg) = 5 then ((6144 + (64 * (mC xk.toNatClampNeg))) + (8 * (mB xk.toNatClampNeg))) + (mA xk.toNatClampNeg) else if (mK xk.toNatClampNeg) = 6 then ((6656 + (64 * (mC xk.toNatClampNeg))) + (8 * (mB xk.toNatClampNeg))) + (mA xk.toNatClampNeg) else if (mK xk.toNatClampNeg) = 7 then ((16384 + (64 * (mC xk.toNatClampNeg))) + (8 * (mB xk.toNatClampNeg))) + (mA xk.toNatClampNeg) else if (mK xk.toNatClampNeg) = 8 then ((24576 + (64 * (mC xk.toNatClampNeg))) + (8 * (mB xk.toNatClampNeg))) + (mA xk.toNatClampNeg) else if (mK xk.toNatClampNeg) = 9 then ((26624 + (64 * (mC xk.toNatClampNeg))) + (8 * (mB xk.toNatClampNeg))) + (mA xk.toNatClampNeg) else if (mK xk.toNatClampNeg) = 10 then if (FMo_outside ((mc xk.toNatClampNeg) - (FMo_base (mf xk.toNatClampNeg))) 0 1023) = 0 then (18432 + (256 * (mA xk.toNatClampNeg))) + (((mc xk.toNatClampNeg) - (FMo_base (mf xk.toNatClampNeg))) / 4) else (-1) else if (mK xk.toNatClampNeg) = 11 then if (mL (mA xk.toNatClampNeg).toNatClampNeg) = (-1) then (-1) else if (FMo_outside (((FMo_address (mA xk.toNatClampNeg) mn me mf mL) - (mf xk.toNatClampNeg)) - 4) (-2048) 2046) = 0 then 57344 + ((((((FMo_address (mA xk.toNatClampNeg) mn me mf mL) - (mf xk.toNatClampNeg)) - 4) / 2) + 2048) - (((((FMo_address (mA xk.toNatClampNeg) mn me mf mL) - (mf xk.toNatClampNeg)) - 4) / 2) + 2048) / 2048 * 2048) else (-1) else if (mK xk.toNatClampNeg) = 12 then if (mL (mA xk.toNatClampNeg).toNatClampNeg) = (-1) then (-1) else if (FMo_outside (((FMo_address (mA xk.toNatClampNeg) mn me mf mL) - (mf xk.toNatClampNeg)) - 4) (-256) 254) = 0 then (53248 + (256 * (mC xk.toNatClampNeg))) + ((((((FMo_address (mA xk.toNatClampNeg) mn me mf mL) - (mf xk.toNatClampNeg)) - 4) / 2) + 256) - (((((FMo_address (mA xk.toNatClampNeg) mn me mf mL) - (mf xk.toNatClampNeg)) - 4) / 2) + 256) / 256 * 256) else (-1) else if (mK xk.toNatClampNeg) = 13 then if (mL (mA xk.toNatClampNeg).toNatClampNeg) = (-1) then (-1) else if (FMo_outside (((FMo_address (mA xk.toNatClampNeg) mn me mf mL) - (mf xk.toNatClampNeg)) - 4) (-256) 254) = 0 then (53248 + (256 * (mC xk.toNatClampNeg))) + ((((((FMo_address (mA xk.toNatClampNeg) mn me mf mL) - (mf xk.toNatClampNeg)) - 4) / 2) + 256) - (((((FMo_address (mA xk.toNatClampNeg) mn me mf mL) - (mf xk.toNatClampNeg)) - 4) / 2) + 256) / 256 * 256) else (-1) else if (mK xk.toNatClampNeg) = 14 then if (mL (mA xk.toNatClampNeg).toNatClampNeg) = (-1) then (-1) else if (FMo_outside (((FMo_address (mA xk.toNatClampNeg) mn me mf mL) - (mf xk.toNatClampNeg)) - 4) (-256) 254) = 0 then (53248 + (256 * (mC xk.toNatClampNeg))) + ((((((FMo_address (mA xk.toNatClampNeg) mn me mf mL) - (mf xk.toNatClampNeg)) - 4) / 2) + 256) - (((((FMo_address (mA xk.toNatClampNeg) mn me mf mL) - (mf xk.toNatClampNeg)) - 4) / 2) + 256) / 256 * 256) else (-1) else if (mK xk.toNatClampNeg) = 15 then 48640 else if (mL (mA xk.toNatClampNeg).toNatClampNeg) = (-1) then (-1) else if (FMo_outside (((FMo_address (mA xk.toNatClampNeg) mn me mf mL) - (mf xk.toNatClampNeg)) - 4) (-256) 254) = 0 then (53248 + (256 * (mC xk.toNatClampNeg))) + ((((((FMo_address (mA xk.toNatClampNeg) mn me mf mL) - (mf xk.toNatClampNeg)) - 4) / 2) + 256) - (((((FMo_address (mA xk.toNatClampNeg) mn me mf mL) - (mf xk.toNatClampNeg)) - 4) / 2) + 256) / 256 * 256) else (-1)
set_option maxHeartbeats 4000000 in
set_option maxRecDepth 100000 in
theorem k_Mo_halfOf (l : Launch) (D : va_G) (ad : Nat → Nat) (cI cS : ClassId) (xk : Int32) (mq : Int32) (mn : Int32) (me : Int32) (mo : Int32) (mt : Int32) (mx : Int32) (mp : Int32) (mz : Int32) (mu : Int32) (vn : Int32) (vz : Int32) (vc : Int32) (vv : Int32) (vp : Int32) (ve : Int32) (mK : Nat → Int32) (mA : Nat → Int32) (mB : Nat → Int32) (mC : Nat → Int32) (mf : Nat → Int32) (ml : Nat → Int32) (mc : Nat → Int32) (mL : Nat → Int32) (md : Nat → Int32) (mi : Nat → Int32) (mr : Nat → Int32) (mw : Nat → Int32) (hxk : vp_in xk 160) (hmn0 : ¬ mn < 0) (hmn1 : mn.toInt ≤ 160) (hka : pq_ka (mK xk.toNatClampNeg) (mA xk.toNatClampNeg)) (hlb : ∀ y9 : Nat, ¬ mL y9 = (-1) → ¬ mL y9 < 0) : pq_I l yMo_halfOf (.code yMo_halfOf cMo_halfOf 6 (some .int) :: pq_ws) { frames := 1, cells := 0, slots := 0, locals := 22 } D cI cS [.ref (ad 17), .int xk] (wM ad cI cS mq mn me mo mt mx mp mz mu vn vz vc vv vp ve mK mA mB mC mf ml mc mL md mi mr mw) (FMo_halfOf xk mn me mK mA mB mC mf mc mL) (wM ad cI cS mq mn me mo mt mx mp mz mu vn vz vc vv vp ve mK mA mB mC mf ml mc mL md mi mr mw) := by
  intro sz
  refine Met.ofW (cc := cMo_halfOf) (maxL := 6) (ret := (some .int)) (by decide) rfl ?_
  intro p e s m args below meth c s₁ B hml hv
  obtain ⟨rfl, hsz, hP, hD0, hE⟩ := hv
  have hx := B.exec
  have hb := B.bytes
  have hr := B.returns
  have hts := atoms_spec (ws := (.code yMo_halfOf cMo_halfOf 6 (some .int) :: pq_ws : List Cond)) B.pre
  have hw : ∀ w ∈ pq_ws, w.before _ s = true := fun w h => hts w (List.mem_cons_of_mem _ h)
  have hown : s.vm.findClass RMo = some m.cls := findClass_of_methodNamed B.named
  have hlocks := B.notSynchronized
  subst hsz
  have hD := hD0.self (sz := s.heap.size)
  have hA : ∀ q : Nat, s.heap.size ≤ q → va_A (wM ad cI cS mq mn me mo mt mx mp mz mu vn vz vc vv vp ve mK mA mB mC mf ml mc mL md mi mr mw) s.heap.size q := fun q h => Or.inr h
  have hS : va_S (va_A (wM ad cI cS mq mn me mo mt mx mp mz mu vn vz vc vv vp ve mK mA mB mC mf ml mc mL md mi mr mw) s.heap.size) s.heap s.heap [] := va_S.rf
  have hl := lv_entry ([.ref (ad 17), .int xk] : List Value) (n := 6) (Nat.le_of_ble_eq_true rfl)
  rw [lg_entry_eq]
  generalize (lg_sl ([.ref (ad 17), .int xk] : List Value) ++ List.replicate (6 - (lg_sl ([.ref (ad 17), .int xk] : List Value)).length) Slot.unset).toArray = ls at hl ⊢
  have hl : lv_has ls 6 [(0, .ref (ad 17)), (1, .int xk)] := hl
  refine lv_aload_n hx hb dMo_halfOf_0 rfl (lv_at hl 0 rfl) ?_
  refine va_get (D := D) (ci := 5) (v := .ref (ad 19)) (C := RMo) (T := TMo) (N := 27) hx hb hw pinMo hown hE.1 hP 0 rfl rfl 3 (by decide) (hw _ wd_274) (fun _ h9 => h9) rfl dMo_halfOf_1 ?_
  refine lv_iload_n hx hb dMo_halfOf_4 rfl (lv_at hl 1 rfl) ?_
  refine va_iald hx hb hE.1 hP 2 0 rfl rfl hxk dMo_halfOf_5 ?_
  refine lv_istore_n (lv' := [(2, .int (mA xk.toNatClampNeg)), (0, .ref (ad 17)), (1, .int xk)]) hx hb dMo_halfOf_6 rfl hl (by decide) rfl (fun ls hl => ?_)
  refine lv_aload_n hx hb dMo_halfOf_7 rfl (lv_at hl 1 rfl) ?_
  refine va_get (D := D) (ci := 5) (v := .ref (ad 20)) (C := RMo) (T := TMo) (N := 27) hx hb hw pinMo hown hE.1 hP 0 rfl rfl 4 (by decide) (hw _ wd_275) (fun _ h9 => h9) rfl dMo_halfOf_8 ?_
  refine lv_iload_n hx hb dMo_halfOf_11 rfl (lv_at hl 2 rfl) ?_
  refine va_iald hx hb hE.1 hP 3 0 rfl rfl hxk dMo_halfOf_12 ?_
  refine lv_istore_n (lv' := [(3, .int (mB xk.toNatClampNeg)), (2, .int (mA xk.toNatClampNeg)), (0, .ref (ad 17)), (1, .int xk)]) hx hb dMo_halfOf_13 rfl hl (by decide) rfl (fun ls hl => ?_)
  refine lv_aload_n hx hb dMo_halfOf_14 rfl (lv_at hl 2 rfl) ?_
  refine va_get (D := D) (ci := 5) (v := .ref (ad 21)) (C := RMo) (T := TMo) (N := 27) hx hb hw pinMo hown hE.1 hP 0 rfl rfl 5 (by decide) (hw _ wd_276) (fun _ h9 => h9) rfl dMo_halfOf_15 ?_
  refine lv_iload_n hx hb dMo_halfOf_18 rfl (lv_at hl 3 rfl) ?_
  refine va_iald hx hb hE.1 hP 4 0 rfl rfl hxk dMo_halfOf_19 ?_
  refine lv_istore (lv' := [(4, .int (mC xk.toNatClampNeg)), (3, .int (mB xk.toNatClampNeg)), (2, .int (mA xk.toNatClampNeg)), (0, .ref (ad 17)), (1, .int xk)]) hx hb dMo_halfOf_20 hl (by decide) rfl (fun ls hl => ?_)
  refine lv_aload_n hx hb dMo_halfOf_22 rfl (lv_at hl 3 rfl) ?_
  refine va_get (D := D) (ci := 5) (v := .ref (ad 18)) (C := RMo) (T := TMo) (N := 27) hx hb hw pinMo hown hE.1 hP 0 rfl rfl 2 (by decide) (hw _ wd_273) (fun _ h9 => h9) rfl dMo_halfOf_23 ?_
  refine lv_iload_n hx hb dMo_halfOf_26 rfl (lv_at hl 4 rfl) ?_
  refine va_iald hx hb hE.1 hP 1 0 rfl rfl hxk dMo_halfOf_27 ?_
  by_cases h1 : (mK xk.toNatClampNeg) = 1
  · refine lv_tableIn (off := 76) (tgt := 104) hx hb dMo_halfOf_28 (by rw [h1]; decide) (by rw [h1]; decide) (by rw [h1]; rfl) (by decide) ?_
    refine lv_sipush (v := 8192) hx hb dMo_halfOf_104 (by first | rfl | decide) ?_
    refine lv_sipush (v := 2048) hx hb dMo_halfOf_107 (by first | rfl | decide) ?_
    refine lv_aload_n hx hb dMo_halfOf_110 rfl (lv_at hl 3 rfl) ?_
    refine va_get (D := D) (ci := 5) (v := .ref (ad 18)) (C := RMo) (T := TMo) (N := 27) hx hb hw pinMo hown hE.1 hP 0 rfl rfl 2 (by decide) (hw _ wd_273) (fun _ h9 => h9) rfl dMo_halfOf_111 ?_
    refine lv_iload_n hx hb dMo_halfOf_114 rfl (lv_at hl 4 rfl) ?_
    refine va_iald hx hb hE.1 hP 1 0 rfl rfl hxk dMo_halfOf_115 ?_
    refine lv_iconst (v := 1) hx hb dMo_halfOf_116 (by first | rfl | decide) ?_
    refine lv_isub hx hb dMo_halfOf_117 ?_
    refine lv_imul hx hb dMo_halfOf_118 ?_
    refine lv_iadd hx hb dMo_halfOf_119 ?_
    refine lv_sipush (v := 256) hx hb dMo_halfOf_120 (by first | rfl | decide) ?_
    refine lv_iload_n hx hb dMo_halfOf_123 rfl (lv_at hl 2 rfl) ?_
    refine lv_imul hx hb dMo_halfOf_124 ?_
    refine lv_iadd hx hb dMo_halfOf_125 ?_
    refine lv_iload_n hx hb dMo_halfOf_126 rfl (lv_at hl 1 rfl) ?_
    refine lv_iadd hx hb dMo_halfOf_127 ?_
    have e9 : FMo_halfOf xk mn me mK mA mB mC mf mc mL = ((8192 + (2048 * ((mK xk.toNatClampNeg) - 1))) + (256 * (mA xk.toNatClampNeg))) + (mB xk.toNatClampNeg) := by simp only [FMo_halfOf, if_pos h1]
    exact W.iret (v := ((8192 + (2048 * ((mK xk.toNatClampNeg) - 1))) + (256 * (mA xk.toNatClampNeg))) + (mB xk.toNatClampNeg)) hx hb hr (fun t ht hW => ⟨⟨((8192 + (2048 * ((mK xk.toNatClampNeg) - 1))) + (256 * (mA xk.toNatClampNeg))) + (mB xk.toNatClampNeg), (), rfl, (by show _ = _; rw [e9]), by rw [ht]; exact hP, hD⟩, hS.F ht⟩) hS.2.2 dMo_halfOf_128
  by_cases h2 : (mK xk.toNatClampNeg) = 2
  · refine lv_tableIn (off := 76) (tgt := 104) hx hb dMo_halfOf_28 (by rw [h2]; decide) (by rw [h2]; decide) (by rw [h2]; rfl) (by decide) ?_
    refine lv_sipush (v := 8192) hx hb dMo_halfOf_104 (by first | rfl | decide) ?_
    refine lv_sipush (v := 2048) hx hb dMo_halfOf_107 (by first | rfl | decide) ?_
    refine lv_aload_n hx hb dMo_halfOf_110 rfl (lv_at hl 3 rfl) ?_
    refine va_get (D := D) (ci := 5) (v := .ref (ad 18)) (C := RMo) (T := TMo) (N := 27) hx hb hw pinMo hown hE.1 hP 0 rfl rfl 2 (by decide) (hw _ wd_273) (fun _ h9 => h9) rfl dMo_halfOf_111 ?_
    refine lv_iload_n hx hb dMo_halfOf_114 rfl (lv_at hl 4 rfl) ?_
    refine va_iald hx hb hE.1 hP 1 0 rfl rfl hxk dMo_halfOf_115 ?_
    refine lv_iconst (v := 1) hx hb dMo_halfOf_116 (by first | rfl | decide) ?_
    refine lv_isub hx hb dMo_halfOf_117 ?_
    refine lv_imul hx hb dMo_halfOf_118 ?_
    refine lv_iadd hx hb dMo_halfOf_119 ?_
    refine lv_sipush (v := 256) hx hb dMo_halfOf_120 (by first | rfl | decide) ?_
    refine lv_iload_n hx hb dMo_halfOf_123 rfl (lv_at hl 2 rfl) ?_
    refine lv_imul hx hb dMo_halfOf_124 ?_
    refine lv_iadd hx hb dMo_halfOf_125 ?_
    refine lv_iload_n hx hb dMo_halfOf_126 rfl (lv_at hl 1 rfl) ?_
    refine lv_iadd hx hb dMo_halfOf_127 ?_
    have e9 : FMo_halfOf xk mn me mK mA mB mC mf mc mL = ((8192 + (2048 * ((mK xk.toNatClampNeg) - 1))) + (256 * (mA xk.toNatClampNeg))) + (mB xk.toNatClampNeg) := by simp only [FMo_halfOf, if_neg h1, if_pos h2]
    exact W.iret (v := ((8192 + (2048 * ((mK xk.toNatClampNeg) - 1))) + (256 * (mA xk.toNatClampNeg))) + (mB xk.toNatClampNeg)) hx hb hr (fun t ht hW => ⟨⟨((8192 + (2048 * ((mK xk.toNatClampNeg) - 1))) + (256 * (mA xk.toNatClampNeg))) + (mB xk.toNatClampNeg), (), rfl, (by show _ = _; rw [e9]), by rw [ht]; exact hP, hD⟩, hS.F ht⟩) hS.2.2 dMo_halfOf_128
  by_cases h3 : (mK xk.toNatClampNeg) = 3
  · refine lv_tableIn (off := 76) (tgt := 104) hx hb dMo_halfOf_28 (by rw [h3]; decide) (by rw [h3]; decide) (by rw [h3]; rfl) (by decide) ?_
    refine lv_sipush (v := 8192) hx hb dMo_halfOf_104 (by first | rfl | decide) ?_
    refine lv_sipush (v := 2048) hx hb dMo_halfOf_107 (by first | rfl | decide) ?_
    refine lv_aload_n hx hb dMo_halfOf_110 rfl (lv_at hl 3 rfl) ?_
    refine va_get (D := D) (ci := 5) (v := .ref (ad 18)) (C := RMo) (T := TMo) (N := 27) hx hb hw pinMo hown hE.1 hP 0 rfl rfl 2 (by decide) (hw _ wd_273) (fun _ h9 => h9) rfl dMo_halfOf_111 ?_
    refine lv_iload_n hx hb dMo_halfOf_114 rfl (lv_at hl 4 rfl) ?_
    refine va_iald hx hb hE.1 hP 1 0 rfl rfl hxk dMo_halfOf_115 ?_
    refine lv_iconst (v := 1) hx hb dMo_halfOf_116 (by first | rfl | decide) ?_
    refine lv_isub hx hb dMo_halfOf_117 ?_
    refine lv_imul hx hb dMo_halfOf_118 ?_
    refine lv_iadd hx hb dMo_halfOf_119 ?_
    refine lv_sipush (v := 256) hx hb dMo_halfOf_120 (by first | rfl | decide) ?_
    refine lv_iload_n hx hb dMo_halfOf_123 rfl (lv_at hl 2 rfl) ?_
    refine lv_imul hx hb dMo_halfOf_124 ?_
    refine lv_iadd hx hb dMo_halfOf_125 ?_
    refine lv_iload_n hx hb dMo_halfOf_126 rfl (lv_at hl 1 rfl) ?_
    refine lv_iadd hx hb dMo_halfOf_127 ?_
    have e9 : FMo_halfOf xk mn me mK mA mB mC mf mc mL = ((8192 + (2048 * ((mK xk.toNatClampNeg) - 1))) + (256 * (mA xk.toNatClampNeg))) + (mB xk.toNatClampNeg) := by simp only [FMo_halfOf, if_neg h1, if_neg h2, if_pos h3]
    exact W.iret (v := ((8192 + (2048 * ((mK xk.toNatClampNeg) - 1))) + (256 * (mA xk.toNatClampNeg))) + (mB xk.toNatClampNeg)) hx hb hr (fun t ht hW => ⟨⟨((8192 + (2048 * ((mK xk.toNatClampNeg) - 1))) + (256 * (mA xk.toNatClampNeg))) + (mB xk.toNatClampNeg), (), rfl, (by show _ = _; rw [e9]), by rw [ht]; exact hP, hD⟩, hS.F ht⟩) hS.2.2 dMo_halfOf_128
  by_cases h4 : (mK xk.toNatClampNeg) = 4
  · refine lv_tableIn (off := 76) (tgt := 104) hx hb dMo_halfOf_28 (by rw [h4]; decide) (by rw [h4]; decide) (by rw [h4]; rfl) (by decide) ?_
    refine lv_sipush (v := 8192) hx hb dMo_halfOf_104 (by first | rfl | decide) ?_
    refine lv_sipush (v := 2048) hx hb dMo_halfOf_107 (by first | rfl | decide) ?_
    refine lv_aload_n hx hb dMo_halfOf_110 rfl (lv_at hl 3 rfl) ?_
    refine va_get (D := D) (ci := 5) (v := .ref (ad 18)) (C := RMo) (T := TMo) (N := 27) hx hb hw pinMo hown hE.1 hP 0 rfl rfl 2 (by decide) (hw _ wd_273) (fun _ h9 => h9) rfl dMo_halfOf_111 ?_
    refine lv_iload_n hx hb dMo_halfOf_114 rfl (lv_at hl 4 rfl) ?_
    refine va_iald hx hb hE.1 hP 1 0 rfl rfl hxk dMo_halfOf_115 ?_
    refine lv_iconst (v := 1) hx hb dMo_halfOf_116 (by first | rfl | decide) ?_
    refine lv_isub hx hb dMo_halfOf_117 ?_
    refine lv_imul hx hb dMo_halfOf_118 ?_
    refine lv_iadd hx hb dMo_halfOf_119 ?_
    refine lv_sipush (v := 256) hx hb dMo_halfOf_120 (by first | rfl | decide) ?_
    refine lv_iload_n hx hb dMo_halfOf_123 rfl (lv_at hl 2 rfl) ?_
    refine lv_imul hx hb dMo_halfOf_124 ?_
    refine lv_iadd hx hb dMo_halfOf_125 ?_
    refine lv_iload_n hx hb dMo_halfOf_126 rfl (lv_at hl 1 rfl) ?_
    refine lv_iadd hx hb dMo_halfOf_127 ?_
    have e9 : FMo_halfOf xk mn me mK mA mB mC mf mc mL = ((8192 + (2048 * ((mK xk.toNatClampNeg) - 1))) + (256 * (mA xk.toNatClampNeg))) + (mB xk.toNatClampNeg) := by simp only [FMo_halfOf, if_neg h1, if_neg h2, if_neg h3, if_pos h4]
    exact W.iret (v := ((8192 + (2048 * ((mK xk.toNatClampNeg) - 1))) + (256 * (mA xk.toNatClampNeg))) + (mB xk.toNatClampNeg)) hx hb hr (fun t ht hW => ⟨⟨((8192 + (2048 * ((mK xk.toNatClampNeg) - 1))) + (256 * (mA xk.toNatClampNeg))) + (mB xk.toNatClampNeg), (), rfl, (by show _ = _; rw [e9]), by rw [ht]; exact hP, hD⟩, hS.F ht⟩) hS.2.2 dMo_halfOf_128
  by_cases h5 : (mK xk.toNatClampNeg) = 5
  · refine lv_tableIn (off := 101) (tgt := 129) hx hb dMo_halfOf_28 (by rw [h5]; decide) (by rw [h5]; decide) (by rw [h5]; rfl) (by decide) ?_
    refine lv_sipush (v := 6144) hx hb dMo_halfOf_129 (by first | rfl | decide) ?_
    refine lv_bipush (v := 64) hx hb dMo_halfOf_132 (by first | rfl | decide) ?_
    refine lv_iload hx hb dMo_halfOf_134 (lv_at hl 0 rfl) ?_
    refine lv_imul hx hb dMo_halfOf_136 ?_
    refine lv_iadd hx hb dMo_halfOf_137 ?_
    refine lv_bipush (v := 8) hx hb dMo_halfOf_138 (by first | rfl | decide) ?_
    refine lv_iload_n hx hb dMo_halfOf_140 rfl (lv_at hl 1 rfl) ?_
    refine lv_imul hx hb dMo_halfOf_141 ?_
    refine lv_iadd hx hb dMo_halfOf_142 ?_
    refine lv_iload_n hx hb dMo_halfOf_143 rfl (lv_at hl 2 rfl) ?_
    refine lv_iadd hx hb dMo_halfOf_144 ?_
    have e9 : FMo_halfOf xk mn me mK mA mB mC mf mc mL = ((6144 + (64 * (mC xk.toNatClampNeg))) + (8 * (mB xk.toNatClampNeg))) + (mA xk.toNatClampNeg) := by simp only [FMo_halfOf, if_neg h1, if_neg h2, if_neg h3, if_neg h4, if_pos h5]
    exact W.iret (v := ((6144 + (64 * (mC xk.toNatClampNeg))) + (8 * (mB xk.toNatClampNeg))) + (mA xk.toNatClampNeg)) hx hb hr (fun t ht hW => ⟨⟨((6144 + (64 * (mC xk.toNatClampNeg))) + (8 * (mB xk.toNatClampNeg))) + (mA xk.toNatClampNeg), (), rfl, (by show _ = _; rw [e9]), by rw [ht]; exact hP, hD⟩, hS.F ht⟩) hS.2.2 dMo_halfOf_145
  by_cases h6 : (mK xk.toNatClampNeg) = 6
  · refine lv_tableIn (off := 118) (tgt := 146) hx hb dMo_halfOf_28 (by rw [h6]; decide) (by rw [h6]; decide) (by rw [h6]; rfl) (by decide) ?_
    refine lv_sipush (v := 6656) hx hb dMo_halfOf_146 (by first | rfl | decide) ?_
    refine lv_bipush (v := 64) hx hb dMo_halfOf_149 (by first | rfl | decide) ?_
    refine lv_iload hx hb dMo_halfOf_151 (lv_at hl 0 rfl) ?_
    refine lv_imul hx hb dMo_halfOf_153 ?_
    refine lv_iadd hx hb dMo_halfOf_154 ?_
    refine lv_bipush (v := 8) hx hb dMo_halfOf_155 (by first | rfl | decide) ?_
    refine lv_iload_n hx hb dMo_halfOf_157 rfl (lv_at hl 1 rfl) ?_
    refine lv_imul hx hb dMo_halfOf_158 ?_
    refine lv_iadd hx hb dMo_halfOf_159 ?_
    refine lv_iload_n hx hb dMo_halfOf_160 rfl (lv_at hl 2 rfl) ?_
    refine lv_iadd hx hb dMo_halfOf_161 ?_
    have e9 : FMo_halfOf xk mn me mK mA mB mC mf mc mL = ((6656 + (64 * (mC xk.toNatClampNeg))) + (8 * (mB xk.toNatClampNeg))) + (mA xk.toNatClampNeg) := by simp only [FMo_halfOf, if_neg h1, if_neg h2, if_neg h3, if_neg h4, if_neg h5, if_pos h6]
    exact W.iret (v := ((6656 + (64 * (mC xk.toNatClampNeg))) + (8 * (mB xk.toNatClampNeg))) + (mA xk.toNatClampNeg)) hx hb hr (fun t ht hW => ⟨⟨((6656 + (64 * (mC xk.toNatClampNeg))) + (8 * (mB xk.toNatClampNeg))) + (mA xk.toNatClampNeg), (), rfl, (by show _ = _; rw [e9]), by rw [ht]; exact hP, hD⟩, hS.F ht⟩) hS.2.2 dMo_halfOf_162
  by_cases h7 : (mK xk.toNatClampNeg) = 7
  · refine lv_tableIn (off := 135) (tgt := 163) hx hb dMo_halfOf_28 (by rw [h7]; decide) (by rw [h7]; decide) (by rw [h7]; rfl) (by decide) ?_
    refine lv_sipush (v := 16384) hx hb dMo_halfOf_163 (by first | rfl | decide) ?_
    refine lv_bipush (v := 64) hx hb dMo_halfOf_166 (by first | rfl | decide) ?_
    refine lv_iload hx hb dMo_halfOf_168 (lv_at hl 0 rfl) ?_
    refine lv_imul hx hb dMo_halfOf_170 ?_
    refine lv_iadd hx hb dMo_halfOf_171 ?_
    refine lv_bipush (v := 8) hx hb dMo_halfOf_172 (by first | rfl | decide) ?_
    refine lv_iload_n hx hb dMo_halfOf_174 rfl (lv_at hl 1 rfl) ?_
    refine lv_imul hx hb dMo_halfOf_175 ?_
    refine lv_iadd hx hb dMo_halfOf_176 ?_
    refine lv_iload_n hx hb dMo_halfOf_177 rfl (lv_at hl 2 rfl) ?_
    refine lv_iadd hx hb dMo_halfOf_178 ?_
    have e9 : FMo_halfOf xk mn me mK mA mB mC mf mc mL = ((16384 + (64 * (mC xk.toNatClampNeg))) + (8 * (mB xk.toNatClampNeg))) + (mA xk.toNatClampNeg) := by simp only [FMo_halfOf, if_neg h1, if_neg h2, if_neg h3, if_neg h4, if_neg h5, if_neg h6, if_pos h7]
    exact W.iret (v := ((16384 + (64 * (mC xk.toNatClampNeg))) + (8 * (mB xk.toNatClampNeg))) + (mA xk.toNatClampNeg)) hx hb hr (fun t ht hW => ⟨⟨((16384 + (64 * (mC xk.toNatClampNeg))) + (8 * (mB xk.toNatClampNeg))) + (mA xk.toNatClampNeg), (), rfl, (by show _ = _; rw [e9]), by rw [ht]; exact hP, hD⟩, hS.F ht⟩) hS.2.2 dMo_halfOf_179
  by_cases h8 : (mK xk.toNatClampNeg) = 8
  · refine lv_tableIn (off := 152) (tgt := 180) hx hb dMo_halfOf_28 (by rw [h8]; decide) (by rw [h8]; decide) (by rw [h8]; rfl) (by decide) ?_
    refine lv_sipush (v := 24576) hx hb dMo_halfOf_180 (by first | rfl | decide) ?_
    refine lv_bipush (v := 64) hx hb dMo_halfOf_183 (by first | rfl | decide) ?_
    refine lv_iload hx hb dMo_halfOf_185 (lv_at hl 0 rfl) ?_
    refine lv_imul hx hb dMo_halfOf_187 ?_
    refine lv_iadd hx hb dMo_halfOf_188 ?_
    refine lv_bipush (v := 8) hx hb dMo_halfOf_189 (by first | rfl | decide) ?_
    refine lv_iload_n hx hb dMo_halfOf_191 rfl (lv_at hl 1 rfl) ?_
    refine lv_imul hx hb dMo_halfOf_192 ?_
    refine lv_iadd hx hb dMo_halfOf_193 ?_
    refine lv_iload_n hx hb dMo_halfOf_194 rfl (lv_at hl 2 rfl) ?_
    refine lv_iadd hx hb dMo_halfOf_195 ?_
    have e9 : FMo_halfOf xk mn me mK mA mB mC mf mc mL = ((24576 + (64 * (mC xk.toNatClampNeg))) + (8 * (mB xk.toNatClampNeg))) + (mA xk.toNatClampNeg) := by simp only [FMo_halfOf, if_neg h1, if_neg h2, if_neg h3, if_neg h4, if_neg h5, if_neg h6, if_neg h7, if_pos h8]
    exact W.iret (v := ((24576 + (64 * (mC xk.toNatClampNeg))) + (8 * (mB xk.toNatClampNeg))) + (mA xk.toNatClampNeg)) hx hb hr (fun t ht hW => ⟨⟨((24576 + (64 * (mC xk.toNatClampNeg))) + (8 * (mB xk.toNatClampNeg))) + (mA xk.toNatClampNeg), (), rfl, (by show _ = _; rw [e9]), by rw [ht]; exact hP, hD⟩, hS.F ht⟩) hS.2.2 dMo_halfOf_196
  by_cases h9 : (mK xk.toNatClampNeg) = 9
  · refine lv_tableIn (off := 169) (tgt := 197) hx hb dMo_halfOf_28 (by rw [h9]; decide) (by rw [h9]; decide) (by rw [h9]; rfl) (by decide) ?_
    refine lv_sipush (v := 26624) hx hb dMo_halfOf_197 (by first | rfl | decide) ?_
    refine lv_bipush (v := 64) hx hb dMo_halfOf_200 (by first | rfl | decide) ?_
    refine lv_iload hx hb dMo_halfOf_202 (lv_at hl 0 rfl) ?_
    refine lv_imul hx hb dMo_halfOf_204 ?_
    refine lv_iadd hx hb dMo_halfOf_205 ?_
    refine lv_bipush (v := 8) hx hb dMo_halfOf_206 (by first | rfl | decide) ?_
    refine lv_iload_n hx hb dMo_halfOf_208 rfl (lv_at hl 1 rfl) ?_
    refine lv_imul hx hb dMo_halfOf_209 ?_
    refine lv_iadd hx hb dMo_halfOf_210 ?_
    refine lv_iload_n hx hb dMo_halfOf_211 rfl (lv_at hl 2 rfl) ?_
    refine lv_iadd hx hb dMo_halfOf_212 ?_
    have e9 : FMo_halfOf xk mn me mK mA mB mC mf mc mL = ((26624 + (64 * (mC xk.toNatClampNeg))) + (8 * (mB xk.toNatClampNeg))) + (mA xk.toNatClampNeg) := by simp only [FMo_halfOf, if_neg h1, if_neg h2, if_neg h3, if_neg h4, if_neg h5, if_neg h6, if_neg h7, if_neg h8, if_pos h9]
    exact W.iret (v := ((26624 + (64 * (mC xk.toNatClampNeg))) + (8 * (mB xk.toNatClampNeg))) + (mA xk.toNatClampNeg)) hx hb hr (fun t ht hW => ⟨⟨((26624 + (64 * (mC xk.toNatClampNeg))) + (8 * (mB xk.toNatClampNeg))) + (mA xk.toNatClampNeg), (), rfl, (by show _ = _; rw [e9]), by rw [ht]; exact hP, hD⟩, hS.F ht⟩) hS.2.2 dMo_halfOf_213
  by_cases h10 : (mK xk.toNatClampNeg) = 10
  · refine lv_tableIn (off := 186) (tgt := 214) hx hb dMo_halfOf_28 (by rw [h10]; decide) (by rw [h10]; decide) (by rw [h10]; rfl) (by decide) ?_
    refine lv_aload_n hx hb dMo_halfOf_214 rfl (lv_at hl 3 rfl) ?_
    refine va_get (D := D) (ci := 5) (v := .ref (ad 24)) (C := RMo) (T := TMo) (N := 27) hx hb hw pinMo hown hE.1 hP 0 rfl rfl 8 (by decide) (hw _ wd_283) (fun _ h9 => h9) rfl dMo_halfOf_215 ?_
    refine lv_iload_n hx hb dMo_halfOf_218 rfl (lv_at hl 4 rfl) ?_
    refine va_iald hx hb hE.1 hP 7 0 rfl rfl hxk dMo_halfOf_219 ?_
    refine lv_aload_n hx hb dMo_halfOf_220 rfl (lv_at hl 3 rfl) ?_
    refine va_get (D := D) (ci := 5) (v := .ref (ad 22)) (C := RMo) (T := TMo) (N := 27) hx hb hw pinMo hown hE.1 hP 0 rfl rfl 6 (by decide) (hw _ wd_277) (fun _ h9 => h9) rfl dMo_halfOf_221 ?_
    refine lv_iload_n hx hb dMo_halfOf_224 rfl (lv_at hl 4 rfl) ?_
    refine va_iald hx hb hE.1 hP 5 0 rfl rfl hxk dMo_halfOf_225 ?_
    refine pq_calli (fr := (FMo_base (mf xk.toNatClampNeg))) (wc := (wN ad cI cS)) (wr := ([0, 1, 2, 3, 4, 5, 6, 7, 8, 9, 10, 11, 12] : List Nat).filterMap (fun i => (wM ad cI cS mq mn me mo mt mx mp mz mu vn vz vc vv vp ve mK mA mB mC mf ml mc mL md mi mr mw)[i]?)) hP hD hS hA [] [0, 1, 2, 3, 4, 5, 6, 7, 8, 9, 10, 11, 12] rfl rfl (by decide) (by decide) (va_runS (own := RMo) (As := [.int (mf xk.toNatClampNeg)]) (rest := [.int (mc xk.toNatClampNeg)]) ⟨hx, hb, hml, hown, hw⟩ (k_Mo_base l D ad cI cS (mf xk.toNatClampNeg) s.heap.size) ⟨pq_cwB 1 hw wd_224 wd_186 wd_223 rfl rfl (by decide +kernel) ⟨Nat.le_of_ble_eq_true rfl, Nat.le_of_ble_eq_true rfl⟩, hw _ wd_225⟩ (pq_preS hE (hP.sub [] rfl) (hD.sub [] (by decide) rfl)) rfl rfl hl.1 rfl (lv_room (Nat.le_of_ble_eq_true rfl)) dMo_halfOf_226 ⟨Nat.zero_le _, Nat.zero_le _⟩) (fun H locs hP hD hS => ?_)
    have hP : va_P D vwCl (wM ad cI cS mq mn me mo mt mx mp mz mu vn vz vc vv vp ve mK mA mB mC mf ml mc mL md mi mr mw) H := hP.sub [0, 1, 2, 3, 4, 5, 6, 7, 8, 9, 10, 11, 12] rfl
    have hD : va_D _ (wM ad cI cS mq mn me mo mt mx mp mz mu vn vz vc vv vp ve mK mA mB mC mf ml mc mL md mi mr mw) := hD.sub [0, 1, 2, 3, 4, 5, 6, 7, 8, 9, 10, 11, 12] (by decide) rfl
    refine lv_isub hx hb dMo_halfOf_229 ?_
    refine lv_istore (lv' := [(5, .int ((mc xk.toNatClampNeg) - (FMo_base (mf xk.toNatClampNeg)))), (4, .int (mC xk.toNatClampNeg)), (3, .int (mB xk.toNatClampNeg)), (2, .int (mA xk.toNatClampNeg)), (0, .ref (ad 17)), (1, .int xk)]) hx hb dMo_halfOf_230 hl (by decide) rfl (fun ls hl => ?_)
    refine lv_iload hx hb dMo_halfOf_232 (lv_at hl 0 rfl) ?_
    refine lv_iconst (v := 0) hx hb dMo_halfOf_234 (by first | rfl | decide) ?_
    refine lv_sipush (v := 1023) hx hb dMo_halfOf_235 (by first | rfl | decide) ?_
    refine pq_calli (fr := (FMo_outside ((mc xk.toNatClampNeg) - (FMo_base (mf xk.toNatClampNeg))) 0 1023)) (wc := (wN ad cI cS)) (wr := ([0, 1, 2, 3, 4, 5, 6, 7, 8, 9, 10, 11, 12] : List Nat).filterMap (fun i => (wM ad cI cS mq mn me mo mt mx mp mz mu vn vz vc vv vp ve mK mA mB mC mf ml mc mL md mi mr mw)[i]?)) hP hD hS hA [] [0, 1, 2, 3, 4, 5, 6, 7, 8, 9, 10, 11, 12] rfl rfl (by decide) (by decide) (va_runS (own := RMo) (As := [.int ((mc xk.toNatClampNeg) - (FMo_base (mf xk.toNatClampNeg))), .int 0, .int 1023]) (rest := []) ⟨hx, hb, hml, hown, hw⟩ (k_Mo_outside l D ad cI cS ((mc xk.toNatClampNeg) - (FMo_base (mf xk.toNatClampNeg))) 0 1023 H.size) ⟨pq_cwB 3 hw wd_187 wd_186 wd_185 rfl rfl (by decide +kernel) ⟨Nat.le_of_ble_eq_true rfl, Nat.le_of_ble_eq_true rfl⟩, hw _ wd_188⟩ (pq_preS hE (hP.sub [] rfl) (hD.sub [] (by decide) rfl)) rfl rfl hl.1 rfl (lv_room (Nat.le_of_ble_eq_true rfl)) dMo_halfOf_238 ⟨Nat.zero_le _, Nat.zero_le _⟩) (fun H locs hP hD hS => ?_)
    have hP : va_P D vwCl (wM ad cI cS mq mn me mo mt mx mp mz mu vn vz vc vv vp ve mK mA mB mC mf ml mc mL md mi mr mw) H := hP.sub [0, 1, 2, 3, 4, 5, 6, 7, 8, 9, 10, 11, 12] rfl
    have hD : va_D _ (wM ad cI cS mq mn me mo mt mx mp mz mu vn vz vc vv vp ve mK mA mB mC mf ml mc mL md mi mr mw) := hD.sub [0, 1, 2, 3, 4, 5, 6, 7, 8, 9, 10, 11, 12] (by decide) rfl
    refine lv_if_eq (tgt := 248) hx hb dMo_halfOf_241 (by decide) (fun h11 => ?_) (fun h11 => ?_)
    · refine lv_sipush (v := 18432) hx hb dMo_halfOf_248 (by first | rfl | decide) ?_
      refine lv_sipush (v := 256) hx hb dMo_halfOf_251 (by first | rfl | decide) ?_
      refine lv_iload_n hx hb dMo_halfOf_254 rfl (lv_at hl 3 rfl) ?_
      refine lv_imul hx hb dMo_halfOf_255 ?_
      refine lv_iadd hx hb dMo_halfOf_256 ?_
      refine lv_iload hx hb dMo_halfOf_257 (lv_at hl 0 rfl) ?_
      refine lv_iconst (v := 4) hx hb dMo_halfOf_259 (by first | rfl | decide) ?_
      refine lv_idiv hx hb dMo_halfOf_260 (by decide) ?_
      refine lv_iadd hx hb dMo_halfOf_261 ?_
      have e9 : FMo_halfOf xk mn me mK mA mB mC mf mc mL = (18432 + (256 * (mA xk.toNatClampNeg))) + (((mc xk.toNatClampNeg) - (FMo_base (mf xk.toNatClampNeg))) / 4) := by simp only [FMo_halfOf, if_neg h1, if_neg h2, if_neg h3, if_neg h4, if_neg h5, if_neg h6, if_neg h7, if_neg h8, if_neg h9, if_pos h10, if_pos h11]
      exact W.iret (v := (18432 + (256 * (mA xk.toNatClampNeg))) + (((mc xk.toNatClampNeg) - (FMo_base (mf xk.toNatClampNeg))) / 4)) hx hb hr (fun t ht hW => ⟨⟨(18432 + (256 * (mA xk.toNatClampNeg))) + (((mc xk.toNatClampNeg) - (FMo_base (mf xk.toNatClampNeg))) / 4), (), rfl, (by show _ = _; rw [e9]), by rw [ht]; exact hP, hD⟩, hS.F ht⟩) hS.2.2 dMo_halfOf_262
    · refine lv_iconst (v := (-1)) hx hb dMo_halfOf_244 (by first | rfl | decide) ?_
      refine lv_goto (tgt := 262) hx hb dMo_halfOf_245 (by decide) ?_
      have e9 : FMo_halfOf xk mn me mK mA mB mC mf mc mL = (-1) := by simp only [FMo_halfOf, if_neg h1, if_neg h2, if_neg h3, if_neg h4, if_neg h5, if_neg h6, if_neg h7, if_neg h8, if_neg h9, if_pos h10, if_neg h11]
      exact W.iret (v := (-1)) hx hb hr (fun t ht hW => ⟨⟨(-1), (), rfl, (by show _ = _; rw [e9]), by rw [ht]; exact hP, hD⟩, hS.F ht⟩) hS.2.2 dMo_halfOf_262
  by_cases h12 : (mK xk.toNatClampNeg) = 11
  · refine lv_tableIn (off := 238) (tgt := 266) hx hb dMo_halfOf_28 (by rw [h12]; decide) (by rw [h12]; decide) (by rw [h12]; rfl) (by decide) ?_
    refine lv_aload_n hx hb dMo_halfOf_266 rfl (lv_at hl 3 rfl) ?_
    refine va_get (D := D) (ci := 5) (v := .ref (ad 25)) (C := RMo) (T := TMo) (N := 27) hx hb hw pinMo hown hE.1 hP 0 rfl rfl 9 (by decide) (hw _ wd_264) (fun _ h9 => h9) rfl dMo_halfOf_267 ?_
    refine lv_iload_n hx hb dMo_halfOf_270 rfl (lv_at hl 2 rfl) ?_
    refine va_iald hx hb hE.1 hP 8 0 rfl rfl (by first | exact pq_kaE hka (by assumption) (by decide) | exact pq_kaN hka (by assumption) (by assumption) (by assumption) (by assumption) (by assumption) (by assumption) (by assumption) (by assumption) (by assumption) (by assumption) (by assumption)) dMo_halfOf_271 ?_
    refine lv_iconst (v := (-1)) hx hb dMo_halfOf_272 (by first | rfl | decide) ?_
    refine lv_icmp_ne (tgt := 278) hx hb dMo_halfOf_273 (by decide) (fun h13 => ?_) (fun h13 => ?_)
    · refine lv_aload_n hx hb dMo_halfOf_278 rfl (lv_at hl 3 rfl) ?_
      refine lv_iload_n hx hb dMo_halfOf_279 rfl (lv_at hl 2 rfl) ?_
      refine pq_calli (fr := (FMo_address (mA xk.toNatClampNeg) mn me mf mL)) (wc := (wM ad cI cS mq mn me mo mt mx mp mz mu vn vz vc vv vp ve mK mA mB mC mf ml mc mL md mi mr mw)) (wr := ([] : List Nat).filterMap (fun i => (wM ad cI cS mq mn me mo mt mx mp mz mu vn vz vc vv vp ve mK mA mB mC mf ml mc mL md mi mr mw)[i]?)) hP hD hS hA [0, 1, 2, 3, 4, 5, 6, 7, 8, 9, 10, 11, 12] [] rfl rfl (by decide) (by decide) (va_runV (own := RMo) (C := RMo) (As := [.int (mA xk.toNatClampNeg)]) (rest := []) ⟨hx, hb, hml, hown, hw⟩ (k_Mo_address l D ad cI cS (mA xk.toNatClampNeg) mq mn me mo mt mx mp mz mu vn vz vc vv vp ve mK mA mB mC mf ml mc mL md mi mr mw (by first | exact pq_kaE hka (by assumption) (by decide) | exact pq_kaN hka (by assumption) (by assumption) (by assumption) (by assumption) (by assumption) (by assumption) (by assumption) (by assumption) (by assumption) (by assumption) (by assumption)) hmn0 hmn1 (hlb _ (by assumption)) s.heap.size) ⟨pq_cwB 1 hw wd_304 wd_186 wd_303 rfl rfl (by decide +kernel) ⟨Nat.le_of_ble_eq_true rfl, Nat.le_of_ble_eq_true rfl⟩, hw _ wd_305, hw _ wd_306⟩ (pq_preV (ci := 5) (C := RMo) (T := TMo) (N := 27) hE (hP.sub [0, 1, 2, 3, 4, 5, 6, 7, 8, 9, 10, 11, 12] rfl) (hD.sub [0, 1, 2, 3, 4, 5, 6, 7, 8, 9, 10, 11, 12] (by decide) rfl) rfl 0 rfl) rfl rfl hl.1 rfl (lv_room (Nat.le_of_ble_eq_true rfl)) dMo_halfOf_280 ⟨Nat.zero_le _, Nat.zero_le _⟩) (fun H locs hP hD hS => ?_)
      have hP : va_P D vwCl (wM ad cI cS mq mn me mo mt mx mp mz mu vn vz vc vv vp ve mK mA mB mC mf ml mc mL md mi mr mw) H := hP.sub [0, 1, 2, 3, 4, 5, 6, 7, 8, 9, 10, 11, 12] rfl
      have hD : va_D _ (wM ad cI cS mq mn me mo mt mx mp mz mu vn vz vc vv vp ve mK mA mB mC mf ml mc mL md mi mr mw) := hD.sub [0, 1, 2, 3, 4, 5, 6, 7, 8, 9, 10, 11, 12] (by decide) rfl
      refine lv_aload_n hx hb dMo_halfOf_283 rfl (lv_at hl 3 rfl) ?_
      refine va_get (D := D) (ci := 5) (v := .ref (ad 22)) (C := RMo) (T := TMo) (N := 27) hx hb hw pinMo hown hE.1 hP 0 rfl rfl 6 (by decide) (hw _ wd_277) (fun _ h9 => h9) rfl dMo_halfOf_284 ?_
      refine lv_iload_n hx hb dMo_halfOf_287 rfl (lv_at hl 4 rfl) ?_
      refine va_iald hx hb hE.1 hP 5 0 rfl rfl hxk dMo_halfOf_288 ?_
      refine lv_isub hx hb dMo_halfOf_289 ?_
      refine lv_iconst (v := 4) hx hb dMo_halfOf_290 (by first | rfl | decide) ?_
      refine lv_isub hx hb dMo_halfOf_291 ?_
      refine lv_istore (lv' := [(5, .int (((FMo_address (mA xk.toNatClampNeg) mn me mf mL) - (mf xk.toNatClampNeg)) - 4)), (4, .int (mC xk.toNatClampNeg)), (3, .int (mB xk.toNatClampNeg)), (2, .int (mA xk.toNatClampNeg)), (0, .ref (ad 17)), (1, .int xk)]) hx hb dMo_halfOf_292 hl (by decide) rfl (fun ls hl => ?_)
      refine lv_aload_n hx hb dMo_halfOf_294 rfl (lv_at hl 4 rfl) ?_
      refine va_get (D := D) (ci := 5) (v := .ref (ad 18)) (C := RMo) (T := TMo) (N := 27) hx hb hw pinMo hown hE.1 hP 0 rfl rfl 2 (by decide) (hw _ wd_273) (fun _ h9 => h9) rfl dMo_halfOf_295 ?_
      refine lv_iload_n hx hb dMo_halfOf_298 rfl (lv_at hl 5 rfl) ?_
      refine va_iald hx hb hE.1 hP 1 0 rfl rfl hxk dMo_halfOf_299 ?_
      refine lv_bipush (v := 11) hx hb dMo_halfOf_300 (by first | rfl | decide) ?_
      refine lv_icmp_ne (tgt := 339) hx hb dMo_halfOf_302 (by decide) (fun h9 => absurd h12 h9) (fun _ => ?_)
      refine lv_iload hx hb dMo_halfOf_305 (lv_at hl 0 rfl) ?_
      refine lv_sipush (v := (-2048)) hx hb dMo_halfOf_307 (by first | rfl | decide) ?_
      refine lv_sipush (v := 2046) hx hb dMo_halfOf_310 (by first | rfl | decide) ?_
      refine pq_calli (fr := (FMo_outside (((FMo_address (mA xk.toNatClampNeg) mn me mf mL) - (mf xk.toNatClampNeg)) - 4) (-2048) 2046)) (wc := (wN ad cI cS)) (wr := ([0, 1, 2, 3, 4, 5, 6, 7, 8, 9, 10, 11, 12] : List Nat).filterMap (fun i => (wM ad cI cS mq mn me mo mt mx mp mz mu vn vz vc vv vp ve mK mA mB mC mf ml mc mL md mi mr mw)[i]?)) hP hD hS hA [] [0, 1, 2, 3, 4, 5, 6, 7, 8, 9, 10, 11, 12] rfl rfl (by decide) (by decide) (va_runS (own := RMo) (As := [.int (((FMo_address (mA xk.toNatClampNeg) mn me mf mL) - (mf xk.toNatClampNeg)) - 4), .int (-2048), .int 2046]) (rest := []) ⟨hx, hb, hml, hown, hw⟩ (k_Mo_outside l D ad cI cS (((FMo_address (mA xk.toNatClampNeg) mn me mf mL) - (mf xk.toNatClampNeg)) - 4) (-2048) 2046 H.size) ⟨pq_cwB 3 hw wd_187 wd_186 wd_185 rfl rfl (by decide +kernel) ⟨Nat.le_of_ble_eq_true rfl, Nat.le_of_ble_eq_true rfl⟩, hw _ wd_188⟩ (pq_preS hE (hP.sub [] rfl) (hD.sub [] (by decide) rfl)) rfl rfl hl.1 rfl (lv_room (Nat.le_of_ble_eq_true rfl)) dMo_halfOf_313 ⟨Nat.zero_le _, Nat.zero_le _⟩) (fun H locs hP hD hS => ?_)
      have hP : va_P D vwCl (wM ad cI cS mq mn me mo mt mx mp mz mu vn vz vc vv vp ve mK mA mB mC mf ml mc mL md mi mr mw) H := hP.sub [0, 1, 2, 3, 4, 5, 6, 7, 8, 9, 10, 11, 12] rfl
      have hD : va_D _ (wM ad cI cS mq mn me mo mt mx mp mz mu vn vz vc vv vp ve mK mA mB mC mf ml mc mL md mi mr mw) := hD.sub [0, 1, 2, 3, 4, 5, 6, 7, 8, 9, 10, 11, 12] (by decide) rfl
      refine lv_if_eq (tgt := 323) hx hb dMo_halfOf_316 (by decide) (fun h15 => ?_) (fun h15 => ?_)
      · refine lv_ldc hx hb hown (hw _ wd_229) dMo_halfOf_323 ?_
        refine lv_iload hx hb dMo_halfOf_325 (lv_at hl 0 rfl) ?_
        refine lv_iconst (v := 2) hx hb dMo_halfOf_327 (by first | rfl | decide) ?_
        refine lv_idiv hx hb dMo_halfOf_328 (by decide) ?_
        refine lv_sipush (v := 2048) hx hb dMo_halfOf_329 (by first | rfl | decide) ?_
        refine lv_iadd hx hb dMo_halfOf_332 ?_
        refine lv_sipush (v := 2048) hx hb dMo_halfOf_333 (by first | rfl | decide) ?_
        refine lv_irem hx hb dMo_halfOf_336 (by decide) ?_
        refine lv_iadd hx hb dMo_halfOf_337 ?_
        have e9 : FMo_halfOf xk mn me mK mA mB mC mf mc mL = 57344 + ((((((FMo_address (mA xk.toNatClampNeg) mn me mf mL) - (mf xk.toNatClampNeg)) - 4) / 2) + 2048) - (((((FMo_address (mA xk.toNatClampNeg) mn me mf mL) - (mf xk.toNatClampNeg)) - 4) / 2) + 2048) / 2048 * 2048) := by simp only [FMo_halfOf, if_neg h1, if_neg h2, if_neg h3, if_neg h4, if_neg h5, if_neg h6, if_neg h7, if_neg h8, if_neg h9, if_neg h10, if_pos h12, if_neg h13, if_pos h15]
        exact W.iret (v := 57344 + ((((((FMo_address (mA xk.toNatClampNeg) mn me mf mL) - (mf xk.toNatClampNeg)) - 4) / 2) + 2048) - (((((FMo_address (mA xk.toNatClampNeg) mn me mf mL) - (mf xk.toNatClampNeg)) - 4) / 2) + 2048) / 2048 * 2048)) hx hb hr (fun t ht hW => ⟨⟨57344 + ((((((FMo_address (mA xk.toNatClampNeg) mn me mf mL) - (mf xk.toNatClampNeg)) - 4) / 2) + 2048) - (((((FMo_address (mA xk.toNatClampNeg) mn me mf mL) - (mf xk.toNatClampNeg)) - 4) / 2) + 2048) / 2048 * 2048), (), rfl, (by show _ = _; rw [e9]), by rw [ht]; exact hP, hD⟩, hS.F ht⟩) hS.2.2 dMo_halfOf_338
      · refine lv_iconst (v := (-1)) hx hb dMo_halfOf_319 (by first | rfl | decide) ?_
        refine lv_goto (tgt := 338) hx hb dMo_halfOf_320 (by decide) ?_
        have e9 : FMo_halfOf xk mn me mK mA mB mC mf mc mL = (-1) := by simp only [FMo_halfOf, if_neg h1, if_neg h2, if_neg h3, if_neg h4, if_neg h5, if_neg h6, if_neg h7, if_neg h8, if_neg h9, if_neg h10, if_pos h12, if_neg h13, if_neg h15]
        exact W.iret (v := (-1)) hx hb hr (fun t ht hW => ⟨⟨(-1), (), rfl, (by show _ = _; rw [e9]), by rw [ht]; exact hP, hD⟩, hS.F ht⟩) hS.2.2 dMo_halfOf_338
    · refine lv_iconst (v := (-1)) hx hb dMo_halfOf_276 (by first | rfl | decide) ?_
      have e9 : FMo_halfOf xk mn me mK mA mB mC mf mc mL = (-1) := by simp only [FMo_halfOf, if_neg h1, if_neg h2, if_neg h3, if_neg h4, if_neg h5, if_neg h6, if_neg h7, if_neg h8, if_neg h9, if_neg h10, if_pos h12, if_pos h13]
      exact W.iret (v := (-1)) hx hb hr (fun t ht hW => ⟨⟨(-1), (), rfl, (by show _ = _; rw [e9]), by rw [ht]; exact hP, hD⟩, hS.F ht⟩) hS.2.2 dMo_halfOf_277
  by_cases h16 : (mK xk.toNatClampNeg) = 12
  · refine lv_tableIn (off := 238) (tgt := 266) hx hb dMo_halfOf_28 (by rw [h16]; decide) (by rw [h16]; decide) (by rw [h16]; rfl) (by decide) ?_
    refine lv_aload_n hx hb dMo_halfOf_266 rfl (lv_at hl 3 rfl) ?_
    refine va_get (D := D) (ci := 5) (v := .ref (ad 25)) (C := RMo) (T := TMo) (N := 27) hx hb hw pinMo hown hE.1 hP 0 rfl rfl 9 (by decide) (hw _ wd_264) (fun _ h9 => h9) rfl dMo_halfOf_267 ?_
    refine lv_iload_n hx hb dMo_halfOf_270 rfl (lv_at hl 2 rfl) ?_
    refine va_iald hx hb hE.1 hP 8 0 rfl rfl (by first | exact pq_kaE hka (by assumption) (by decide) | exact pq_kaN hka (by assumption) (by assumption) (by assumption) (by assumption) (by assumption) (by assumption) (by assumption) (by assumption) (by assumption) (by assumption) (by assumption)) dMo_halfOf_271 ?_
    refine lv_iconst (v := (-1)) hx hb dMo_halfOf_272 (by first | rfl | decide) ?_
    refine lv_icmp_ne (tgt := 278) hx hb dMo_halfOf_273 (by decide) (fun h17 => ?_) (fun h17 => ?_)
    · refine lv_aload_n hx hb dMo_halfOf_278 rfl (lv_at hl 3 rfl) ?_
      refine lv_iload_n hx hb dMo_halfOf_279 rfl (lv_at hl 2 rfl) ?_
      refine pq_calli (fr := (FMo_address (mA xk.toNatClampNeg) mn me mf mL)) (wc := (wM ad cI cS mq mn me mo mt mx mp mz mu vn vz vc vv vp ve mK mA mB mC mf ml mc mL md mi mr mw)) (wr := ([] : List Nat).filterMap (fun i => (wM ad cI cS mq mn me mo mt mx mp mz mu vn vz vc vv vp ve mK mA mB mC mf ml mc mL md mi mr mw)[i]?)) hP hD hS hA [0, 1, 2, 3, 4, 5, 6, 7, 8, 9, 10, 11, 12] [] rfl rfl (by decide) (by decide) (va_runV (own := RMo) (C := RMo) (As := [.int (mA xk.toNatClampNeg)]) (rest := []) ⟨hx, hb, hml, hown, hw⟩ (k_Mo_address l D ad cI cS (mA xk.toNatClampNeg) mq mn me mo mt mx mp mz mu vn vz vc vv vp ve mK mA mB mC mf ml mc mL md mi mr mw (by first | exact pq_kaE hka (by assumption) (by decide) | exact pq_kaN hka (by assumption) (by assumption) (by assumption) (by assumption) (by assumption) (by assumption) (by assumption) (by assumption) (by assumption) (by assumption) (by assumption)) hmn0 hmn1 (hlb _ (by assumption)) s.heap.size) ⟨pq_cwB 1 hw wd_304 wd_186 wd_303 rfl rfl (by decide +kernel) ⟨Nat.le_of_ble_eq_true rfl, Nat.le_of_ble_eq_true rfl⟩, hw _ wd_305, hw _ wd_306⟩ (pq_preV (ci := 5) (C := RMo) (T := TMo) (N := 27) hE (hP.sub [0, 1, 2, 3, 4, 5, 6, 7, 8, 9, 10, 11, 12] rfl) (hD.sub [0, 1, 2, 3, 4, 5, 6, 7, 8, 9, 10, 11, 12] (by decide) rfl) rfl 0 rfl) rfl rfl hl.1 rfl (lv_room (Nat.le_of_ble_eq_true rfl)) dMo_halfOf_280 ⟨Nat.zero_le _, Nat.zero_le _⟩) (fun H locs hP hD hS => ?_)
      have hP : va_P D vwCl (wM ad cI cS mq mn me mo mt mx mp mz mu vn vz vc vv vp ve mK mA mB mC mf ml mc mL md mi mr mw) H := hP.sub [0, 1, 2, 3, 4, 5, 6, 7, 8, 9, 10, 11, 12] rfl
      have hD : va_D _ (wM ad cI cS mq mn me mo mt mx mp mz mu vn vz vc vv vp ve mK mA mB mC mf ml mc mL md mi mr mw) := hD.sub [0, 1, 2, 3, 4, 5, 6, 7, 8, 9, 10, 11, 12] (by decide) rfl
      refine lv_aload_n hx hb dMo_halfOf_283 rfl (lv_at hl 3 rfl) ?_
      refine va_get (D := D) (ci := 5) (v := .ref (ad 22)) (C := RMo) (T := TMo) (N := 27) hx hb hw pinMo hown hE.1 hP 0 rfl rfl 6 (by decide) (hw _ wd_277) (fun _ h9 => h9) rfl dMo_halfOf_284 ?_
      refine lv_iload_n hx hb dMo_halfOf_287 rfl (lv_at hl 4 rfl) ?_
      refine va_iald hx hb hE.1 hP 5 0 rfl rfl hxk dMo_halfOf_288 ?_
      refine lv_isub hx hb dMo_halfOf_289 ?_
      refine lv_iconst (v := 4) hx hb dMo_halfOf_290 (by first | rfl | decide) ?_
      refine lv_isub hx hb dMo_halfOf_291 ?_
      refine lv_istore (lv' := [(5, .int (((FMo_address (mA xk.toNatClampNeg) mn me mf mL) - (mf xk.toNatClampNeg)) - 4)), (4, .int (mC xk.toNatClampNeg)), (3, .int (mB xk.toNatClampNeg)), (2, .int (mA xk.toNatClampNeg)), (0, .ref (ad 17)), (1, .int xk)]) hx hb dMo_halfOf_292 hl (by decide) rfl (fun ls hl => ?_)
      refine lv_aload_n hx hb dMo_halfOf_294 rfl (lv_at hl 4 rfl) ?_
      refine va_get (D := D) (ci := 5) (v := .ref (ad 18)) (C := RMo) (T := TMo) (N := 27) hx hb hw pinMo hown hE.1 hP 0 rfl rfl 2 (by decide) (hw _ wd_273) (fun _ h9 => h9) rfl dMo_halfOf_295 ?_
      refine lv_iload_n hx hb dMo_halfOf_298 rfl (lv_at hl 5 rfl) ?_
      refine va_iald hx hb hE.1 hP 1 0 rfl rfl hxk dMo_halfOf_299 ?_
      refine lv_bipush (v := 11) hx hb dMo_halfOf_300 (by first | rfl | decide) ?_
      refine lv_icmp_ne (tgt := 339) hx hb dMo_halfOf_302 (by decide) (fun _ => ?_) (fun h9 => absurd h9 h12)
      refine lv_iload hx hb dMo_halfOf_339 (lv_at hl 0 rfl) ?_
      refine lv_sipush (v := (-256)) hx hb dMo_halfOf_341 (by first | rfl | decide) ?_
      refine lv_sipush (v := 254) hx hb dMo_halfOf_344 (by first | rfl | decide) ?_
      refine pq_calli (fr := (FMo_outside (((FMo_address (mA xk.toNatClampNeg) mn me mf mL) - (mf xk.toNatClampNeg)) - 4) (-256) 254)) (wc := (wN ad cI cS)) (wr := ([0, 1, 2, 3, 4, 5, 6, 7, 8, 9, 10, 11, 12] : List Nat).filterMap (fun i => (wM ad cI cS mq mn me mo mt mx mp mz mu vn vz vc vv vp ve mK mA mB mC mf ml mc mL md mi mr mw)[i]?)) hP hD hS hA [] [0, 1, 2, 3, 4, 5, 6, 7, 8, 9, 10, 11, 12] rfl rfl (by decide) (by decide) (va_runS (own := RMo) (As := [.int (((FMo_address (mA xk.toNatClampNeg) mn me mf mL) - (mf xk.toNatClampNeg)) - 4), .int (-256), .int 254]) (rest := []) ⟨hx, hb, hml, hown, hw⟩ (k_Mo_outside l D ad cI cS (((FMo_address (mA xk.toNatClampNeg) mn me mf mL) - (mf xk.toNatClampNeg)) - 4) (-256) 254 H.size) ⟨pq_cwB 3 hw wd_187 wd_186 wd_185 rfl rfl (by decide +kernel) ⟨Nat.le_of_ble_eq_true rfl, Nat.le_of_ble_eq_true rfl⟩, hw _ wd_188⟩ (pq_preS hE (hP.sub [] rfl) (hD.sub [] (by decide) rfl)) rfl rfl hl.1 rfl (lv_room (Nat.le_of_ble_eq_true rfl)) dMo_halfOf_347 ⟨Nat.zero_le _, Nat.zero_le _⟩) (fun H locs hP hD hS => ?_)
      have hP : va_P D vwCl (wM ad cI cS mq mn me mo mt mx mp mz mu vn vz vc vv vp ve mK mA mB mC mf ml mc mL md mi mr mw) H := hP.sub [0, 1, 2, 3, 4, 5, 6, 7, 8, 9, 10, 11, 12] rfl
      have hD : va_D _ (wM ad cI cS mq mn me mo mt mx mp mz mu vn vz vc vv vp ve mK mA mB mC mf ml mc mL md mi mr mw) := hD.sub [0, 1, 2, 3, 4, 5, 6, 7, 8, 9, 10, 11, 12] (by decide) rfl
      refine lv_if_eq (tgt := 357) hx hb dMo_halfOf_350 (by decide) (fun h19 => ?_) (fun h19 => ?_)
      · refine lv_ldc hx hb hown (hw _ wd_235) dMo_halfOf_357 ?_
        refine lv_sipush (v := 256) hx hb dMo_halfOf_359 (by first | rfl | decide) ?_
        refine lv_iload hx hb dMo_halfOf_362 (lv_at hl 1 rfl) ?_
        refine lv_imul hx hb dMo_halfOf_364 ?_
        refine lv_iadd hx hb dMo_halfOf_365 ?_
        refine lv_iload hx hb dMo_halfOf_366 (lv_at hl 0 rfl) ?_
        refine lv_iconst (v := 2) hx hb dMo_halfOf_368 (by first | rfl | decide) ?_
        refine lv_idiv hx hb dMo_halfOf_369 (by decide) ?_
        refine lv_sipush (v := 256) hx hb dMo_halfOf_370 (by first | rfl | decide) ?_
        refine lv_iadd hx hb dMo_halfOf_373 ?_
        refine lv_sipush (v := 256) hx hb dMo_halfOf_374 (by first | rfl | decide) ?_
        refine lv_irem hx hb dMo_halfOf_377 (by decide) ?_
        refine lv_iadd hx hb dMo_halfOf_378 ?_
        have e9 : FMo_halfOf xk mn me mK mA mB mC mf mc mL = (53248 + (256 * (mC xk.toNatClampNeg))) + ((((((FMo_address (mA xk.toNatClampNeg) mn me mf mL) - (mf xk.toNatClampNeg)) - 4) / 2) + 256) - (((((FMo_address (mA xk.toNatClampNeg) mn me mf mL) - (mf xk.toNatClampNeg)) - 4) / 2) + 256) / 256 * 256) := by simp only [FMo_halfOf, if_neg h1, if_neg h2, if_neg h3, if_neg h4, if_neg h5, if_neg h6, if_neg h7, if_neg h8, if_neg h9, if_neg h10, if_neg h12, if_pos h16, if_neg h17, if_pos h19]
        exact W.iret (v := (53248 + (256 * (mC xk.toNatClampNeg))) + ((((((FMo_address (mA xk.toNatClampNeg) mn me mf mL) - (mf xk.toNatClampNeg)) - 4) / 2) + 256) - (((((FMo_address (mA xk.toNatClampNeg) mn me mf mL) - (mf xk.toNatClampNeg)) - 4) / 2) + 256) / 256 * 256)) hx hb hr (fun t ht hW => ⟨⟨(53248 + (256 * (mC xk.toNatClampNeg))) + ((((((FMo_address (mA xk.toNatClampNeg) mn me mf mL) - (mf xk.toNatClampNeg)) - 4) / 2) + 256) - (((((FMo_address (mA xk.toNatClampNeg) mn me mf mL) - (mf xk.toNatClampNeg)) - 4) / 2) + 256) / 256 * 256), (), rfl, (by show _ = _; rw [e9]), by rw [ht]; exact hP, hD⟩, hS.F ht⟩) hS.2.2 dMo_halfOf_379
      · refine lv_iconst (v := (-1)) hx hb dMo_halfOf_353 (by first | rfl | decide) ?_
        refine lv_goto (tgt := 379) hx hb dMo_halfOf_354 (by decide) ?_
        have e9 : FMo_halfOf xk mn me mK mA mB mC mf mc mL = (-1) := by simp only [FMo_halfOf, if_neg h1, if_neg h2, if_neg h3, if_neg h4, if_neg h5, if_neg h6, if_neg h7, if_neg h8, if_neg h9, if_neg h10, if_neg h12, if_pos h16, if_neg h17, if_neg h19]
        exact W.iret (v := (-1)) hx hb hr (fun t ht hW => ⟨⟨(-1), (), rfl, (by show _ = _; rw [e9]), by rw [ht]; exact hP, hD⟩, hS.F ht⟩) hS.2.2 dMo_halfOf_379
    · refine lv_iconst (v := (-1)) hx hb dMo_halfOf_276 (by first | rfl | decide) ?_
      have e9 : FMo_halfOf xk mn me mK mA mB mC mf mc mL = (-1) := by simp only [FMo_halfOf, if_neg h1, if_neg h2, if_neg h3, if_neg h4, if_neg h5, if_neg h6, if_neg h7, if_neg h8, if_neg h9, if_neg h10, if_neg h12, if_pos h16, if_pos h17]
      exact W.iret (v := (-1)) hx hb hr (fun t ht hW => ⟨⟨(-1), (), rfl, (by show _ = _; rw [e9]), by rw [ht]; exact hP, hD⟩, hS.F ht⟩) hS.2.2 dMo_halfOf_277
  by_cases h20 : (mK xk.toNatClampNeg) = 13
  · refine lv_tableIn (off := 238) (tgt := 266) hx hb dMo_halfOf_28 (by rw [h20]; decide) (by rw [h20]; decide) (by rw [h20]; rfl) (by decide) ?_
    refine lv_aload_n hx hb dMo_halfOf_266 rfl (lv_at hl 3 rfl) ?_
    refine va_get (D := D) (ci := 5) (v := .ref (ad 25)) (C := RMo) (T := TMo) (N := 27) hx hb hw pinMo hown hE.1 hP 0 rfl rfl 9 (by decide) (hw _ wd_264) (fun _ h9 => h9) rfl dMo_halfOf_267 ?_
    refine lv_iload_n hx hb dMo_halfOf_270 rfl (lv_at hl 2 rfl) ?_
    refine va_iald hx hb hE.1 hP 8 0 rfl rfl (by first | exact pq_kaE hka (by assumption) (by decide) | exact pq_kaN hka (by assumption) (by assumption) (by assumption) (by assumption) (by assumption) (by assumption) (by assumption) (by assumption) (by assumption) (by assumption) (by assumption)) dMo_halfOf_271 ?_
    refine lv_iconst (v := (-1)) hx hb dMo_halfOf_272 (by first | rfl | decide) ?_
    refine lv_icmp_ne (tgt := 278) hx hb dMo_halfOf_273 (by decide) (fun h21 => ?_) (fun h21 => ?_)
    · refine lv_aload_n hx hb dMo_halfOf_278 rfl (lv_at hl 3 rfl) ?_
      refine lv_iload_n hx hb dMo_halfOf_279 rfl (lv_at hl 2 rfl) ?_
      refine pq_calli (fr := (FMo_address (mA xk.toNatClampNeg) mn me mf mL)) (wc := (wM ad cI cS mq mn me mo mt mx mp mz mu vn vz vc vv vp ve mK mA mB mC mf ml mc mL md mi mr mw)) (wr := ([] : List Nat).filterMap (fun i => (wM ad cI cS mq mn me mo mt mx mp mz mu vn vz vc vv vp ve mK mA mB mC mf ml mc mL md mi mr mw)[i]?)) hP hD hS hA [0, 1, 2, 3, 4, 5, 6, 7, 8, 9, 10, 11, 12] [] rfl rfl (by decide) (by decide) (va_runV (own := RMo) (C := RMo) (As := [.int (mA xk.toNatClampNeg)]) (rest := []) ⟨hx, hb, hml, hown, hw⟩ (k_Mo_address l D ad cI cS (mA xk.toNatClampNeg) mq mn me mo mt mx mp mz mu vn vz vc vv vp ve mK mA mB mC mf ml mc mL md mi mr mw (by first | exact pq_kaE hka (by assumption) (by decide) | exact pq_kaN hka (by assumption) (by assumption) (by assumption) (by assumption) (by assumption) (by assumption) (by assumption) (by assumption) (by assumption) (by assumption) (by assumption)) hmn0 hmn1 (hlb _ (by assumption)) s.heap.size) ⟨pq_cwB 1 hw wd_304 wd_186 wd_303 rfl rfl (by decide +kernel) ⟨Nat.le_of_ble_eq_true rfl, Nat.le_of_ble_eq_true rfl⟩, hw _ wd_305, hw _ wd_306⟩ (pq_preV (ci := 5) (C := RMo) (T := TMo) (N := 27) hE (hP.sub [0, 1, 2, 3, 4, 5, 6, 7, 8, 9, 10, 11, 12] rfl) (hD.sub [0, 1, 2, 3, 4, 5, 6, 7, 8, 9, 10, 11, 12] (by decide) rfl) rfl 0 rfl) rfl rfl hl.1 rfl (lv_room (Nat.le_of_ble_eq_true rfl)) dMo_halfOf_280 ⟨Nat.zero_le _, Nat.zero_le _⟩) (fun H locs hP hD hS => ?_)
      have hP : va_P D vwCl (wM ad cI cS mq mn me mo mt mx mp mz mu vn vz vc vv vp ve mK mA mB mC mf ml mc mL md mi mr mw) H := hP.sub [0, 1, 2, 3, 4, 5, 6, 7, 8, 9, 10, 11, 12] rfl
      have hD : va_D _ (wM ad cI cS mq mn me mo mt mx mp mz mu vn vz vc vv vp ve mK mA mB mC mf ml mc mL md mi mr mw) := hD.sub [0, 1, 2, 3, 4, 5, 6, 7, 8, 9, 10, 11, 12] (by decide) rfl
      refine lv_aload_n hx hb dMo_halfOf_283 rfl (lv_at hl 3 rfl) ?_
      refine va_get (D := D) (ci := 5) (v := .ref (ad 22)) (C := RMo) (T := TMo) (N := 27) hx hb hw pinMo hown hE.1 hP 0 rfl rfl 6 (by decide) (hw _ wd_277) (fun _ h9 => h9) rfl dMo_halfOf_284 ?_
      refine lv_iload_n hx hb dMo_halfOf_287 rfl (lv_at hl 4 rfl) ?_
      refine va_iald hx hb hE.1 hP 5 0 rfl rfl hxk dMo_halfOf_288 ?_
      refine lv_isub hx hb dMo_halfOf_289 ?_
      refine lv_iconst (v := 4) hx hb dMo_halfOf_290 (by first | rfl | decide) ?_
      refine lv_isub hx hb dMo_halfOf_291 ?_
      refine lv_istore (lv' := [(5, .int (((FMo_address (mA xk.toNatClampNeg) mn me mf mL) - (mf xk.toNatClampNeg)) - 4)), (4, .int (mC xk.toNatClampNeg)), (3, .int (mB xk.toNatClampNeg)), (2, .int (mA xk.toNatClampNeg)), (0, .ref (ad 17)), (1, .int xk)]) hx hb dMo_halfOf_292 hl (by decide) rfl (fun ls hl => ?_)
      refine lv_aload_n hx hb dMo_halfOf_294 rfl (lv_at hl 4 rfl) ?_
      refine va_get (D := D) (ci := 5) (v := .ref (ad 18)) (C := RMo) (T := TMo) (N := 27) hx hb hw pinMo hown hE.1 hP 0 rfl rfl 2 (by decide) (hw _ wd_273) (fun _ h9 => h9) rfl dMo_halfOf_295 ?_
      refine lv_iload_n hx hb dMo_halfOf_298 rfl (lv_at hl 5 rfl) ?_
      refine va_iald hx hb hE.1 hP 1 0 rfl rfl hxk dMo_halfOf_299 ?_
      refine lv_bipush (v := 11) hx hb dMo_halfOf_300 (by first | rfl | decide) ?_
      refine lv_icmp_ne (tgt := 339) hx hb dMo_halfOf_302 (by decide) (fun _ => ?_) (fun h9 => absurd h9 h12)
      refine lv_iload hx hb dMo_halfOf_339 (lv_at hl 0 rfl) ?_
      refine lv_sipush (v := (-256)) hx hb dMo_halfOf_341 (by first | rfl | decide) ?_
      refine lv_sipush (v := 254) hx hb dMo_halfOf_344 (by first | rfl | decide) ?_
      refine pq_calli (fr := (FMo_outside (((FMo_address (mA xk.toNatClampNeg) mn me mf mL) - (mf xk.toNatClampNeg)) - 4) (-256) 254)) (wc := (wN ad cI cS)) (wr := ([0, 1, 2, 3, 4, 5, 6, 7, 8, 9, 10, 11, 12] : List Nat).filterMap (fun i => (wM ad cI cS mq mn me mo mt mx mp mz mu vn vz vc vv vp ve mK mA mB mC mf ml mc mL md mi mr mw)[i]?)) hP hD hS hA [] [0, 1, 2, 3, 4, 5, 6, 7, 8, 9, 10, 11, 12] rfl rfl (by decide) (by decide) (va_runS (own := RMo) (As := [.int (((FMo_address (mA xk.toNatClampNeg) mn me mf mL) - (mf xk.toNatClampNeg)) - 4), .int (-256), .int 254]) (rest := []) ⟨hx, hb, hml, hown, hw⟩ (k_Mo_outside l D ad cI cS (((FMo_address (mA xk.toNatClampNeg) mn me mf mL) - (mf xk.toNatClampNeg)) - 4) (-256) 254 H.size) ⟨pq_cwB 3 hw wd_187 wd_186 wd_185 rfl rfl (by decide +kernel) ⟨Nat.le_of_ble_eq_true rfl, Nat.le_of_ble_eq_true rfl⟩, hw _ wd_188⟩ (pq_preS hE (hP.sub [] rfl) (hD.sub [] (by decide) rfl)) rfl rfl hl.1 rfl (lv_room (Nat.le_of_ble_eq_true rfl)) dMo_halfOf_347 ⟨Nat.zero_le _, Nat.zero_le _⟩) (fun H locs hP hD hS => ?_)
      have hP : va_P D vwCl (wM ad cI cS mq mn me mo mt mx mp mz mu vn vz vc vv vp ve mK mA mB mC mf ml mc mL md mi mr mw) H := hP.sub [0, 1, 2, 3, 4, 5, 6, 7, 8, 9, 10, 11, 12] rfl
      have hD : va_D _ (wM ad cI cS mq mn me mo mt mx mp mz mu vn vz vc vv vp ve mK mA mB mC mf ml mc mL md mi mr mw) := hD.sub [0, 1, 2, 3, 4, 5, 6, 7, 8, 9, 10, 11, 12] (by decide) rfl
      refine lv_if_eq (tgt := 357) hx hb dMo_halfOf_350 (by decide) (fun h23 => ?_) (fun h23 => ?_)
      · refine lv_ldc hx hb hown (hw _ wd_235) dMo_halfOf_357 ?_
        refine lv_sipush (v := 256) hx hb dMo_halfOf_359 (by first | rfl | decide) ?_
        refine lv_iload hx hb dMo_halfOf_362 (lv_at hl 1 rfl) ?_
        refine lv_imul hx hb dMo_halfOf_364 ?_
        refine lv_iadd hx hb dMo_halfOf_365 ?_
        refine lv_iload hx hb dMo_halfOf_366 (lv_at hl 0 rfl) ?_
        refine lv_iconst (v := 2) hx hb dMo_halfOf_368 (by first | rfl | decide) ?_
        refine lv_idiv hx hb dMo_halfOf_369 (by decide) ?_
        refine lv_sipush (v := 256) hx hb dMo_halfOf_370 (by first | rfl | decide) ?_
        refine lv_iadd hx hb dMo_halfOf_373 ?_
        refine lv_sipush (v := 256) hx hb dMo_halfOf_374 (by first | rfl | decide) ?_
        refine lv_irem hx hb dMo_halfOf_377 (by decide) ?_
        refine lv_iadd hx hb dMo_halfOf_378 ?_
        have e9 : FMo_halfOf xk mn me mK mA mB mC mf mc mL = (53248 + (256 * (mC xk.toNatClampNeg))) + ((((((FMo_address (mA xk.toNatClampNeg) mn me mf mL) - (mf xk.toNatClampNeg)) - 4) / 2) + 256) - (((((FMo_address (mA xk.toNatClampNeg) mn me mf mL) - (mf xk.toNatClampNeg)) - 4) / 2) + 256) / 256 * 256) := by simp only [FMo_halfOf, if_neg h1, if_neg h2, if_neg h3, if_neg h4, if_neg h5, if_neg h6, if_neg h7, if_neg h8, if_neg h9, if_neg h10, if_neg h12, if_neg h16, if_pos h20, if_neg h21, if_pos h23]
        exact W.iret (v := (53248 + (256 * (mC xk.toNatClampNeg))) + ((((((FMo_address (mA xk.toNatClampNeg) mn me mf mL) - (mf xk.toNatClampNeg)) - 4) / 2) + 256) - (((((FMo_address (mA xk.toNatClampNeg) mn me mf mL) - (mf xk.toNatClampNeg)) - 4) / 2) + 256) / 256 * 256)) hx hb hr (fun t ht hW => ⟨⟨(53248 + (256 * (mC xk.toNatClampNeg))) + ((((((FMo_address (mA xk.toNatClampNeg) mn me mf mL) - (mf xk.toNatClampNeg)) - 4) / 2) + 256) - (((((FMo_address (mA xk.toNatClampNeg) mn me mf mL) - (mf xk.toNatClampNeg)) - 4) / 2) + 256) / 256 * 256), (), rfl, (by show _ = _; rw [e9]), by rw [ht]; exact hP, hD⟩, hS.F ht⟩) hS.2.2 dMo_halfOf_379
      · refine lv_iconst (v := (-1)) hx hb dMo_halfOf_353 (by first | rfl | decide) ?_
        refine lv_goto (tgt := 379) hx hb dMo_halfOf_354 (by decide) ?_
        have e9 : FMo_halfOf xk mn me mK mA mB mC mf mc mL = (-1) := by simp only [FMo_halfOf, if_neg h1, if_neg h2, if_neg h3, if_neg h4, if_neg h5, if_neg h6, if_neg h7, if_neg h8, if_neg h9, if_neg h10, if_neg h12, if_neg h16, if_pos h20, if_neg h21, if_neg h23]
        exact W.iret (v := (-1)) hx hb hr (fun t ht hW => ⟨⟨(-1), (), rfl, (by show _ = _; rw [e9]), by rw [ht]; exact hP, hD⟩, hS.F ht⟩) hS.2.2 dMo_halfOf_379
    · refine lv_iconst (v := (-1)) hx hb dMo_halfOf_276 (by first | rfl | decide) ?_
      have e9 : FMo_halfOf xk mn me mK mA mB mC mf mc mL = (-1) := by simp only [FMo_halfOf, if_neg h1, if_neg h2, if_neg h3, if_neg h4, if_neg h5, if_neg h6, if_neg h7, if_neg h8, if_neg h9, if_neg h10, if_neg h12, if_neg h16, if_pos h20, if_pos h21]
      exact W.iret (v := (-1)) hx hb hr (fun t ht hW => ⟨⟨(-1), (), rfl, (by show _ = _; rw [e9]), by rw [ht]; exact hP, hD⟩, hS.F ht⟩) hS.2.2 dMo_halfOf_277
  by_cases h24 : (mK xk.toNatClampNeg) = 14
  · refine lv_tableIn (off := 238) (tgt := 266) hx hb dMo_halfOf_28 (by rw [h24]; decide) (by rw [h24]; decide) (by rw [h24]; rfl) (by decide) ?_
    refine lv_aload_n hx hb dMo_halfOf_266 rfl (lv_at hl 3 rfl) ?_
    refine va_get (D := D) (ci := 5) (v := .ref (ad 25)) (C := RMo) (T := TMo) (N := 27) hx hb hw pinMo hown hE.1 hP 0 rfl rfl 9 (by decide) (hw _ wd_264) (fun _ h9 => h9) rfl dMo_halfOf_267 ?_
    refine lv_iload_n hx hb dMo_halfOf_270 rfl (lv_at hl 2 rfl) ?_
    refine va_iald hx hb hE.1 hP 8 0 rfl rfl (by first | exact pq_kaE hka (by assumption) (by decide) | exact pq_kaN hka (by assumption) (by assumption) (by assumption) (by assumption) (by assumption) (by assumption) (by assumption) (by assumption) (by assumption) (by assumption) (by assumption)) dMo_halfOf_271 ?_
    refine lv_iconst (v := (-1)) hx hb dMo_halfOf_272 (by first | rfl | decide) ?_
    refine lv_icmp_ne (tgt := 278) hx hb dMo_halfOf_273 (by decide) (fun h25 => ?_) (fun h25 => ?_)
    · refine lv_aload_n hx hb dMo_halfOf_278 rfl (lv_at hl 3 rfl) ?_
      refine lv_iload_n hx hb dMo_halfOf_279 rfl (lv_at hl 2 rfl) ?_
      refine pq_calli (fr := (FMo_address (mA xk.toNatClampNeg) mn me mf mL)) (wc := (wM ad cI cS mq mn me mo mt mx mp mz mu vn vz vc vv vp ve mK mA mB mC mf ml mc mL md mi mr mw)) (wr := ([] : List Nat).filterMap (fun i => (wM ad cI cS mq mn me mo mt mx mp mz mu vn vz vc vv vp ve mK mA mB mC mf ml mc mL md mi mr mw)[i]?)) hP hD hS hA [0, 1, 2, 3, 4, 5, 6, 7, 8, 9, 10, 11, 12] [] rfl rfl (by decide) (by decide) (va_runV (own := RMo) (C := RMo) (As := [.int (mA xk.toNatClampNeg)]) (rest := []) ⟨hx, hb, hml, hown, hw⟩ (k_Mo_address l D ad cI cS (mA xk.toNatClampNeg) mq mn me mo mt mx mp mz mu vn vz vc vv vp ve mK mA mB mC mf ml mc mL md mi mr mw (by first | exact pq_kaE hka (by assumption) (by decide) | exact pq_kaN hka (by assumption) (by assumption) (by assumption) (by assumption) (by assumption) (by assumption) (by assumption) (by assumption) (by assumption) (by assumption) (by assumption)) hmn0 hmn1 (hlb _ (by assumption)) s.heap.size) ⟨pq_cwB 1 hw wd_304 wd_186 wd_303 rfl rfl (by decide +kernel) ⟨Nat.le_of_ble_eq_true rfl, Nat.le_of_ble_eq_true rfl⟩, hw _ wd_305, hw _ wd_306⟩ (pq_preV (ci := 5) (C := RMo) (T := TMo) (N := 27) hE (hP.sub [0, 1, 2, 3, 4, 5, 6, 7, 8, 9, 10, 11, 12] rfl) (hD.sub [0, 1, 2, 3, 4, 5, 6, 7, 8, 9, 10, 11, 12] (by decide) rfl) rfl 0 rfl) rfl rfl hl.1 rfl (lv_room (Nat.le_of_ble_eq_true rfl)) dMo_halfOf_280 ⟨Nat.zero_le _, Nat.zero_le _⟩) (fun H locs hP hD hS => ?_)
      have hP : va_P D vwCl (wM ad cI cS mq mn me mo mt mx mp mz mu vn vz vc vv vp ve mK mA mB mC mf ml mc mL md mi mr mw) H := hP.sub [0, 1, 2, 3, 4, 5, 6, 7, 8, 9, 10, 11, 12] rfl
      have hD : va_D _ (wM ad cI cS mq mn me mo mt mx mp mz mu vn vz vc vv vp ve mK mA mB mC mf ml mc mL md mi mr mw) := hD.sub [0, 1, 2, 3, 4, 5, 6, 7, 8, 9, 10, 11, 12] (by decide) rfl
      refine lv_aload_n hx hb dMo_halfOf_283 rfl (lv_at hl 3 rfl) ?_
      refine va_get (D := D) (ci := 5) (v := .ref (ad 22)) (C := RMo) (T := TMo) (N := 27) hx hb hw pinMo hown hE.1 hP 0 rfl rfl 6 (by decide) (hw _ wd_277) (fun _ h9 => h9) rfl dMo_halfOf_284 ?_
      refine lv_iload_n hx hb dMo_halfOf_287 rfl (lv_at hl 4 rfl) ?_
      refine va_iald hx hb hE.1 hP 5 0 rfl rfl hxk dMo_halfOf_288 ?_
      refine lv_isub hx hb dMo_halfOf_289 ?_
      refine lv_iconst (v := 4) hx hb dMo_halfOf_290 (by first | rfl | decide) ?_
      refine lv_isub hx hb dMo_halfOf_291 ?_
      refine lv_istore (lv' := [(5, .int (((FMo_address (mA xk.toNatClampNeg) mn me mf mL) - (mf xk.toNatClampNeg)) - 4)), (4, .int (mC xk.toNatClampNeg)), (3, .int (mB xk.toNatClampNeg)), (2, .int (mA xk.toNatClampNeg)), (0, .ref (ad 17)), (1, .int xk)]) hx hb dMo_halfOf_292 hl (by decide) rfl (fun ls hl => ?_)
      refine lv_aload_n hx hb dMo_halfOf_294 rfl (lv_at hl 4 rfl) ?_
      refine va_get (D := D) (ci := 5) (v := .ref (ad 18)) (C := RMo) (T := TMo) (N := 27) hx hb hw pinMo hown hE.1 hP 0 rfl rfl 2 (by decide) (hw _ wd_273) (fun _ h9 => h9) rfl dMo_halfOf_295 ?_
      refine lv_iload_n hx hb dMo_halfOf_298 rfl (lv_at hl 5 rfl) ?_
      refine va_iald hx hb hE.1 hP 1 0 rfl rfl hxk dMo_halfOf_299 ?_
      refine lv_bipush (v := 11) hx hb dMo_halfOf_300 (by first | rfl | decide) ?_
      refine lv_icmp_ne (tgt := 339) hx hb dMo_halfOf_302 (by decide) (fun _ => ?_) (fun h9 => absurd h9 h12)
      refine lv_iload hx hb dMo_halfOf_339 (lv_at hl 0 rfl) ?_
      refine lv_sipush (v := (-256)) hx hb dMo_halfOf_341 (by first | rfl | decide) ?_
      refine lv_sipush (v := 254) hx hb dMo_halfOf_344 (by first | rfl | decide) ?_
      refine pq_calli (fr := (FMo_outside (((FMo_address (mA xk.toNatClampNeg) mn me mf mL) - (mf xk.toNatClampNeg)) - 4) (-256) 254)) (wc := (wN ad cI cS)) (wr := ([0, 1, 2, 3, 4, 5, 6, 7, 8, 9, 10, 11, 12] : List Nat).filterMap (fun i => (wM ad cI cS mq mn me mo mt mx mp mz mu vn vz vc vv vp ve mK mA mB mC mf ml mc mL md mi mr mw)[i]?)) hP hD hS hA [] [0, 1, 2, 3, 4, 5, 6, 7, 8, 9, 10, 11, 12] rfl rfl (by decide) (by decide) (va_runS (own := RMo) (As := [.int (((FMo_address (mA xk.toNatClampNeg) mn me mf mL) - (mf xk.toNatClampNeg)) - 4), .int (-256), .int 254]) (rest := []) ⟨hx, hb, hml, hown, hw⟩ (k_Mo_outside l D ad cI cS (((FMo_address (mA xk.toNatClampNeg) mn me mf mL) - (mf xk.toNatClampNeg)) - 4) (-256) 254 H.size) ⟨pq_cwB 3 hw wd_187 wd_186 wd_185 rfl rfl (by decide +kernel) ⟨Nat.le_of_ble_eq_true rfl, Nat.le_of_ble_eq_true rfl⟩, hw _ wd_188⟩ (pq_preS hE (hP.sub [] rfl) (hD.sub [] (by decide) rfl)) rfl rfl hl.1 rfl (lv_room (Nat.le_of_ble_eq_true rfl)) dMo_halfOf_347 ⟨Nat.zero_le _, Nat.zero_le _⟩) (fun H locs hP hD hS => ?_)
      have hP : va_P D vwCl (wM ad cI cS mq mn me mo mt mx mp mz mu vn vz vc vv vp ve mK mA mB mC mf ml mc mL md mi mr mw) H := hP.sub [0, 1, 2, 3, 4, 5, 6, 7, 8, 9, 10, 11, 12] rfl
      have hD : va_D _ (wM ad cI cS mq mn me mo mt mx mp mz mu vn vz vc vv vp ve mK mA mB mC mf ml mc mL md mi mr mw) := hD.sub [0, 1, 2, 3, 4, 5, 6, 7, 8, 9, 10, 11, 12] (by decide) rfl
      refine lv_if_eq (tgt := 357) hx hb dMo_halfOf_350 (by decide) (fun h27 => ?_) (fun h27 => ?_)
      · refine lv_ldc hx hb hown (hw _ wd_235) dMo_halfOf_357 ?_
        refine lv_sipush (v := 256) hx hb dMo_halfOf_359 (by first | rfl | decide) ?_
        refine lv_iload hx hb dMo_halfOf_362 (lv_at hl 1 rfl) ?_
        refine lv_imul hx hb dMo_halfOf_364 ?_
        refine lv_iadd hx hb dMo_halfOf_365 ?_
        refine lv_iload hx hb dMo_halfOf_366 (lv_at hl 0 rfl) ?_
        refine lv_iconst (v := 2) hx hb dMo_halfOf_368 (by first | rfl | decide) ?_
        refine lv_idiv hx hb dMo_halfOf_369 (by decide) ?_
        refine lv_sipush (v := 256) hx hb dMo_halfOf_370 (by first | rfl | decide) ?_
        refine lv_iadd hx hb dMo_halfOf_373 ?_
        refine lv_sipush (v := 256) hx hb dMo_halfOf_374 (by first | rfl | decide) ?_
        refine lv_irem hx hb dMo_halfOf_377 (by decide) ?_
        refine lv_iadd hx hb dMo_halfOf_378 ?_
        have e9 : FMo_halfOf xk mn me mK mA mB mC mf mc mL = (53248 + (256 * (mC xk.toNatClampNeg))) + ((((((FMo_address (mA xk.toNatClampNeg) mn me mf mL) - (mf xk.toNatClampNeg)) - 4) / 2) + 256) - (((((FMo_address (mA xk.toNatClampNeg) mn me mf mL) - (mf xk.toNatClampNeg)) - 4) / 2) + 256) / 256 * 256) := by simp only [FMo_halfOf, if_neg h1, if_neg h2, if_neg h3, if_neg h4, if_neg h5, if_neg h6, if_neg h7, if_neg h8, if_neg h9, if_neg h10, if_neg h12, if_neg h16, if_neg h20, if_pos h24, if_neg h25, if_pos h27]
        exact W.iret (v := (53248 + (256 * (mC xk.toNatClampNeg))) + ((((((FMo_address (mA xk.toNatClampNeg) mn me mf mL) - (mf xk.toNatClampNeg)) - 4) / 2) + 256) - (((((FMo_address (mA xk.toNatClampNeg) mn me mf mL) - (mf xk.toNatClampNeg)) - 4) / 2) + 256) / 256 * 256)) hx hb hr (fun t ht hW => ⟨⟨(53248 + (256 * (mC xk.toNatClampNeg))) + ((((((FMo_address (mA xk.toNatClampNeg) mn me mf mL) - (mf xk.toNatClampNeg)) - 4) / 2) + 256) - (((((FMo_address (mA xk.toNatClampNeg) mn me mf mL) - (mf xk.toNatClampNeg)) - 4) / 2) + 256) / 256 * 256), (), rfl, (by show _ = _; rw [e9]), by rw [ht]; exact hP, hD⟩, hS.F ht⟩) hS.2.2 dMo_halfOf_379
      · refine lv_iconst (v := (-1)) hx hb dMo_halfOf_353 (by first | rfl | decide) ?_
        refine lv_goto (tgt := 379) hx hb dMo_halfOf_354 (by decide) ?_
        have e9 : FMo_halfOf xk mn me mK mA mB mC mf mc mL = (-1) := by simp only [FMo_halfOf, if_neg h1, if_neg h2, if_neg h3, if_neg h4, if_neg h5, if_neg h6, if_neg h7, if_neg h8, if_neg h9, if_neg h10, if_neg h12, if_neg h16, if_neg h20, if_pos h24, if_neg h25, if_neg h27]
        exact W.iret (v := (-1)) hx hb hr (fun t ht hW => ⟨⟨(-1), (), rfl, (by show _ = _; rw [e9]), by rw [ht]; exact hP, hD⟩, hS.F ht⟩) hS.2.2 dMo_halfOf_379
    · refine lv_iconst (v := (-1)) hx hb dMo_halfOf_276 (by first | rfl | decide) ?_
      have e9 : FMo_halfOf xk mn me mK mA mB mC mf mc mL = (-1) := by simp only [FMo_halfOf, if_neg h1, if_neg h2, if_neg h3, if_neg h4, if_neg h5, if_neg h6, if_neg h7, if_neg h8, if_neg h9, if_neg h10, if_neg h12, if_neg h16, if_neg h20, if_pos h24, if_pos h25]
      exact W.iret (v := (-1)) hx hb hr (fun t ht hW => ⟨⟨(-1), (), rfl, (by show _ = _; rw [e9]), by rw [ht]; exact hP, hD⟩, hS.F ht⟩) hS.2.2 dMo_halfOf_277
  by_cases h28 : (mK xk.toNatClampNeg) = 15
  · refine lv_tableIn (off := 235) (tgt := 263) hx hb dMo_halfOf_28 (by rw [h28]; decide) (by rw [h28]; decide) (by rw [h28]; rfl) (by decide) ?_
    refine lv_ldc hx hb hown (hw _ wd_227) dMo_halfOf_263 ?_
    have e9 : FMo_halfOf xk mn me mK mA mB mC mf mc mL = 48640 := by simp only [FMo_halfOf, if_neg h1, if_neg h2, if_neg h3, if_neg h4, if_neg h5, if_neg h6, if_neg h7, if_neg h8, if_neg h9, if_neg h10, if_neg h12, if_neg h16, if_neg h20, if_neg h24, if_pos h28]
    exact W.iret (v := 48640) hx hb hr (fun t ht hW => ⟨⟨48640, (), rfl, (by show _ = _; rw [e9]), by rw [ht]; exact hP, hD⟩, hS.F ht⟩) hS.2.2 dMo_halfOf_265
  have th1 := pq_ne (x := mK xk.toNatClampNeg) (k := 1) (y := 1) (by first | rfl | decide) h1
  have th2 := pq_ne (x := mK xk.toNatClampNeg) (k := 2) (y := 2) (by first | rfl | decide) h2
  have th3 := pq_ne (x := mK xk.toNatClampNeg) (k := 3) (y := 3) (by first | rfl | decide) h3
  have th4 := pq_ne (x := mK xk.toNatClampNeg) (k := 4) (y := 4) (by first | rfl | decide) h4
  have th5 := pq_ne (x := mK xk.toNatClampNeg) (k := 5) (y := 5) (by first | rfl | decide) h5
  have th6 := pq_ne (x := mK xk.toNatClampNeg) (k := 6) (y := 6) (by first | rfl | decide) h6
  have th7 := pq_ne (x := mK xk.toNatClampNeg) (k := 7) (y := 7) (by first | rfl | decide) h7
  have th8 := pq_ne (x := mK xk.toNatClampNeg) (k := 8) (y := 8) (by first | rfl | decide) h8
  have th9 := pq_ne (x := mK xk.toNatClampNeg) (k := 9) (y := 9) (by first | rfl | decide) h9
  have th10 := pq_ne (x := mK xk.toNatClampNeg) (k := 10) (y := 10) (by first | rfl | decide) h10
  have th12 := pq_ne (x := mK xk.toNatClampNeg) (k := 11) (y := 11) (by first | rfl | decide) h12
  have th16 := pq_ne (x := mK xk.toNatClampNeg) (k := 12) (y := 12) (by first | rfl | decide) h16
  have th20 := pq_ne (x := mK xk.toNatClampNeg) (k := 13) (y := 13) (by first | rfl | decide) h20
  have th24 := pq_ne (x := mK xk.toNatClampNeg) (k := 14) (y := 14) (by first | rfl | decide) h24
  have th28 := pq_ne (x := mK xk.toNatClampNeg) (k := 15) (y := 15) (by first | rfl | decide) h28
  refine lv_tableOut (tgt := 266) hx hb dMo_halfOf_28 (by omega) (by decide) ?_
  refine lv_aload_n hx hb dMo_halfOf_266 rfl (lv_at hl 3 rfl) ?_
  refine va_get (D := D) (ci := 5) (v := .ref (ad 25)) (C := RMo) (T := TMo) (N := 27) hx hb hw pinMo hown hE.1 hP 0 rfl rfl 9 (by decide) (hw _ wd_264) (fun _ h9 => h9) rfl dMo_halfOf_267 ?_
  refine lv_iload_n hx hb dMo_halfOf_270 rfl (lv_at hl 2 rfl) ?_
  refine va_iald hx hb hE.1 hP 8 0 rfl rfl (by first | exact pq_kaE hka (by assumption) (by decide) | exact pq_kaN hka (by assumption) (by assumption) (by assumption) (by assumption) (by assumption) (by assumption) (by assumption) (by assumption) (by assumption) (by assumption) (by assumption)) dMo_halfOf_271 ?_
  refine lv_iconst (v := (-1)) hx hb dMo_halfOf_272 (by first | rfl | decide) ?_
  refine lv_icmp_ne (tgt := 278) hx hb dMo_halfOf_273 (by decide) (fun h29 => ?_) (fun h29 => ?_)
  · refine lv_aload_n hx hb dMo_halfOf_278 rfl (lv_at hl 3 rfl) ?_
    refine lv_iload_n hx hb dMo_halfOf_279 rfl (lv_at hl 2 rfl) ?_
    refine pq_calli (fr := (FMo_address (mA xk.toNatClampNeg) mn me mf mL)) (wc := (wM ad cI cS mq mn me mo mt mx mp mz mu vn vz vc vv vp ve mK mA mB mC mf ml mc mL md mi mr mw)) (wr := ([] : List Nat).filterMap (fun i => (wM ad cI cS mq mn me mo mt mx mp mz mu vn vz vc vv vp ve mK mA mB mC mf ml mc mL md mi mr mw)[i]?)) hP hD hS hA [0, 1, 2, 3, 4, 5, 6, 7, 8, 9, 10, 11, 12] [] rfl rfl (by decide) (by decide) (va_runV (own := RMo) (C := RMo) (As := [.int (mA xk.toNatClampNeg)]) (rest := []) ⟨hx, hb, hml, hown, hw⟩ (k_Mo_address l D ad cI cS (mA xk.toNatClampNeg) mq mn me mo mt mx mp mz mu vn vz vc vv vp ve mK mA mB mC mf ml mc mL md mi mr mw (by first | exact pq_kaE hka (by assumption) (by decide) | exact pq_kaN hka (by assumption) (by assumption) (by assumption) (by assumption) (by assumption) (by assumption) (by assumption) (by assumption) (by assumption) (by assumption) (by assumption)) hmn0 hmn1 (hlb _ (by assumption)) s.heap.size) ⟨pq_cwB 1 hw wd_304 wd_186 wd_303 rfl rfl (by decide +kernel) ⟨Nat.le_of_ble_eq_true rfl, Nat.le_of_ble_eq_true rfl⟩, hw _ wd_305, hw _ wd_306⟩ (pq_preV (ci := 5) (C := RMo) (T := TMo) (N := 27) hE (hP.sub [0, 1, 2, 3, 4, 5, 6, 7, 8, 9, 10, 11, 12] rfl) (hD.sub [0, 1, 2, 3, 4, 5, 6, 7, 8, 9, 10, 11, 12] (by decide) rfl) rfl 0 rfl) rfl rfl hl.1 rfl (lv_room (Nat.le_of_ble_eq_true rfl)) dMo_halfOf_280 ⟨Nat.zero_le _, Nat.zero_le _⟩) (fun H locs hP hD hS => ?_)
    have hP : va_P D vwCl (wM ad cI cS mq mn me mo mt mx mp mz mu vn vz vc vv vp ve mK mA mB mC mf ml mc mL md mi mr mw) H := hP.sub [0, 1, 2, 3, 4, 5, 6, 7, 8, 9, 10, 11, 12] rfl
    have hD : va_D _ (wM ad cI cS mq mn me mo mt mx mp mz mu vn vz vc vv vp ve mK mA mB mC mf ml mc mL md mi mr mw) := hD.sub [0, 1, 2, 3, 4, 5, 6, 7, 8, 9, 10, 11, 12] (by decide) rfl
    refine lv_aload_n hx hb dMo_halfOf_283 rfl (lv_at hl 3 rfl) ?_
    refine va_get (D := D) (ci := 5) (v := .ref (ad 22)) (C := RMo) (T := TMo) (N := 27) hx hb hw pinMo hown hE.1 hP 0 rfl rfl 6 (by decide) (hw _ wd_277) (fun _ h9 => h9) rfl dMo_halfOf_284 ?_
    refine lv_iload_n hx hb dMo_halfOf_287 rfl (lv_at hl 4 rfl) ?_
    refine va_iald hx hb hE.1 hP 5 0 rfl rfl hxk dMo_halfOf_288 ?_
    refine lv_isub hx hb dMo_halfOf_289 ?_
    refine lv_iconst (v := 4) hx hb dMo_halfOf_290 (by first | rfl | decide) ?_
    refine lv_isub hx hb dMo_halfOf_291 ?_
    refine lv_istore (lv' := [(5, .int (((FMo_address (mA xk.toNatClampNeg) mn me mf mL) - (mf xk.toNatClampNeg)) - 4)), (4, .int (mC xk.toNatClampNeg)), (3, .int (mB xk.toNatClampNeg)), (2, .int (mA xk.toNatClampNeg)), (0, .ref (ad 17)), (1, .int xk)]) hx hb dMo_halfOf_292 hl (by decide) rfl (fun ls hl => ?_)
    refine lv_aload_n hx hb dMo_halfOf_294 rfl (lv_at hl 4 rfl) ?_
    refine va_get (D := D) (ci := 5) (v := .ref (ad 18)) (C := RMo) (T := TMo) (N := 27) hx hb hw pinMo hown hE.1 hP 0 rfl rfl 2 (by decide) (hw _ wd_273) (fun _ h9 => h9) rfl dMo_halfOf_295 ?_
    refine lv_iload_n hx hb dMo_halfOf_298 rfl (lv_at hl 5 rfl) ?_
    refine va_iald hx hb hE.1 hP 1 0 rfl rfl hxk dMo_halfOf_299 ?_
    refine lv_bipush (v := 11) hx hb dMo_halfOf_300 (by first | rfl | decide) ?_
    refine lv_icmp_ne (tgt := 339) hx hb dMo_halfOf_302 (by decide) (fun _ => ?_) (fun h9 => absurd h9 h12)
    refine lv_iload hx hb dMo_halfOf_339 (lv_at hl 0 rfl) ?_
    refine lv_sipush (v := (-256)) hx hb dMo_halfOf_341 (by first | rfl | decide) ?_
    refine lv_sipush (v := 254) hx hb dMo_halfOf_344 (by first | rfl | decide) ?_
    refine pq_calli (fr := (FMo_outside (((FMo_address (mA xk.toNatClampNeg) mn me mf mL) - (mf xk.toNatClampNeg)) - 4) (-256) 254)) (wc := (wN ad cI cS)) (wr := ([0, 1, 2, 3, 4, 5, 6, 7, 8, 9, 10, 11, 12] : List Nat).filterMap (fun i => (wM ad cI cS mq mn me mo mt mx mp mz mu vn vz vc vv vp ve mK mA mB mC mf ml mc mL md mi mr mw)[i]?)) hP hD hS hA [] [0, 1, 2, 3, 4, 5, 6, 7, 8, 9, 10, 11, 12] rfl rfl (by decide) (by decide) (va_runS (own := RMo) (As := [.int (((FMo_address (mA xk.toNatClampNeg) mn me mf mL) - (mf xk.toNatClampNeg)) - 4), .int (-256), .int 254]) (rest := []) ⟨hx, hb, hml, hown, hw⟩ (k_Mo_outside l D ad cI cS (((FMo_address (mA xk.toNatClampNeg) mn me mf mL) - (mf xk.toNatClampNeg)) - 4) (-256) 254 H.size) ⟨pq_cwB 3 hw wd_187 wd_186 wd_185 rfl rfl (by decide +kernel) ⟨Nat.le_of_ble_eq_true rfl, Nat.le_of_ble_eq_true rfl⟩, hw _ wd_188⟩ (pq_preS hE (hP.sub [] rfl) (hD.sub [] (by decide) rfl)) rfl rfl hl.1 rfl (lv_room (Nat.le_of_ble_eq_true rfl)) dMo_halfOf_347 ⟨Nat.zero_le _, Nat.zero_le _⟩) (fun H locs hP hD hS => ?_)
    have hP : va_P D vwCl (wM ad cI cS mq mn me mo mt mx mp mz mu vn vz vc vv vp ve mK mA mB mC mf ml mc mL md mi mr mw) H := hP.sub [0, 1, 2, 3, 4, 5, 6, 7, 8, 9, 10, 11, 12] rfl
    have hD : va_D _ (wM ad cI cS mq mn me mo mt mx mp mz mu vn vz vc vv vp ve mK mA mB mC mf ml mc mL md mi mr mw) := hD.sub [0, 1, 2, 3, 4, 5, 6, 7, 8, 9, 10, 11, 12] (by decide) rfl
    refine lv_if_eq (tgt := 357) hx hb dMo_halfOf_350 (by decide) (fun h31 => ?_) (fun h31 => ?_)
    · refine lv_ldc hx hb hown (hw _ wd_235) dMo_halfOf_357 ?_
      refine lv_sipush (v := 256) hx hb dMo_halfOf_359 (by first | rfl | decide) ?_
      refine lv_iload hx hb dMo_halfOf_362 (lv_at hl 1 rfl) ?_
      refine lv_imul hx hb dMo_halfOf_364 ?_
      refine lv_iadd hx hb dMo_halfOf_365 ?_
      refine lv_iload hx hb dMo_halfOf_366 (lv_at hl 0 rfl) ?_
      refine lv_iconst (v := 2) hx hb dMo_halfOf_368 (by first | rfl | decide) ?_
      refine lv_idiv hx hb dMo_halfOf_369 (by decide) ?_
      refine lv_sipush (v := 256) hx hb dMo_halfOf_370 (by first | rfl | decide) ?_
      refine lv_iadd hx hb dMo_halfOf_373 ?_
      refine lv_sipush (v := 256) hx hb dMo_halfOf_374 (by first | rfl | decide) ?_
      refine lv_irem hx hb dMo_halfOf_377 (by decide) ?_
      refine lv_iadd hx hb dMo_halfOf_378 ?_
      have e9 : FMo_halfOf xk mn me mK mA mB mC mf mc mL = (53248 + (256 * (mC xk.toNatClampNeg))) + ((((((FMo_address (mA xk.toNatClampNeg) mn me mf mL) - (mf xk.toNatClampNeg)) - 4) / 2) + 256) - (((((FMo_address (mA xk.toNatClampNeg) mn me mf mL) - (mf xk.toNatClampNeg)) - 4) / 2) + 256) / 256 * 256) := by simp only [FMo_halfOf, if_neg h1, if_neg h2, if_neg h3, if_neg h4, if_neg h5, if_neg h6, if_neg h7, if_neg h8, if_neg h9, if_neg h10, if_neg h12, if_neg h16, if_neg h20, if_neg h24, if_neg h28, if_neg h29, if_pos h31]
      exact W.iret (v := (53248 + (256 * (mC xk.toNatClampNeg))) + ((((((FMo_address (mA xk.toNatClampNeg) mn me mf mL) - (mf xk.toNatClampNeg)) - 4) / 2) + 256) - (((((FMo_address (mA xk.toNatClampNeg) mn me mf mL) - (mf xk.toNatClampNeg)) - 4) / 2) + 256) / 256 * 256)) hx hb hr (fun t ht hW => ⟨⟨(53248 + (256 * (mC xk.toNatClampNeg))) + ((((((FMo_address (mA xk.toNatClampNeg) mn me mf mL) - (mf xk.toNatClampNeg)) - 4) / 2) + 256) - (((((FMo_address (mA xk.toNatClampNeg) mn me mf mL) - (mf xk.toNatClampNeg)) - 4) / 2) + 256) / 256 * 256), (), rfl, (by show _ = _; rw [e9]), by rw [ht]; exact hP, hD⟩, hS.F ht⟩) hS.2.2 dMo_halfOf_379
    · refine lv_iconst (v := (-1)) hx hb dMo_halfOf_353 (by first | rfl | decide) ?_
      refine lv_goto (tgt := 379) hx hb dMo_halfOf_354 (by decide) ?_
      have e9 : FMo_halfOf xk mn me mK mA mB mC mf mc mL = (-1) := by simp only [FMo_halfOf, if_neg h1, if_neg h2, if_neg h3, if_neg h4, if_neg h5, if_neg h6, if_neg h7, if_neg h8, if_neg h9, if_neg h10, if_neg h12, if_neg h16, if_neg h20, if_neg h24, if_neg h28, if_neg h29, if_neg h31]
      exact W.iret (v := (-1)) hx hb hr (fun t ht hW => ⟨⟨(-1), (), rfl, (by show _ = _; rw [e9]), by rw [ht]; exact hP, hD⟩, hS.F ht⟩) hS.2.2 dMo_halfOf_379
  · refine lv_iconst (v := (-1)) hx hb dMo_halfOf_276 (by first | rfl | decide) ?_
    have e9 : FMo_halfOf xk mn me mK mA mB mC mf mc mL = (-1) := by simp only [FMo_halfOf, if_neg h1, if_neg h2, if_neg h3, if_neg h4, if_neg h5, if_neg h6, if_neg h7, if_neg h8, if_neg h9, if_neg h10, if_neg h12, if_neg h16, if_neg h20, if_neg h24, if_neg h28, if_pos h29]
    exact W.iret (v := (-1)) hx hb hr (fun t ht hW => ⟨⟨(-1), (), rfl, (by show _ = _; rw [e9]), by rw [ht]; exact hP, hD⟩, hS.F ht⟩) hS.2.2 dMo_halfOf_277
def LMo_assemble_11 : Nat → (Int32) → (Int32) → (Nat → Int32) → (Nat → Int32) → (Nat → Int32) → (Nat → Int32) → (Nat → Int32) → (Nat → Int32) → (Nat → Int32) → (Nat) → (Int32) → (Nat → Int32) → Nat × Int32 × (Nat → Int32)
  | 0, _, _, _, _, _, _, _, _, _, i, mx, md => (i, mx, md)
  | n + 1, mn, me, mK, mA, mB, mC, mf, mc, mL, i, mx, md => if mn ≤ (nI i) then (i, mx, md) else if mx = (-1) then if (mK (nI i).toNatClampNeg) = 0 then LMo_assemble_11 n mn me mK mA mB mC mf mc mL (i + 1) mx md else if (mK (nI i).toNatClampNeg) = 13 then LMo_assemble_11 n mn me mK mA mB mC mf mc mL (i + 1) mx md else if (mK (nI i).toNatClampNeg) = 14 then LMo_assemble_11 n mn me mK mA mB mC mf mc mL (i + 1) mx md else if 0 ≤ (FMo_halfOf (nI i) mn me mK mA mB mC mf mc mL) then LMo_assemble_11 n mn me mK mA mB mC mf mc mL (i + 1) mx (FMo_write (mf (nI i).toNatClampNeg) (FMo_halfOf (nI i) mn me mK mA mB mC mf mc mL) md) else LMo_assemble_11 n mn me mK mA mB mC mf mc mL (i + 1) (nI i) md else (i, mx, md)
set_option maxHeartbeats 4000000 in
set_option maxRecDepth 100000 in
theorem qMo_assemble_11 {p : Program} {l : Launch} {e : Env} {R : Room} {s : State} {m : MethodId} {args : Array Value} {below : List Frame} {meth : Method} {c : Code} {Q : State → Prop} {A : Nat → Prop} (D : va_G) (ad : Nat → Nat) (cI cS : ClassId) (hx : p.tables.exec = Jvm.exec) (hb : c.code = cMo_assemble) (hml : c.maxLocals = 4) (hw : ∀ w ∈ pq_ws, w.before args s = true) (hown : s.vm.findClass RMo = some m.cls) (hE : pq_E D cI cS s) (hA : ∀ q : Nat, s.heap.size ≤ q → A q) (hR : 4 ≤ R.frames ∧ 95 ≤ R.locals) (c0 : Nat) : ∀ (n : Nat) (i : Nat) (mq : Int32) (mn : Int32) (me : Int32) (mo : Int32) (mt : Int32) (mx : Int32) (mp : Int32) (mz : Int32) (mu : Int32) (vn : Int32) (vz : Int32) (vc : Int32) (vv : Int32) (vp : Int32) (ve : Int32) (mK : Nat → Int32) (mA : Nat → Int32) (mB : Nat → Int32) (mC : Nat → Int32) (mf : Nat → Int32) (ml : Nat → Int32) (mc : Nat → Int32) (mL : Nat → Int32) (md : Nat → Int32) (mi : Nat → Int32) (mr : Nat → Int32) (mw : Nat → Int32) (ls : Array Slot) (H : Heap) (locs : List Loc), (mn = nI c0) → (c0 ≤ 160) → (i ≤ c0) → (∀ y9 : Nat, vp_in (mf y9 / 2) 7200) → (∀ y9 : Nat, (y9 : Int) < mn.toInt → ¬ mK y9 = 0 → ¬ mK y9 = 13 → ¬ mK y9 = 14 → pq_ka (mK y9) (mA y9)) → (∀ y9 : Nat, ¬ mL y9 = (-1) → ¬ mL y9 < 0) → (c0 - i) < n → lv_has ls 4 [(0, .ref (ad 17)), (1, .int (nI i))] → va_P D vwCl (wM ad cI cS mq mn me mo mt mx mp mz mu vn vz vc vv vp ve mK mA mB mC mf ml mc mL md mi mr mw) H → va_D A (wM ad cI cS mq mn me mo mt mx mp mz mu vn vz vc vv vp ve mK mA mB mC mf ml mc mL md mi mr mw) → va_S A s.heap H locs → (∀ (ls : Array Slot) (H : Heap) (locs : List Loc), lv_has ls 4 [(0, .ref (ad 17)), (1, .int (nI ((LMo_assemble_11 n mn me mK mA mB mC mf mc mL i mx md).1)))] → va_P D vwCl (wM ad cI cS mq mn me mo mt ((LMo_assemble_11 n mn me mK mA mB mC mf mc mL i mx md).2.1) mp mz mu vn vz vc vv vp ve mK mA mB mC mf ml mc mL ((LMo_assemble_11 n mn me mK mA mB mC mf mc mL i mx md).2.2) mi mr mw) H → va_D A (wM ad cI cS mq mn me mo mt ((LMo_assemble_11 n mn me mK mA mB mC mf mc mL i mx md).2.1) mp mz mu vn vz vc vv vp ve mK mA mB mC mf ml mc mL ((LMo_assemble_11 n mn me mK mA mB mC mf mc mL i mx md).2.2) mi mr mw) → va_S A s.heap H locs → W p l e R s m args below meth c H locs 0 0 Q (F0 m 111 ls [])) → W p l e R s m args below meth c H locs 0 0 Q (F0 m 11 ls []) := by
  intro n
  induction n with
  | zero =>
    intro i mq mn me mo mt mx mp mz mu vn vz vc vv vp ve mK mA mB mC mf ml mc mL md mi mr mw ls H locs hc hc1 hi hf hkl hlb hm hl hP hD hS kk
    exact absurd hm (Nat.not_lt_zero _)
  | succ n ih =>
    intro i mq mn me mo mt mx mp mz mu vn vz vc vv vp ve mK mA mB mC mf ml mc mL md mi mr mw ls H locs hc hc1 hi hf hkl hlb hm hl hP hD hS kk
    refine lv_iload_n hx hb dMo_assemble_11 rfl (lv_at hl 1 rfl) ?_
    refine lv_aload_n hx hb dMo_assemble_12 rfl (lv_at hl 0 rfl) ?_
    refine va_get (D := D) (ci := 5) (v := .int mn) (C := RMo) (T := TMo) (N := 27) hx hb hw pinMo hown hE.1 hP 0 rfl rfl 1 (by decide) (hw _ wd_265) (fun _ h9 => h9) rfl dMo_assemble_13 ?_
    refine lv_icmp_ge (tgt := 111) hx hb dMo_assemble_16 (by decide) (fun h1 => ?_) (fun h1 => ?_)
    · have e9 : LMo_assemble_11 (n + 1) mn me mK mA mB mC mf mc mL i mx md = (i, mx, md) := by simp only [LMo_assemble_11, if_pos h1]
      rw [e9] at kk
      exact kk ls H locs (lv_sub hl [0, 1] rfl) hP hD hS
    · refine lv_aload_n hx hb dMo_assemble_19 rfl (lv_at hl 0 rfl) ?_
      refine va_get (D := D) (ci := 5) (v := .int mx) (C := RMo) (T := TMo) (N := 27) hx hb hw pinMo hown hE.1 hP 0 rfl rfl 13 (by decide) (hw _ wd_198) (fun _ h9 => h9) rfl dMo_assemble_20 ?_
      refine lv_iconst (v := (-1)) hx hb dMo_assemble_23 (by first | rfl | decide) ?_
      refine lv_icmp_ne (tgt := 111) hx hb dMo_assemble_24 (by decide) (fun h2 => ?_) (fun h2 => ?_)
      · have e9 : LMo_assemble_11 (n + 1) mn me mK mA mB mC mf mc mL i mx md = (i, mx, md) := by simp only [LMo_assemble_11, if_neg h1, if_neg h2]
        rw [e9] at kk
        exact kk ls H locs (lv_sub hl [0, 1] rfl) hP hD hS
      · refine lv_aload_n hx hb dMo_assemble_27 rfl (lv_at hl 0 rfl) ?_
        refine va_get (D := D) (ci := 5) (v := .ref (ad 18)) (C := RMo) (T := TMo) (N := 27) hx hb hw pinMo hown hE.1 hP 0 rfl rfl 2 (by decide) (hw _ wd_273) (fun _ h9 => h9) rfl dMo_assemble_28 ?_
        refine lv_iload_n hx hb dMo_assemble_31 rfl (lv_at hl 1 rfl) ?_
        refine va_iald hx hb hE.1 hP 1 0 rfl rfl (pq_ix hc hc1 (by decide) (by omega) (by assumption)) dMo_assemble_32 ?_
        refine lv_if_eq (tgt := 62) hx hb dMo_assemble_33 (by decide) (fun h3 => ?_) (fun h3 => ?_)
        · refine lv_iconst (v := 0) hx hb dMo_assemble_62 (by first | rfl | decide) ?_
          refine lv_istore_n (lv' := [(2, .int 0), (0, .ref (ad 17)), (1, .int (nI i))]) hx hb dMo_assemble_63 rfl hl (by decide) rfl (fun ls hl => ?_)
          refine lv_iload_n hx hb dMo_assemble_64 rfl (lv_at hl 0 rfl) ?_
          refine lv_if_eq (tgt := 76) hx hb dMo_assemble_65 (by decide) (fun _ => ?_) (fun h9 => absurd h9 (by decide))
          refine lv_iconst (v := 0) hx hb dMo_assemble_76 (by first | rfl | decide) ?_
          refine lv_istore_n (lv' := [(3, .int 0), (2, .int 0), (0, .ref (ad 17)), (1, .int (nI i))]) hx hb dMo_assemble_77 rfl hl (by decide) rfl (fun ls hl => ?_)
          refine lv_iload_n hx hb dMo_assemble_78 rfl (lv_at hl 0 rfl) ?_
          refine lv_if_ge (tgt := 90) hx hb dMo_assemble_79 (by decide) (fun _ => ?_) (fun h9 => absurd h9 (by decide))
          refine lv_iload_n hx hb dMo_assemble_90 rfl (lv_at hl 1 rfl) ?_
          refine lv_if_eq (tgt := 105) hx hb dMo_assemble_91 (by decide) (fun _ => ?_) (fun h9 => absurd h9 (by decide))
          refine lv_iinc (k := 3) (v := (nI i) + 1) (lv' := [(1, .int ((nI i) + 1)), (3, .int 0), (2, .int 0), (0, .ref (ad 17))]) hx hb dMo_assemble_105 hl rfl (by first | rfl | decide) (by decide) rfl (fun ls hl => ?_)
          refine lv_goto (tgt := 11) hx hb dMo_assemble_108 (by decide) ?_
          have e9 : LMo_assemble_11 (n + 1) mn me mK mA mB mC mf mc mL i mx md = LMo_assemble_11 n mn me mK mA mB mC mf mc mL (i + 1) mx md := by simp only [LMo_assemble_11, if_neg h1, if_pos h2, if_pos h3]
          rw [e9] at kk
          rw [nI_1] at hl
          exact ih (i + 1) mq mn me mo mt mx mp mz mu vn vz vc vv vp ve mK mA mB mC mf ml mc mL md mi mr mw ls H locs hc hc1 (by have := pq_lt (j := i) hc (by omega) (by omega) (by assumption); omega) hf hkl hlb (by have := pq_lt (j := i) hc (by omega) (by omega) (by assumption); omega) (lv_sub hl [3, 0] rfl) hP hD hS kk
        · refine lv_aload_n hx hb dMo_assemble_36 rfl (lv_at hl 0 rfl) ?_
          refine va_get (D := D) (ci := 5) (v := .ref (ad 18)) (C := RMo) (T := TMo) (N := 27) hx hb hw pinMo hown hE.1 hP 0 rfl rfl 2 (by decide) (hw _ wd_273) (fun _ h9 => h9) rfl dMo_assemble_37 ?_
          refine lv_iload_n hx hb dMo_assemble_40 rfl (lv_at hl 1 rfl) ?_
          refine va_iald hx hb hE.1 hP 1 0 rfl rfl (pq_ix hc hc1 (by decide) (by omega) (by assumption)) dMo_assemble_41 ?_
          refine lv_bipush (v := 13) hx hb dMo_assemble_42 (by first | rfl | decide) ?_
          refine lv_icmp_eq (tgt := 62) hx hb dMo_assemble_44 (by decide) (fun h4 => ?_) (fun h4 => ?_)
          · refine lv_iconst (v := 0) hx hb dMo_assemble_62 (by first | rfl | decide) ?_
            refine lv_istore_n (lv' := [(2, .int 0), (0, .ref (ad 17)), (1, .int (nI i))]) hx hb dMo_assemble_63 rfl hl (by decide) rfl (fun ls hl => ?_)
            refine lv_iload_n hx hb dMo_assemble_64 rfl (lv_at hl 0 rfl) ?_
            refine lv_if_eq (tgt := 76) hx hb dMo_assemble_65 (by decide) (fun _ => ?_) (fun h9 => absurd h9 (by decide))
            refine lv_iconst (v := 0) hx hb dMo_assemble_76 (by first | rfl | decide) ?_
            refine lv_istore_n (lv' := [(3, .int 0), (2, .int 0), (0, .ref (ad 17)), (1, .int (nI i))]) hx hb dMo_assemble_77 rfl hl (by decide) rfl (fun ls hl => ?_)
            refine lv_iload_n hx hb dMo_assemble_78 rfl (lv_at hl 0 rfl) ?_
            refine lv_if_ge (tgt := 90) hx hb dMo_assemble_79 (by decide) (fun _ => ?_) (fun h9 => absurd h9 (by decide))
            refine lv_iload_n hx hb dMo_assemble_90 rfl (lv_at hl 1 rfl) ?_
            refine lv_if_eq (tgt := 105) hx hb dMo_assemble_91 (by decide) (fun _ => ?_) (fun h9 => absurd h9 (by decide))
            refine lv_iinc (k := 3) (v := (nI i) + 1) (lv' := [(1, .int ((nI i) + 1)), (3, .int 0), (2, .int 0), (0, .ref (ad 17))]) hx hb dMo_assemble_105 hl rfl (by first | rfl | decide) (by decide) rfl (fun ls hl => ?_)
            refine lv_goto (tgt := 11) hx hb dMo_assemble_108 (by decide) ?_
            have e9 : LMo_assemble_11 (n + 1) mn me mK mA mB mC mf mc mL i mx md = LMo_assemble_11 n mn me mK mA mB mC mf mc mL (i + 1) mx md := by simp only [LMo_assemble_11, if_neg h1, if_pos h2, if_neg h3, if_pos h4]
            rw [e9] at kk
            rw [nI_1] at hl
            exact ih (i + 1) mq mn me mo mt mx mp mz mu vn vz vc vv vp ve mK mA mB mC mf ml mc mL md mi mr mw ls H locs hc hc1 (by have := pq_lt (j := i) hc (by omega) (by omega) (by assumption); omega) hf hkl hlb (by have := pq_lt (j := i) hc (by omega) (by omega) (by assumption); omega) (lv_sub hl [3, 0] rfl) hP hD hS kk
          · refine lv_aload_n hx hb dMo_assemble_47 rfl (lv_at hl 0 rfl) ?_
            refine va_get (D := D) (ci := 5) (v := .ref (ad 18)) (C := RMo) (T := TMo) (N := 27) hx hb hw pinMo hown hE.1 hP 0 rfl rfl 2 (by decide) (hw _ wd_273) (fun _ h9 => h9) rfl dMo_assemble_48 ?_
            refine lv_iload_n hx hb dMo_assemble_51 rfl (lv_at hl 1 rfl) ?_
            refine va_iald hx hb hE.1 hP 1 0 rfl rfl (pq_ix hc hc1 (by decide) (by omega) (by assumption)) dMo_assemble_52 ?_
            refine lv_bipush (v := 14) hx hb dMo_assemble_53 (by first | rfl | decide) ?_
            refine lv_icmp_eq (tgt := 62) hx hb dMo_assemble_55 (by decide) (fun h5 => ?_) (fun h5 => ?_)
            · refine lv_iconst (v := 0) hx hb dMo_assemble_62 (by first | rfl | decide) ?_
              refine lv_istore_n (lv' := [(2, .int 0), (0, .ref (ad 17)), (1, .int (nI i))]) hx hb dMo_assemble_63 rfl hl (by decide) rfl (fun ls hl => ?_)
              refine lv_iload_n hx hb dMo_assemble_64 rfl (lv_at hl 0 rfl) ?_
              refine lv_if_eq (tgt := 76) hx hb dMo_assemble_65 (by decide) (fun _ => ?_) (fun h9 => absurd h9 (by decide))
              refine lv_iconst (v := 0) hx hb dMo_assemble_76 (by first | rfl | decide) ?_
              refine lv_istore_n (lv' := [(3, .int 0), (2, .int 0), (0, .ref (ad 17)), (1, .int (nI i))]) hx hb dMo_assemble_77 rfl hl (by decide) rfl (fun ls hl => ?_)
              refine lv_iload_n hx hb dMo_assemble_78 rfl (lv_at hl 0 rfl) ?_
              refine lv_if_ge (tgt := 90) hx hb dMo_assemble_79 (by decide) (fun _ => ?_) (fun h9 => absurd h9 (by decide))
              refine lv_iload_n hx hb dMo_assemble_90 rfl (lv_at hl 1 rfl) ?_
              refine lv_if_eq (tgt := 105) hx hb dMo_assemble_91 (by decide) (fun _ => ?_) (fun h9 => absurd h9 (by decide))
              refine lv_iinc (k := 3) (v := (nI i) + 1) (lv' := [(1, .int ((nI i) + 1)), (3, .int 0), (2, .int 0), (0, .ref (ad 17))]) hx hb dMo_assemble_105 hl rfl (by first | rfl | decide) (by decide) rfl (fun ls hl => ?_)
              refine lv_goto (tgt := 11) hx hb dMo_assemble_108 (by decide) ?_
              have e9 : LMo_assemble_11 (n + 1) mn me mK mA mB mC mf mc mL i mx md = LMo_assemble_11 n mn me mK mA mB mC mf mc mL (i + 1) mx md := by simp only [LMo_assemble_11, if_neg h1, if_pos h2, if_neg h3, if_neg h4, if_pos h5]
              rw [e9] at kk
              rw [nI_1] at hl
              exact ih (i + 1) mq mn me mo mt mx mp mz mu vn vz vc vv vp ve mK mA mB mC mf ml mc mL md mi mr mw ls H locs hc hc1 (by have := pq_lt (j := i) hc (by omega) (by omega) (by assumption); omega) hf hkl hlb (by have := pq_lt (j := i) hc (by omega) (by omega) (by assumption); omega) (lv_sub hl [3, 0] rfl) hP hD hS kk
            · refine lv_iconst (v := 1) hx hb dMo_assemble_58 (by first | rfl | decide) ?_
              refine lv_goto (tgt := 63) hx hb dMo_assemble_59 (by decide) ?_
              refine lv_istore_n (lv' := [(2, .int 1), (0, .ref (ad 17)), (1, .int (nI i))]) hx hb dMo_assemble_63 rfl hl (by decide) rfl (fun ls hl => ?_)
              refine lv_iload_n hx hb dMo_assemble_64 rfl (lv_at hl 0 rfl) ?_
              refine lv_if_eq (tgt := 76) hx hb dMo_assemble_65 (by decide) (fun h9 => absurd h9 (by decide)) (fun _ => ?_)
              refine lv_aload_n hx hb dMo_assemble_68 rfl (lv_at hl 1 rfl) ?_
              refine lv_iload_n hx hb dMo_assemble_69 rfl (lv_at hl 2 rfl) ?_
              refine pq_calli (fr := (FMo_halfOf (nI i) mn me mK mA mB mC mf mc mL)) (wc := (wM ad cI cS mq mn me mo mt mx mp mz mu vn vz vc vv vp ve mK mA mB mC mf ml mc mL md mi mr mw)) (wr := ([] : List Nat).filterMap (fun i => (wM ad cI cS mq mn me mo mt mx mp mz mu vn vz vc vv vp ve mK mA mB mC mf ml mc mL md mi mr mw)[i]?)) hP hD hS hA [0, 1, 2, 3, 4, 5, 6, 7, 8, 9, 10, 11, 12] [] rfl rfl (by decide) (by decide) (va_runV (own := RMo) (C := RMo) (As := [.int (nI i)]) (rest := []) ⟨hx, hb, hml, hown, hw⟩ (k_Mo_halfOf l D ad cI cS (nI i) mq mn me mo mt mx mp mz mu vn vz vc vv vp ve mK mA mB mC mf ml mc mL md mi mr mw (pq_ix hc hc1 (by decide) (by omega) (by assumption)) (by rw [hc]; exact nI_pos (by omega)) (by rw [hc, nI_toInt (by omega)]; omega) (hkl _ (by rw [nI_clamp (by omega), hc, nI_toInt (by omega)]; have := pq_lt (j := i) hc (by omega) (by omega) (by assumption); omega) (by assumption) (by assumption) (by assumption)) hlb H.size) ⟨pq_cwB 1 hw wd_308 wd_186 wd_307 rfl rfl (by decide +kernel) ⟨Nat.le_trans (by decide) hR.1, Nat.le_trans (by decide) hR.2⟩, hw _ wd_309, hw _ wd_310⟩ (pq_preV (ci := 5) (C := RMo) (T := TMo) (N := 27) hE (hP.sub [0, 1, 2, 3, 4, 5, 6, 7, 8, 9, 10, 11, 12] rfl) (hD.sub [0, 1, 2, 3, 4, 5, 6, 7, 8, 9, 10, 11, 12] (by decide) rfl) rfl 0 rfl) rfl rfl hl.1 rfl (lv_room (Nat.le_of_ble_eq_true rfl)) dMo_assemble_70 ⟨Nat.zero_le _, Nat.zero_le _⟩) (fun H locs hP hD hS => ?_)
              have hP : va_P D vwCl (wM ad cI cS mq mn me mo mt mx mp mz mu vn vz vc vv vp ve mK mA mB mC mf ml mc mL md mi mr mw) H := hP.sub [0, 1, 2, 3, 4, 5, 6, 7, 8, 9, 10, 11, 12] rfl
              have hD : va_D _ (wM ad cI cS mq mn me mo mt mx mp mz mu vn vz vc vv vp ve mK mA mB mC mf ml mc mL md mi mr mw) := hD.sub [0, 1, 2, 3, 4, 5, 6, 7, 8, 9, 10, 11, 12] (by decide) rfl
              refine lv_goto (tgt := 77) hx hb dMo_assemble_73 (by decide) ?_
              refine lv_istore_n (lv' := [(3, .int (FMo_halfOf (nI i) mn me mK mA mB mC mf mc mL)), (2, .int 1), (0, .ref (ad 17)), (1, .int (nI i))]) hx hb dMo_assemble_77 rfl hl (by decide) rfl (fun ls hl => ?_)
              refine lv_iload_n hx hb dMo_assemble_78 rfl (lv_at hl 0 rfl) ?_
              refine lv_if_ge (tgt := 90) hx hb dMo_assemble_79 (by decide) (fun h6 => ?_) (fun h6 => ?_)
              · refine lv_iload_n hx hb dMo_assemble_90 rfl (lv_at hl 1 rfl) ?_
                refine lv_if_eq (tgt := 105) hx hb dMo_assemble_91 (by decide) (fun h9 => absurd h9 (by decide)) (fun _ => ?_)
                refine lv_aload_n hx hb dMo_assemble_94 rfl (lv_at hl 2 rfl) ?_
                refine lv_aload_n hx hb dMo_assemble_95 rfl (lv_at hl 2 rfl) ?_
                refine va_get (D := D) (ci := 5) (v := .ref (ad 22)) (C := RMo) (T := TMo) (N := 27) hx hb hw pinMo hown hE.1 hP 0 rfl rfl 6 (by decide) (hw _ wd_277) (fun _ h9 => h9) rfl dMo_assemble_96 ?_
                refine lv_iload_n hx hb dMo_assemble_99 rfl (lv_at hl 3 rfl) ?_
                refine va_iald hx hb hE.1 hP 5 0 rfl rfl (pq_ix hc hc1 (by decide) (by omega) (by assumption)) dMo_assemble_100 ?_
                refine lv_iload_n hx hb dMo_assemble_101 rfl (lv_at hl 0 rfl) ?_
                refine pq_callv (wc := (wM ad cI cS mq mn me mo mt mx mp mz mu vn vz vc vv vp ve mK mA mB mC mf ml mc mL md mi mr mw)) (wr := ([] : List Nat).filterMap (fun i => (wM ad cI cS mq mn me mo mt mx mp mz mu vn vz vc vv vp ve mK mA mB mC mf ml mc mL md mi mr mw)[i]?)) hP hD hS hA [0, 1, 2, 3, 4, 5, 6, 7, 8, 9, 10, 11, 12] [] rfl rfl (by decide) (by decide) (va_runV (own := RMo) (C := RMo) (As := [.int (mf (nI i).toNatClampNeg), .int (FMo_halfOf (nI i) mn me mK mA mB mC mf mc mL)]) (rest := []) ⟨hx, hb, hml, hown, hw⟩ (k_Mo_write l D ad cI cS (mf (nI i).toNatClampNeg) (FMo_halfOf (nI i) mn me mK mA mB mC mf mc mL) mq mn me mo mt mx mp mz mu vn vz vc vv vp ve mK mA mB mC mf ml mc mL md mi mr mw (hf _) H.size) ⟨pq_cwB 2 hw wd_285 wd_186 wd_284 rfl rfl (by decide +kernel) ⟨Nat.le_trans (by decide) hR.1, Nat.le_trans (by decide) hR.2⟩, hw _ wd_286, hw _ wd_287⟩ (pq_preV (ci := 5) (C := RMo) (T := TMo) (N := 27) hE (hP.sub [0, 1, 2, 3, 4, 5, 6, 7, 8, 9, 10, 11, 12] rfl) (hD.sub [0, 1, 2, 3, 4, 5, 6, 7, 8, 9, 10, 11, 12] (by decide) rfl) rfl 0 rfl) rfl rfl hl.1 rfl (lv_room (Nat.le_of_ble_eq_true rfl)) dMo_assemble_102 ⟨Nat.zero_le _, Nat.zero_le _⟩) (fun _ H locs hP hD hS => ?_)
                have hP : va_P D vwCl (wM ad cI cS mq mn me mo mt mx mp mz mu vn vz vc vv vp ve mK mA mB mC mf ml mc mL (FMo_write (mf (nI i).toNatClampNeg) (FMo_halfOf (nI i) mn me mK mA mB mC mf mc mL) md) mi mr mw) H := hP.sub [0, 1, 2, 3, 4, 5, 6, 7, 8, 9, 10, 11, 12] rfl
                have hD : va_D _ (wM ad cI cS mq mn me mo mt mx mp mz mu vn vz vc vv vp ve mK mA mB mC mf ml mc mL (FMo_write (mf (nI i).toNatClampNeg) (FMo_halfOf (nI i) mn me mK mA mB mC mf mc mL) md) mi mr mw) := hD.sub [0, 1, 2, 3, 4, 5, 6, 7, 8, 9, 10, 11, 12] (by decide) rfl
                refine lv_iinc (k := 3) (v := (nI i) + 1) (lv' := [(1, .int ((nI i) + 1)), (3, .int (FMo_halfOf (nI i) mn me mK mA mB mC mf mc mL)), (2, .int 1), (0, .ref (ad 17))]) hx hb dMo_assemble_105 hl rfl (by first | rfl | decide) (by decide) rfl (fun ls hl => ?_)
                refine lv_goto (tgt := 11) hx hb dMo_assemble_108 (by decide) ?_
                have e9 : LMo_assemble_11 (n + 1) mn me mK mA mB mC mf mc mL i mx md = LMo_assemble_11 n mn me mK mA mB mC mf mc mL (i + 1) mx (FMo_write (mf (nI i).toNatClampNeg) (FMo_halfOf (nI i) mn me mK mA mB mC mf mc mL) md) := by simp only [LMo_assemble_11, if_neg h1, if_pos h2, if_neg h3, if_neg h4, if_neg h5, if_pos h6]
                rw [e9] at kk
                rw [nI_1] at hl
                exact ih (i + 1) mq mn me mo mt mx mp mz mu vn vz vc vv vp ve mK mA mB mC mf ml mc mL (FMo_write (mf (nI i).toNatClampNeg) (FMo_halfOf (nI i) mn me mK mA mB mC mf mc mL) md) mi mr mw ls H locs hc hc1 (by have := pq_lt (j := i) hc (by omega) (by omega) (by assumption); omega) hf hkl hlb (by have := pq_lt (j := i) hc (by omega) (by omega) (by assumption); omega) (lv_sub hl [3, 0] rfl) hP hD hS kk
              · refine lv_aload_n hx hb dMo_assemble_82 rfl (lv_at hl 2 rfl) ?_
                refine lv_iload_n hx hb dMo_assemble_83 rfl (lv_at hl 3 rfl) ?_
                refine va_put (D := D) (ci := 5) (v := .int (nI i)) (ty := .int) (C := RMo) (T := TMo) (N := 27) hx hb hw pinMo tyMo tyMo_ok nmMo hown hE.1 hP hD hS 0 rfl rfl 13 (by decide) (hw _ wd_198) (fun _ h9 => h9) rfl (by decide +kernel) rfl rfl (Nat.le_of_ble_eq_true rfl) dMo_assemble_84 (fun H locs hP hD hS => ?_)
                have hP : va_P D vwCl (wM ad cI cS mq mn me mo mt (nI i) mp mz mu vn vz vc vv vp ve mK mA mB mC mf ml mc mL md mi mr mw) H := hP
                have hD : va_D _ (wM ad cI cS mq mn me mo mt (nI i) mp mz mu vn vz vc vv vp ve mK mA mB mC mf ml mc mL md mi mr mw) := hD
                refine lv_goto (tgt := 105) hx hb dMo_assemble_87 (by decide) ?_
                refine lv_iinc (k := 3) (v := (nI i) + 1) (lv' := [(1, .int ((nI i) + 1)), (3, .int (FMo_halfOf (nI i) mn me mK mA mB mC mf mc mL)), (2, .int 1), (0, .ref (ad 17))]) hx hb dMo_assemble_105 hl rfl (by first | rfl | decide) (by decide) rfl (fun ls hl => ?_)
                refine lv_goto (tgt := 11) hx hb dMo_assemble_108 (by decide) ?_
                have e9 : LMo_assemble_11 (n + 1) mn me mK mA mB mC mf mc mL i mx md = LMo_assemble_11 n mn me mK mA mB mC mf mc mL (i + 1) (nI i) md := by simp only [LMo_assemble_11, if_neg h1, if_pos h2, if_neg h3, if_neg h4, if_neg h5, if_neg h6]
                rw [e9] at kk
                rw [nI_1] at hl
                exact ih (i + 1) mq mn me mo mt (nI i) mp mz mu vn vz vc vv vp ve mK mA mB mC mf ml mc mL md mi mr mw ls H locs hc hc1 (by have := pq_lt (j := i) hc (by omega) (by omega) (by assumption); omega) hf hkl hlb (by have := pq_lt (j := i) hc (by omega) (by omega) (by assumption); omega) (lv_sub hl [3, 0] rfl) hP hD hS kk
def LMo_assemble_157 : Nat → (Int32) → (Nat → Int32) → (Nat) → (Nat → Int32) → Nat × (Nat → Int32)
  | 0, _, _, i, mi => (i, mi)
  | n + 1, mz, md, i, mi => if mz ≤ (nI i) then (i, mi) else LMo_assemble_157 n mz md (i + 1) (upd mi (nI i).toNatClampNeg (md (nI i).toNatClampNeg))
set_option maxHeartbeats 4000000 in
set_option maxRecDepth 100000 in
theorem qMo_assemble_157 {p : Program} {l : Launch} {e : Env} {R : Room} {s : State} {m : MethodId} {args : Array Value} {below : List Frame} {meth : Method} {c : Code} {Q : State → Prop} {A : Nat → Prop} (D : va_G) (ad : Nat → Nat) (cI cS : ClassId) (hx : p.tables.exec = Jvm.exec) (hb : c.code = cMo_assemble) (hml : c.maxLocals = 4) (hw : ∀ w ∈ pq_ws, w.before args s = true) (hown : s.vm.findClass RMo = some m.cls) (hE : pq_E D cI cS s) (hA : ∀ q : Nat, s.heap.size ≤ q → A q) (z0 : Nat) : ∀ (n : Nat) (i : Nat) (mq : Int32) (mn : Int32) (me : Int32) (mo : Int32) (mt : Int32) (mx : Int32) (mp : Int32) (mz : Int32) (mu : Int32) (vn : Int32) (vz : Int32) (vc : Int32) (vv : Int32) (vp : Int32) (ve : Int32) (mK : Nat → Int32) (mA : Nat → Int32) (mB : Nat → Int32) (mC : Nat → Int32) (mf : Nat → Int32) (ml : Nat → Int32) (mc : Nat → Int32) (mL : Nat → Int32) (md : Nat → Int32) (mi : Nat → Int32) (mr : Nat → Int32) (mw : Nat → Int32) (ls : Array Slot) (H : Heap) (locs : List Loc), (mz = nI z0) → (z0 ≤ 7200) → (i ≤ z0) → (z0 - i) < n → lv_has ls 4 [(0, .ref (ad 17)), (1, .int (nI i))] → va_P D vwCl (wM ad cI cS mq mn me mo mt mx mp mz mu vn vz vc vv vp ve mK mA mB mC mf ml mc mL md mi mr mw) H → va_D A (wM ad cI cS mq mn me mo mt mx mp mz mu vn vz vc vv vp ve mK mA mB mC mf ml mc mL md mi mr mw) → va_S A s.heap H locs → (∀ (ls : Array Slot) (H : Heap) (locs : List Loc), lv_has ls 4 [(0, .ref (ad 17)), (1, .int (nI ((LMo_assemble_157 n mz md i mi).1)))] → va_P D vwCl (wM ad cI cS mq mn me mo mt mx mp mz mu vn vz vc vv vp ve mK mA mB mC mf ml mc mL md ((LMo_assemble_157 n mz md i mi).2) mr mw) H → va_D A (wM ad cI cS mq mn me mo mt mx mp mz mu vn vz vc vv vp ve mK mA mB mC mf ml mc mL md ((LMo_assemble_157 n mz md i mi).2) mr mw) → va_S A s.heap H locs → W p l e R s m args below meth c H locs 0 0 Q (F0 m 183 ls [])) → W p l e R s m args below meth c H locs 0 0 Q (F0 m 157 ls []) := by
  intro n
  induction n with
  | zero =>
    intro i mq mn me mo mt mx mp mz mu vn vz vc vv vp ve mK mA mB mC mf ml mc mL md mi mr mw ls H locs hc hc1 hi hm hl hP hD hS kk
    exact absurd hm (Nat.not_lt_zero _)
  | succ n ih =>
    intro i mq mn me mo mt mx mp mz mu vn vz vc vv vp ve mK mA mB mC mf ml mc mL md mi mr mw ls H locs hc hc1 hi hm hl hP hD hS kk
    refine lv_iload_n hx hb dMo_assemble_157 rfl (lv_at hl 1 rfl) ?_
    refine lv_aload_n hx hb dMo_assemble_158 rfl (lv_at hl 0 rfl) ?_
    refine va_get (D := D) (ci := 5) (v := .int mz) (C := RMo) (T := TMo) (N := 27) hx hb hw pinMo hown hE.1 hP 0 rfl rfl 16 (by decide) (hw _ wd_199) (fun _ h9 => h9) rfl dMo_assemble_159 ?_
    refine lv_icmp_ge (tgt := 183) hx hb dMo_assemble_162 (by decide) (fun h1 => ?_) (fun h1 => ?_)
    · have e9 : LMo_assemble_157 (n + 1) mz md i mi = (i, mi) := by simp only [LMo_assemble_157, if_pos h1]
      rw [e9] at kk
      exact kk ls H locs (lv_sub hl [0, 1] rfl) hP hD hS
    · refine lv_aload_n hx hb dMo_assemble_165 rfl (lv_at hl 0 rfl) ?_
      refine va_get (D := D) (ci := 5) (v := .ref (ad 27)) (C := RMo) (T := TMo) (N := 27) hx hb hw pinMo hown hE.1 hP 0 rfl rfl 18 (by decide) (hw _ wd_226) (fun _ h9 => h9) rfl dMo_assemble_166 ?_
      refine lv_iload_n hx hb dMo_assemble_169 rfl (lv_at hl 1 rfl) ?_
      refine lv_aload_n hx hb dMo_assemble_170 rfl (lv_at hl 0 rfl) ?_
      refine va_get (D := D) (ci := 5) (v := .ref (ad 26)) (C := RMo) (T := TMo) (N := 27) hx hb hw pinMo hown hE.1 hP 0 rfl rfl 15 (by decide) (hw _ wd_196) (fun _ h9 => h9) rfl dMo_assemble_171 ?_
      refine lv_iload_n hx hb dMo_assemble_174 rfl (lv_at hl 1 rfl) ?_
      refine va_iald hx hb hE.1 hP 9 0 rfl rfl (pq_ix hc hc1 (by decide) (by omega) (by assumption)) dMo_assemble_175 ?_
      refine va_iast hx hb hE.1 hP hD hS 10 0 rfl rfl (pq_ix hc hc1 (by decide) (by omega) (by assumption)) dMo_assemble_176 (fun H locs hP hD hS => ?_)
      have hP : va_P D vwCl (wM ad cI cS mq mn me mo mt mx mp mz mu vn vz vc vv vp ve mK mA mB mC mf ml mc mL md (upd mi (nI i).toNatClampNeg (md (nI i).toNatClampNeg)) mr mw) H := hP
      have hD : va_D _ (wM ad cI cS mq mn me mo mt mx mp mz mu vn vz vc vv vp ve mK mA mB mC mf ml mc mL md (upd mi (nI i).toNatClampNeg (md (nI i).toNatClampNeg)) mr mw) := hD
      refine lv_iinc (k := 1) (v := (nI i) + 1) (lv' := [(1, .int ((nI i) + 1)), (0, .ref (ad 17))]) hx hb dMo_assemble_177 hl rfl (by first | rfl | decide) (by decide) rfl (fun ls hl => ?_)
      refine lv_goto (tgt := 157) hx hb dMo_assemble_180 (by decide) ?_
      have e9 : LMo_assemble_157 (n + 1) mz md i mi = LMo_assemble_157 n mz md (i + 1) (upd mi (nI i).toNatClampNeg (md (nI i).toNatClampNeg)) := by simp only [LMo_assemble_157, if_neg h1]
      rw [e9] at kk
      rw [nI_1] at hl
      exact ih (i + 1) mq mn me mo mt mx mp mz mu vn vz vc vv vp ve mK mA mB mC mf ml mc mL md (upd mi (nI i).toNatClampNeg (md (nI i).toNatClampNeg)) mr mw ls H locs hc hc1 (by have := pq_lt (j := i) hc (by omega) (by omega) (by assumption); omega) (by have := pq_lt (j := i) hc (by omega) (by omega) (by assumption); omega) (lv_sub hl [1, 0] rfl) hP hD hS kk
def FMo_assemble (mn : Int32) (mz : Int32) (mu : Int32) (vn : Int32) (vz : Int32) (vc : Int32) (vv : Int32) (vp : Int32) (ve : Int32) (mK : Nat → Int32) (mA : Nat → Int32) (mB : Nat → Int32) (mC : Nat → Int32) (mf : Nat → Int32) (ml : Nat → Int32) (mc : Nat → Int32) (mL : Nat → Int32) (md : Nat → Int32) (mi : Nat → Int32) (mr : Nat → Int32) (mw : Nat → Int32) : Int32 × Int32 × Int32 × Int32 × Int32 × (Nat → Int32) × (Nat → Int32) × (Nat → Int32) × (Nat → Int32) × Int32 × Int32 × Int32 × Int32 × (Nat → Int32) × (Nat → Int32) × (Nat → Int32) × Int32 × Int32 × Int32 × Int32 × Int32 × Int32 := if (LMo_assemble_11 (mn.toInt.toNat + 1) mn (FMo_reckon mn mK mA mB mf ml mc md).1 mK mA mB mC (FMo_reckon mn mK mA mB mf ml mc md).2.2.2.2.2.2.2 (FMo_reckon mn mK mA mB mf ml mc md).2.2.2.2.1 mL 0 (-1) (FMo_reckon mn mK mA mB mf ml mc md).2.2.2.2.2.1).2.1 = (-1) then ((FMo_reckon mn mK mA mB mf ml mc md).1 / 2, (FMo_reckon mn mK mA mB mf ml mc md).1, (FMo_reckon mn mK mA mB mf ml mc md).2.1, (FMo_reckon mn mK mA mB mf ml mc md).2.2.1, (FMo_reckon mn mK mA mB mf ml mc md).2.2.2.1, (FMo_reckon mn mK mA mB mf ml mc md).2.2.2.2.1, (LMo_assemble_11 (mn.toInt.toNat + 1) mn (FMo_reckon mn mK mA mB mf ml mc md).1 mK mA mB mC (FMo_reckon mn mK mA mB mf ml mc md).2.2.2.2.2.2.2 (FMo_reckon mn mK mA mB mf ml mc md).2.2.2.2.1 mL 0 (-1) (FMo_reckon mn mK mA mB mf ml mc md).2.2.2.2.2.1).2.2, (FMo_reckon mn mK mA mB mf ml mc md).2.2.2.2.2.2.1, (FMo_reckon mn mK mA mB mf ml mc md).2.2.2.2.2.2.2, (LMo_assemble_11 (mn.toInt.toNat + 1) mn (FMo_reckon mn mK mA mB mf ml mc md).1 mK mA mB mC (FMo_reckon mn mK mA mB mf ml mc md).2.2.2.2.2.2.2 (FMo_reckon mn mK mA mB mf ml mc md).2.2.2.2.1 mL 0 (-1) (FMo_reckon mn mK mA mB mf ml mc md).2.2.2.2.2.1).2.1, 0, (FMo_reckon mn mK mA mB mf ml mc md).1 / 2, (FMo_reckon mn mK mA mB mf ml mc md).2.2.2.1, (LMo_assemble_157 (((FMo_reckon mn mK mA mB mf ml mc md).1 / 2).toInt.toNat + 1) ((FMo_reckon mn mK mA mB mf ml mc md).1 / 2) (LMo_assemble_11 (mn.toInt.toNat + 1) mn (FMo_reckon mn mK mA mB mf ml mc md).1 mK mA mB mC (FMo_reckon mn mK mA mB mf ml mc md).2.2.2.2.2.2.2 (FMo_reckon mn mK mA mB mf ml mc md).2.2.2.2.1 mL 0 (-1) (FMo_reckon mn mK mA mB mf ml mc md).2.2.2.2.2.1).2.2 0 mi).2, (FMo_begin mr mw).1, (FMo_begin mr mw).2.1, (FMo_begin mr mw).2.2.1, (FMo_begin mr mw).2.2.2.1, (FMo_begin mr mw).2.2.2.2.1, (FMo_begin mr mw).2.2.2.2.2.1, (FMo_begin mr mw).2.2.2.2.2.2.1, (FMo_begin mr mw).2.2.2.2.2.2.2) else (0, (FMo_reckon mn mK mA mB mf ml mc md).1, (FMo_reckon mn mK mA mB mf ml mc md).2.1, (FMo_reckon mn mK mA mB mf ml mc md).2.2.1, (FMo_reckon mn mK mA mB mf ml mc md).2.2.2.1, (FMo_reckon mn mK mA mB mf ml mc md).2.2.2.2.1, (LMo_assemble_11 (mn.toInt.toNat + 1) mn (FMo_reckon mn mK mA mB mf ml mc md).1 mK mA mB mC (FMo_reckon mn mK mA mB mf ml mc md).2.2.2.2.2.2.2 (FMo_reckon mn mK mA mB mf ml mc md).2.2.2.2.1 mL 0 (-1) (FMo_reckon mn mK mA mB mf ml mc md).2.2.2.2.2.1).2.2, (FMo_reckon mn mK mA mB mf ml mc md).2.2.2.2.2.2.1, (FMo_reckon mn mK mA mB mf ml mc md).2.2.2.2.2.2.2, (LMo_assemble_11 (mn.toInt.toNat + 1) mn (FMo_reckon mn mK mA mB mf ml mc md).1 mK mA mB mC (FMo_reckon mn mK mA mB mf ml mc md).2.2.2.2.2.2.2 (FMo_reckon mn mK mA mB mf ml mc md).2.2.2.2.1 mL 0 (-1) (FMo_reckon mn mK mA mB mf ml mc md).2.2.2.2.2.1).2.1, 1, mz, mu, mi, mr, mw, vn, vz, vc, vv, vp, ve)
set_option maxHeartbeats 4000000 in
set_option maxRecDepth 100000 in
theorem k_Mo_assemble (l : Launch) (D : va_G) (ad : Nat → Nat) (cI cS : ClassId) (mq : Int32) (mn : Int32) (me : Int32) (mo : Int32) (mt : Int32) (mx : Int32) (mp : Int32) (mz : Int32) (mu : Int32) (vn : Int32) (vz : Int32) (vc : Int32) (vv : Int32) (vp : Int32) (ve : Int32) (mK : Nat → Int32) (mA : Nat → Int32) (mB : Nat → Int32) (mC : Nat → Int32) (mf : Nat → Int32) (ml : Nat → Int32) (mc : Nat → Int32) (mL : Nat → Int32) (md : Nat → Int32) (mi : Nat → Int32) (mr : Nat → Int32) (mw : Nat → Int32) (hmn0 : ¬ mn < 0) (hmn1 : mn.toInt ≤ 160) (hf : ∀ y9 : Nat, vp_in (mf y9 / 2) 7200) (hlv : ∀ y9 : Nat, vp_in (ml y9 / 2) 7200) (hsp : ∀ y9 : Nat, y9 < 160 → mK y9 = 13 → (mA y9).toInt ≤ 40) (hkl : ∀ y9 : Nat, (y9 : Int) < mn.toInt → ¬ mK y9 = 0 → ¬ mK y9 = 13 → ¬ mK y9 = 14 → pq_ka (mK y9) (mA y9)) (hlb : ∀ y9 : Nat, ¬ mL y9 = (-1) → ¬ mL y9 < 0) : pq_IP l yMo_assemble (.code yMo_assemble cMo_assemble 4 (some .int) :: pq_ws) { frames := 4, cells := 0, slots := 0, locals := 95 } D cI cS [.ref (ad 17)] (wM ad cI cS mq mn me mo mt mx mp mz mu vn vz vc vv vp ve mK mA mB mC mf ml mc mL md mi mr mw) ((∀ y9 : Nat, vp_in (((FMo_assemble mn mz mu vn vz vc vv vp ve mK mA mB mC mf ml mc mL md mi mr mw).2.2.2.2.2.2.2.2.1) y9 / 2) 7200) ∧ (∀ y9 : Nat, vp_in (((FMo_assemble mn mz mu vn vz vc vv vp ve mK mA mB mC mf ml mc mL md mi mr mw).2.2.2.2.2.2.2.1) y9 / 2) 7200)) ((FMo_assemble mn mz mu vn vz vc vv vp ve mK mA mB mC mf ml mc mL md mi mr mw).1) (wM ad cI cS ((FMo_assemble mn mz mu vn vz vc vv vp ve mK mA mB mC mf ml mc mL md mi mr mw).2.2.2.2.2.2.2.2.2.2.1) mn ((FMo_assemble mn mz mu vn vz vc vv vp ve mK mA mB mC mf ml mc mL md mi mr mw).2.1) ((FMo_assemble mn mz mu vn vz vc vv vp ve mK mA mB mC mf ml mc mL md mi mr mw).2.2.1) ((FMo_assemble mn mz mu vn vz vc vv vp ve mK mA mB mC mf ml mc mL md mi mr mw).2.2.2.1) ((FMo_assemble mn mz mu vn vz vc vv vp ve mK mA mB mC mf ml mc mL md mi mr mw).2.2.2.2.2.2.2.2.2.1) ((FMo_assemble mn mz mu vn vz vc vv vp ve mK mA mB mC mf ml mc mL md mi mr mw).2.2.2.2.1) ((FMo_assemble mn mz mu vn vz vc vv vp ve mK mA mB mC mf ml mc mL md mi mr mw).2.2.2.2.2.2.2.2.2.2.2.1) ((FMo_assemble mn mz mu vn vz vc vv vp ve mK mA mB mC mf ml mc mL md mi mr mw).2.2.2.2.2.2.2.2.2.2.2.2.1) ((FMo_assemble mn mz mu vn vz vc vv vp ve mK mA mB mC mf ml mc mL md mi mr mw).2.2.2.2.2.2.2.2.2.2.2.2.2.2.2.2.1) ((FMo_assemble mn mz mu vn vz vc vv vp ve mK mA mB mC mf ml mc mL md mi mr mw).2.2.2.2.2.2.2.2.2.2.2.2.2.2.2.2.2.1) ((FMo_assemble mn mz mu vn vz vc vv vp ve mK mA mB mC mf ml mc mL md mi mr mw).2.2.2.2.2.2.2.2.2.2.2.2.2.2.2.2.2.2.1) ((FMo_assemble mn mz mu vn vz vc vv vp ve mK mA mB mC mf ml mc mL md mi mr mw).2.2.2.2.2.2.2.2.2.2.2.2.2.2.2.2.2.2.2.1) ((FMo_assemble mn mz mu vn vz vc vv vp ve mK mA mB mC mf ml mc mL md mi mr mw).2.2.2.2.2.2.2.2.2.2.2.2.2.2.2.2.2.2.2.2.1) ((FMo_assemble mn mz mu vn vz vc vv vp ve mK mA mB mC mf ml mc mL md mi mr mw).2.2.2.2.2.2.2.2.2.2.2.2.2.2.2.2.2.2.2.2.2) mK mA mB mC ((FMo_assemble mn mz mu vn vz vc vv vp ve mK mA mB mC mf ml mc mL md mi mr mw).2.2.2.2.2.2.2.2.1) ((FMo_assemble mn mz mu vn vz vc vv vp ve mK mA mB mC mf ml mc mL md mi mr mw).2.2.2.2.2.2.2.1) ((FMo_assemble mn mz mu vn vz vc vv vp ve mK mA mB mC mf ml mc mL md mi mr mw).2.2.2.2.2.1) mL ((FMo_assemble mn mz mu vn vz vc vv vp ve mK mA mB mC mf ml mc mL md mi mr mw).2.2.2.2.2.2.1) ((FMo_assemble mn mz mu vn vz vc vv vp ve mK mA mB mC mf ml mc mL md mi mr mw).2.2.2.2.2.2.2.2.2.2.2.2.2.1) ((FMo_assemble mn mz mu vn vz vc vv vp ve mK mA mB mC mf ml mc mL md mi mr mw).2.2.2.2.2.2.2.2.2.2.2.2.2.2.1) ((FMo_assemble mn mz mu vn vz vc vv vp ve mK mA mB mC mf ml mc mL md mi mr mw).2.2.2.2.2.2.2.2.2.2.2.2.2.2.2.1)) := by
  intro sz
  refine Met.ofW (cc := cMo_assemble) (maxL := 4) (ret := (some .int)) (by decide) rfl ?_
  intro p e s m args below meth c s₁ B hml hv
  obtain ⟨rfl, hsz, hP, hD0, hE⟩ := hv
  have hx := B.exec
  have hb := B.bytes
  have hr := B.returns
  have hts := atoms_spec (ws := (.code yMo_assemble cMo_assemble 4 (some .int) :: pq_ws : List Cond)) B.pre
  have hw : ∀ w ∈ pq_ws, w.before _ s = true := fun w h => hts w (List.mem_cons_of_mem _ h)
  have hown : s.vm.findClass RMo = some m.cls := findClass_of_methodNamed B.named
  have hlocks := B.notSynchronized
  subst hsz
  have hD := hD0.self (sz := s.heap.size)
  have hA : ∀ q : Nat, s.heap.size ≤ q → va_A (wM ad cI cS mq mn me mo mt mx mp mz mu vn vz vc vv vp ve mK mA mB mC mf ml mc mL md mi mr mw) s.heap.size q := fun q h => Or.inr h
  have hS : va_S (va_A (wM ad cI cS mq mn me mo mt mx mp mz mu vn vz vc vv vp ve mK mA mB mC mf ml mc mL md mi mr mw) s.heap.size) s.heap s.heap [] := va_S.rf
  have hl := lv_entry ([.ref (ad 17)] : List Value) (n := 4) (Nat.le_of_ble_eq_true rfl)
  rw [lg_entry_eq]
  generalize (lg_sl ([.ref (ad 17)] : List Value) ++ List.replicate (4 - (lg_sl ([.ref (ad 17)] : List Value)).length) Slot.unset).toArray = ls at hl ⊢
  have hl : lv_has ls 4 [(0, .ref (ad 17))] := hl
  refine lv_aload_n hx hb dMo_assemble_0 rfl (lv_at hl 0 rfl) ?_
  obtain ⟨g1, hg1⟩ : ∃ g9, FMo_reckon mn mK mA mB mf ml mc md = g9 := ⟨_, rfl⟩
  have cg1 := k_Mo_reckon l D ad cI cS mq mn me mo mt mx mp mz mu vn vz vc vv vp ve mK mA mB mC mf ml mc mL md mi mr mw hmn0 hmn1 hf hlv hsp
  rw [hg1] at cg1
  refine pq_callvp (wc := (wM ad cI cS mq mn me mo mt mx mp mz mu vn vz vc vv vp ve mK mA mB mC mf ml mc mL md mi mr mw)) (wr := ([] : List Nat).filterMap (fun i => (wM ad cI cS mq mn me mo mt mx mp mz mu vn vz vc vv vp ve mK mA mB mC mf ml mc mL md mi mr mw)[i]?)) hP hD hS hA [0, 1, 2, 3, 4, 5, 6, 7, 8, 9, 10, 11, 12] [] rfl rfl (by decide) (by decide) (va_runV (own := RMo) (C := RMo) (As := []) (rest := []) ⟨hx, hb, hml, hown, hw⟩ (cg1 s.heap.size) ⟨pq_cwB 0 hw wd_312 wd_186 wd_311 rfl rfl (by decide +kernel) ⟨Nat.le_of_ble_eq_true rfl, Nat.le_of_ble_eq_true rfl⟩, hw _ wd_313, hw _ wd_314⟩ (pq_preV (ci := 5) (C := RMo) (T := TMo) (N := 27) hE (hP.sub [0, 1, 2, 3, 4, 5, 6, 7, 8, 9, 10, 11, 12] rfl) (hD.sub [0, 1, 2, 3, 4, 5, 6, 7, 8, 9, 10, 11, 12] (by decide) rfl) rfl 0 rfl) rfl rfl hl.1 rfl (lv_room (Nat.le_of_ble_eq_true rfl)) dMo_assemble_1 ⟨Nat.zero_le _, Nat.zero_le _⟩) (fun hq9 H locs hP hD hS => ?_)
  obtain ⟨hend, hf, hlv⟩ := hq9
  have hP : va_P D vwCl (wM ad cI cS mq mn g1.1 g1.2.1 g1.2.2.1 mx g1.2.2.2.1 mz mu vn vz vc vv vp ve mK mA mB mC g1.2.2.2.2.2.2.2 g1.2.2.2.2.2.2.1 g1.2.2.2.2.1 mL g1.2.2.2.2.2.1 mi mr mw) H := hP.sub [0, 1, 2, 3, 4, 5, 6, 7, 8, 9, 10, 11, 12] rfl
  have hD : va_D _ (wM ad cI cS mq mn g1.1 g1.2.1 g1.2.2.1 mx g1.2.2.2.1 mz mu vn vz vc vv vp ve mK mA mB mC g1.2.2.2.2.2.2.2 g1.2.2.2.2.2.2.1 g1.2.2.2.2.1 mL g1.2.2.2.2.2.1 mi mr mw) := hD.sub [0, 1, 2, 3, 4, 5, 6, 7, 8, 9, 10, 11, 12] (by decide) rfl
  refine lv_aload_n hx hb dMo_assemble_4 rfl (lv_at hl 0 rfl) ?_
  refine lv_iconst (v := (-1)) hx hb dMo_assemble_5 (by first | rfl | decide) ?_
  refine va_put (D := D) (ci := 5) (v := .int (-1)) (ty := .int) (C := RMo) (T := TMo) (N := 27) hx hb hw pinMo tyMo tyMo_ok nmMo hown hE.1 hP hD hS 0 rfl rfl 13 (by decide) (hw _ wd_198) (fun _ h9 => h9) rfl (by decide +kernel) rfl rfl (Nat.le_of_ble_eq_true rfl) dMo_assemble_6 (fun H locs hP hD hS => ?_)
  have hP : va_P D vwCl (wM ad cI cS mq mn g1.1 g1.2.1 g1.2.2.1 (-1) g1.2.2.2.1 mz mu vn vz vc vv vp ve mK mA mB mC g1.2.2.2.2.2.2.2 g1.2.2.2.2.2.2.1 g1.2.2.2.2.1 mL g1.2.2.2.2.2.1 mi mr mw) H := hP
  have hD : va_D _ (wM ad cI cS mq mn g1.1 g1.2.1 g1.2.2.1 (-1) g1.2.2.2.1 mz mu vn vz vc vv vp ve mK mA mB mC g1.2.2.2.2.2.2.2 g1.2.2.2.2.2.2.1 g1.2.2.2.2.1 mL g1.2.2.2.2.2.1 mi mr mw) := hD
  refine lv_iconst (v := 0) hx hb dMo_assemble_9 (by first | rfl | decide) ?_
  refine lv_istore_n (lv' := [(1, .int 0), (0, .ref (ad 17))]) hx hb dMo_assemble_10 rfl hl (by decide) rfl (fun ls hl => ?_)
  obtain ⟨g2, hg2⟩ : ∃ g9, LMo_assemble_11 (mn.toInt.toNat + 1) mn g1.1 mK mA mB mC g1.2.2.2.2.2.2.2 g1.2.2.2.2.1 mL 0 (-1) g1.2.2.2.2.2.1 = g9 := ⟨_, rfl⟩
  refine qMo_assemble_11 D ad cI cS hx hb hml hw hown hE hA ⟨Nat.le_of_ble_eq_true rfl, Nat.le_of_ble_eq_true rfl⟩ mn.toInt.toNat (mn.toInt.toNat + 1) 0 mq mn g1.1 g1.2.1 g1.2.2.1 (-1) g1.2.2.2.1 mz mu vn vz vc vv vp ve mK mA mB mC g1.2.2.2.2.2.2.2 g1.2.2.2.2.2.2.1 g1.2.2.2.2.1 mL g1.2.2.2.2.2.1 mi mr mw ls H locs (pq_nat hmn0) (pq_nat_le hmn1) (Nat.zero_le _) hf hkl hlb (by omega) (lv_sub hl [1, 0] rfl) hP hD hS (fun ls H locs hl hP hD hS => ?_)
  try rw [hg2] at hl
  try rw [hg2] at hP
  try rw [hg2] at hD
  have hP : va_P D vwCl (wM ad cI cS mq mn g1.1 g1.2.1 g1.2.2.1 g2.2.1 g1.2.2.2.1 mz mu vn vz vc vv vp ve mK mA mB mC g1.2.2.2.2.2.2.2 g1.2.2.2.2.2.2.1 g1.2.2.2.2.1 mL g2.2.2 mi mr mw) H := hP
  have hD : va_D _ (wM ad cI cS mq mn g1.1 g1.2.1 g1.2.2.1 g2.2.1 g1.2.2.2.1 mz mu vn vz vc vv vp ve mK mA mB mC g1.2.2.2.2.2.2.2 g1.2.2.2.2.2.2.1 g1.2.2.2.2.1 mL g2.2.2 mi mr mw) := hD
  refine lv_aload_n hx hb dMo_assemble_111 rfl (lv_at hl 0 rfl) ?_
  refine lv_aload_n hx hb dMo_assemble_112 rfl (lv_at hl 0 rfl) ?_
  refine va_get (D := D) (ci := 5) (v := .int g2.2.1) (C := RMo) (T := TMo) (N := 27) hx hb hw pinMo hown hE.1 hP 0 rfl rfl 13 (by decide) (hw _ wd_198) (fun _ h9 => h9) rfl dMo_assemble_113 ?_
  refine lv_iconst (v := (-1)) hx hb dMo_assemble_116 (by first | rfl | decide) ?_
  refine lv_icmp_ne (tgt := 124) hx hb dMo_assemble_117 (by decide) (fun h1 => ?_) (fun h1 => ?_)
  · refine lv_iconst (v := 1) hx hb dMo_assemble_124 (by first | rfl | decide) ?_
    refine va_put (D := D) (ci := 5) (v := .int 1) (ty := .int) (C := RMo) (T := TMo) (N := 27) hx hb hw pinMo tyMo tyMo_ok nmMo hown hE.1 hP hD hS 0 rfl rfl 0 (by decide) (hw _ wd_184) (fun _ h9 => h9) rfl (by decide +kernel) rfl rfl (Nat.le_of_ble_eq_true rfl) dMo_assemble_125 (fun H locs hP hD hS => ?_)
    have hP : va_P D vwCl (wM ad cI cS 1 mn g1.1 g1.2.1 g1.2.2.1 g2.2.1 g1.2.2.2.1 mz mu vn vz vc vv vp ve mK mA mB mC g1.2.2.2.2.2.2.2 g1.2.2.2.2.2.2.1 g1.2.2.2.2.1 mL g2.2.2 mi mr mw) H := hP
    have hD : va_D _ (wM ad cI cS 1 mn g1.1 g1.2.1 g1.2.2.1 g2.2.1 g1.2.2.2.1 mz mu vn vz vc vv vp ve mK mA mB mC g1.2.2.2.2.2.2.2 g1.2.2.2.2.2.2.1 g1.2.2.2.2.1 mL g2.2.2 mi mr mw) := hD
    refine lv_aload_n hx hb dMo_assemble_128 rfl (lv_at hl 0 rfl) ?_
    refine va_get (D := D) (ci := 5) (v := .int 1) (C := RMo) (T := TMo) (N := 27) hx hb hw pinMo hown hE.1 hP 0 rfl rfl 0 (by decide) (hw _ wd_184) (fun _ h9 => h9) rfl dMo_assemble_129 ?_
    refine lv_if_le (tgt := 137) hx hb dMo_assemble_132 (by decide) (fun h9 => absurd h9 (by decide)) (fun _ => ?_)
    refine lv_iconst (v := 0) hx hb dMo_assemble_135 (by first | rfl | decide) ?_
    have e9 : FMo_assemble mn mz mu vn vz vc vv vp ve mK mA mB mC mf ml mc mL md mi mr mw = (0, g1.1, g1.2.1, g1.2.2.1, g1.2.2.2.1, g1.2.2.2.2.1, g2.2.2, g1.2.2.2.2.2.2.1, g1.2.2.2.2.2.2.2, g2.2.1, 1, mz, mu, mi, mr, mw, vn, vz, vc, vv, vp, ve) := by simp only [FMo_assemble, hg1, hg2, if_neg h1]
    have p9 : (∀ y9 : Nat, vp_in (g1.2.2.2.2.2.2.2 y9 / 2) 7200) ∧ (∀ y9 : Nat, vp_in (g1.2.2.2.2.2.2.1 y9 / 2) 7200) := ⟨by assumption, by assumption⟩
    exact W.iret (v := 0) hx hb hr (fun t ht hW => ⟨⟨0, (), rfl, ⟨by show _ = _; rw [e9], by rw [e9]; exact p9⟩, by rw [e9, ht]; exact hP, by rw [e9]; exact hD⟩, hS.F ht⟩) hS.2.2 dMo_assemble_136
  · refine lv_iconst (v := 0) hx hb dMo_assemble_120 (by first | rfl | decide) ?_
    refine lv_goto (tgt := 125) hx hb dMo_assemble_121 (by decide) ?_
    refine va_put (D := D) (ci := 5) (v := .int 0) (ty := .int) (C := RMo) (T := TMo) (N := 27) hx hb hw pinMo tyMo tyMo_ok nmMo hown hE.1 hP hD hS 0 rfl rfl 0 (by decide) (hw _ wd_184) (fun _ h9 => h9) rfl (by decide +kernel) rfl rfl (Nat.le_of_ble_eq_true rfl) dMo_assemble_125 (fun H locs hP hD hS => ?_)
    have hP : va_P D vwCl (wM ad cI cS 0 mn g1.1 g1.2.1 g1.2.2.1 g2.2.1 g1.2.2.2.1 mz mu vn vz vc vv vp ve mK mA mB mC g1.2.2.2.2.2.2.2 g1.2.2.2.2.2.2.1 g1.2.2.2.2.1 mL g2.2.2 mi mr mw) H := hP
    have hD : va_D _ (wM ad cI cS 0 mn g1.1 g1.2.1 g1.2.2.1 g2.2.1 g1.2.2.2.1 mz mu vn vz vc vv vp ve mK mA mB mC g1.2.2.2.2.2.2.2 g1.2.2.2.2.2.2.1 g1.2.2.2.2.1 mL g2.2.2 mi mr mw) := hD
    refine lv_aload_n hx hb dMo_assemble_128 rfl (lv_at hl 0 rfl) ?_
    refine va_get (D := D) (ci := 5) (v := .int 0) (C := RMo) (T := TMo) (N := 27) hx hb hw pinMo hown hE.1 hP 0 rfl rfl 0 (by decide) (hw _ wd_184) (fun _ h9 => h9) rfl dMo_assemble_129 ?_
    refine lv_if_le (tgt := 137) hx hb dMo_assemble_132 (by decide) (fun _ => ?_) (fun h9 => absurd h9 (by decide))
    refine lv_aload_n hx hb dMo_assemble_137 rfl (lv_at hl 0 rfl) ?_
    refine lv_aload_n hx hb dMo_assemble_138 rfl (lv_at hl 0 rfl) ?_
    refine va_get (D := D) (ci := 5) (v := .int g1.1) (C := RMo) (T := TMo) (N := 27) hx hb hw pinMo hown hE.1 hP 0 rfl rfl 10 (by decide) (hw _ wd_278) (fun _ h9 => h9) rfl dMo_assemble_139 ?_
    refine lv_iconst (v := 2) hx hb dMo_assemble_142 (by first | rfl | decide) ?_
    refine lv_idiv hx hb dMo_assemble_143 (by decide) ?_
    refine va_put (D := D) (ci := 5) (v := .int (g1.1 / 2)) (ty := .int) (C := RMo) (T := TMo) (N := 27) hx hb hw pinMo tyMo tyMo_ok nmMo hown hE.1 hP hD hS 0 rfl rfl 16 (by decide) (hw _ wd_199) (fun _ h9 => h9) rfl (by decide +kernel) rfl rfl (Nat.le_of_ble_eq_true rfl) dMo_assemble_144 (fun H locs hP hD hS => ?_)
    have hP : va_P D vwCl (wM ad cI cS 0 mn g1.1 g1.2.1 g1.2.2.1 g2.2.1 g1.2.2.2.1 (g1.1 / 2) mu vn vz vc vv vp ve mK mA mB mC g1.2.2.2.2.2.2.2 g1.2.2.2.2.2.2.1 g1.2.2.2.2.1 mL g2.2.2 mi mr mw) H := hP
    have hD : va_D _ (wM ad cI cS 0 mn g1.1 g1.2.1 g1.2.2.1 g2.2.1 g1.2.2.2.1 (g1.1 / 2) mu vn vz vc vv vp ve mK mA mB mC g1.2.2.2.2.2.2.2 g1.2.2.2.2.2.2.1 g1.2.2.2.2.1 mL g2.2.2 mi mr mw) := hD
    refine lv_aload_n hx hb dMo_assemble_147 rfl (lv_at hl 0 rfl) ?_
    refine lv_aload_n hx hb dMo_assemble_148 rfl (lv_at hl 0 rfl) ?_
    refine va_get (D := D) (ci := 5) (v := .int g1.2.2.2.1) (C := RMo) (T := TMo) (N := 27) hx hb hw pinMo hown hE.1 hP 0 rfl rfl 14 (by decide) (hw _ wd_293) (fun _ h9 => h9) rfl dMo_assemble_149 ?_
    refine va_put (D := D) (ci := 5) (v := .int g1.2.2.2.1) (ty := .int) (C := RMo) (T := TMo) (N := 27) hx hb hw pinMo tyMo tyMo_ok nmMo hown hE.1 hP hD hS 0 rfl rfl 17 (by decide) (hw _ wd_200) (fun _ h9 => h9) rfl (by decide +kernel) rfl rfl (Nat.le_of_ble_eq_true rfl) dMo_assemble_152 (fun H locs hP hD hS => ?_)
    have hP : va_P D vwCl (wM ad cI cS 0 mn g1.1 g1.2.1 g1.2.2.1 g2.2.1 g1.2.2.2.1 (g1.1 / 2) g1.2.2.2.1 vn vz vc vv vp ve mK mA mB mC g1.2.2.2.2.2.2.2 g1.2.2.2.2.2.2.1 g1.2.2.2.2.1 mL g2.2.2 mi mr mw) H := hP
    have hD : va_D _ (wM ad cI cS 0 mn g1.1 g1.2.1 g1.2.2.1 g2.2.1 g1.2.2.2.1 (g1.1 / 2) g1.2.2.2.1 vn vz vc vv vp ve mK mA mB mC g1.2.2.2.2.2.2.2 g1.2.2.2.2.2.2.1 g1.2.2.2.2.1 mL g2.2.2 mi mr mw) := hD
    have hz := pq_div2 hend.1 hend.2
    refine lv_iconst (v := 0) hx hb dMo_assemble_155 (by first | rfl | decide) ?_
    refine lv_istore_n (lv' := [(1, .int 0), (0, .ref (ad 17))]) hx hb dMo_assemble_156 rfl hl (by decide) rfl (fun ls hl => ?_)
    refine qMo_assemble_157 D ad cI cS hx hb hml hw hown hE hA ((g1.1 / 2).toInt.toNat) ((g1.1 / 2).toInt.toNat + 1) 0 0 mn g1.1 g1.2.1 g1.2.2.1 g2.2.1 g1.2.2.2.1 (g1.1 / 2) g1.2.2.2.1 vn vz vc vv vp ve mK mA mB mC g1.2.2.2.2.2.2.2 g1.2.2.2.2.2.2.1 g1.2.2.2.2.1 mL g2.2.2 mi mr mw ls H locs (pq_nat hz.1) (pq_nat_le hz.2) (Nat.zero_le _) (by omega) (lv_sub hl [1, 0] rfl) hP hD hS (fun ls H locs hl hP hD hS => ?_)
    have hP : va_P D vwCl (wM ad cI cS 0 mn g1.1 g1.2.1 g1.2.2.1 g2.2.1 g1.2.2.2.1 (g1.1 / 2) g1.2.2.2.1 vn vz vc vv vp ve mK mA mB mC g1.2.2.2.2.2.2.2 g1.2.2.2.2.2.2.1 g1.2.2.2.2.1 mL g2.2.2 ((LMo_assemble_157 ((g1.1 / 2).toInt.toNat + 1) (g1.1 / 2) g2.2.2 0 mi).2) mr mw) H := hP
    have hD : va_D _ (wM ad cI cS 0 mn g1.1 g1.2.1 g1.2.2.1 g2.2.1 g1.2.2.2.1 (g1.1 / 2) g1.2.2.2.1 vn vz vc vv vp ve mK mA mB mC g1.2.2.2.2.2.2.2 g1.2.2.2.2.2.2.1 g1.2.2.2.2.1 mL g2.2.2 ((LMo_assemble_157 ((g1.1 / 2).toInt.toNat + 1) (g1.1 / 2) g2.2.2 0 mi).2) mr mw) := hD
    refine lv_aload_n hx hb dMo_assemble_183 rfl (lv_at hl 0 rfl) ?_
    obtain ⟨g3, hg3⟩ : ∃ g9, FMo_begin mr mw = g9 := ⟨_, rfl⟩
    have cg3 := k_Mo_begin l D ad cI cS 0 mn g1.1 g1.2.1 g1.2.2.1 g2.2.1 g1.2.2.2.1 (g1.1 / 2) g1.2.2.2.1 vn vz vc vv vp ve mK mA mB mC g1.2.2.2.2.2.2.2 g1.2.2.2.2.2.2.1 g1.2.2.2.2.1 mL g2.2.2 ((LMo_assemble_157 ((g1.1 / 2).toInt.toNat + 1) (g1.1 / 2) g2.2.2 0 mi).2) mr mw
    rw [hg3] at cg3
    refine pq_callv (wc := (wM ad cI cS 0 mn g1.1 g1.2.1 g1.2.2.1 g2.2.1 g1.2.2.2.1 (g1.1 / 2) g1.2.2.2.1 vn vz vc vv vp ve mK mA mB mC g1.2.2.2.2.2.2.2 g1.2.2.2.2.2.2.1 g1.2.2.2.2.1 mL g2.2.2 ((LMo_assemble_157 ((g1.1 / 2).toInt.toNat + 1) (g1.1 / 2) g2.2.2 0 mi).2) mr mw)) (wr := ([] : List Nat).filterMap (fun i => (wM ad cI cS 0 mn g1.1 g1.2.1 g1.2.2.1 g2.2.1 g1.2.2.2.1 (g1.1 / 2) g1.2.2.2.1 vn vz vc vv vp ve mK mA mB mC g1.2.2.2.2.2.2.2 g1.2.2.2.2.2.2.1 g1.2.2.2.2.1 mL g2.2.2 ((LMo_assemble_157 ((g1.1 / 2).toInt.toNat + 1) (g1.1 / 2) g2.2.2 0 mi).2) mr mw)[i]?)) hP hD hS hA [0, 1, 2, 3, 4, 5, 6, 7, 8, 9, 10, 11, 12] [] rfl rfl (by decide) (by decide) (va_runV (own := RMo) (C := RMo) (As := []) (rest := []) ⟨hx, hb, hml, hown, hw⟩ (cg3 H.size) ⟨pq_cwB 0 hw wd_267 wd_186 wd_266 rfl rfl (by decide +kernel) ⟨Nat.le_of_ble_eq_true rfl, Nat.le_of_ble_eq_true rfl⟩, hw _ wd_268, hw _ wd_269⟩ (pq_preV (ci := 5) (C := RMo) (T := TMo) (N := 27) hE (hP.sub [0, 1, 2, 3, 4, 5, 6, 7, 8, 9, 10, 11, 12] rfl) (hD.sub [0, 1, 2, 3, 4, 5, 6, 7, 8, 9, 10, 11, 12] (by decide) rfl) rfl 0 rfl) rfl rfl hl.1 rfl (lv_room (Nat.le_of_ble_eq_true rfl)) dMo_assemble_184 ⟨Nat.zero_le _, Nat.zero_le _⟩) (fun _ H locs hP hD hS => ?_)
    have hP : va_P D vwCl (wM ad cI cS 0 mn g1.1 g1.2.1 g1.2.2.1 g2.2.1 g1.2.2.2.1 (g1.1 / 2) g1.2.2.2.1 g3.2.2.1 g3.2.2.2.1 g3.2.2.2.2.1 g3.2.2.2.2.2.1 g3.2.2.2.2.2.2.1 g3.2.2.2.2.2.2.2 mK mA mB mC g1.2.2.2.2.2.2.2 g1.2.2.2.2.2.2.1 g1.2.2.2.2.1 mL g2.2.2 ((LMo_assemble_157 ((g1.1 / 2).toInt.toNat + 1) (g1.1 / 2) g2.2.2 0 mi).2) g3.1 g3.2.1) H := hP.sub [0, 1, 2, 3, 4, 5, 6, 7, 8, 9, 10, 11, 12] rfl
    have hD : va_D _ (wM ad cI cS 0 mn g1.1 g1.2.1 g1.2.2.1 g2.2.1 g1.2.2.2.1 (g1.1 / 2) g1.2.2.2.1 g3.2.2.1 g3.2.2.2.1 g3.2.2.2.2.1 g3.2.2.2.2.2.1 g3.2.2.2.2.2.2.1 g3.2.2.2.2.2.2.2 mK mA mB mC g1.2.2.2.2.2.2.2 g1.2.2.2.2.2.2.1 g1.2.2.2.2.1 mL g2.2.2 ((LMo_assemble_157 ((g1.1 / 2).toInt.toNat + 1) (g1.1 / 2) g2.2.2 0 mi).2) g3.1 g3.2.1) := hD.sub [0, 1, 2, 3, 4, 5, 6, 7, 8, 9, 10, 11, 12] (by decide) rfl
    refine lv_aload_n hx hb dMo_assemble_187 rfl (lv_at hl 0 rfl) ?_
    refine va_get (D := D) (ci := 5) (v := .int (g1.1 / 2)) (C := RMo) (T := TMo) (N := 27) hx hb hw pinMo hown hE.1 hP 0 rfl rfl 16 (by decide) (hw _ wd_199) (fun _ h9 => h9) rfl dMo_assemble_188 ?_
    have e9 : FMo_assemble mn mz mu vn vz vc vv vp ve mK mA mB mC mf ml mc mL md mi mr mw = (g1.1 / 2, g1.1, g1.2.1, g1.2.2.1, g1.2.2.2.1, g1.2.2.2.2.1, g2.2.2, g1.2.2.2.2.2.2.1, g1.2.2.2.2.2.2.2, g2.2.1, 0, g1.1 / 2, g1.2.2.2.1, (LMo_assemble_157 ((g1.1 / 2).toInt.toNat + 1) (g1.1 / 2) g2.2.2 0 mi).2, g3.1, g3.2.1, g3.2.2.1, g3.2.2.2.1, g3.2.2.2.2.1, g3.2.2.2.2.2.1, g3.2.2.2.2.2.2.1, g3.2.2.2.2.2.2.2) := by simp only [FMo_assemble, hg1, hg2, hg3, if_pos h1]
    have p9 : (∀ y9 : Nat, vp_in (g1.2.2.2.2.2.2.2 y9 / 2) 7200) ∧ (∀ y9 : Nat, vp_in (g1.2.2.2.2.2.2.1 y9 / 2) 7200) := ⟨by assumption, by assumption⟩
    exact W.iret (v := g1.1 / 2) hx hb hr (fun t ht hW => ⟨⟨g1.1 / 2, (), rfl, ⟨by show _ = _; rw [e9], by rw [e9]; exact p9⟩, by rw [e9, ht]; exact hP, by rw [e9]; exact hD⟩, hS.F ht⟩) hS.2.2 dMo_assemble_191
