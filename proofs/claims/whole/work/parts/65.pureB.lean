/-- the reference's answer of one deed, as the class gives it -/
def pu_q (t : Int32 × (Nat → Int32) × (Nat → Int32) × Int32 × Int32 × Int32 × Int32 × Int32 × Int32) : Int32 × (Nat → Int32) × (Nat → Int32) × Int32 × Int32 × Int32 × Int32 × Int32 :=
  (if t.1 = 0 then 2 else t.2.2.2.2.2.2.2.2, t.2.1, t.2.2.1, t.2.2.2.2.2.2.2.1, t.2.2.2.1, t.2.2.2.2.1, t.2.2.2.2.2.1, t.2.2.2.2.2.2.1)
theorem pf_two {α : Type} {c d : Prop} [Decidable c] [Decidable d] {a b : α} (h : c ∨ d) : (if c then a else if d then a else b) = a := by
  by_cases hc : c
  · rw [if_pos hc]
  · rw [if_neg hc, if_pos (h.resolve_left hc)]
theorem pf_in {α : Type} {c d : Prop} [Decidable c] [Decidable d] {a b : α} (h : ¬ c) (g : ¬ d) : (if c then a else if d then a else b) = b := by
  rw [if_neg h, if_neg g]
theorem pf_three {α : Type} {c d e : Prop} [Decidable c] [Decidable d] [Decidable e] {a b : α} (h : c ∨ d ∨ e) : (if c then a else if d then a else if e then a else b) = a := by
  by_cases hc : c
  · rw [if_pos hc]
  · rw [if_neg hc]; exact pf_two (h.resolve_left hc)
section
variable {h : Nat} {mz vn vz vc vv vp ve : Int32} {mi mr mw : Nat → Int32}
theorem pf_1 (hh : h < 65536) (hm : mi (vp / 2).toNatClampNeg = nI h) (ho : FMo_outside vp 0 ((2 * mz) - 1) = 0) (g : h < 8192 ∨ 16384 ≤ h) : FMo_one mz vn vz vc vv vp ve mi mr mw = JMo_one_68 mz vn vz vc vv vp ve mi mr mw := by
  unfold FMo_one
  rw [if_pos ho]
  exact pf_two (by rw [hm, pc_lt hh 8192 8192 rfl (by omega), pc_le hh 16384 16384 rfl (by omega)]; exact g)
theorem pf_2 (hh : h < 65536) (hm : mi (vp / 2).toNatClampNeg = nI h) (g : h < 6144 ∨ 6656 ≤ h) : JMo_one_68 mz vn vz vc vv vp ve mi mr mw = JMo_one_122 mz vn vz vc vv vp ve mi mr mw := by
  unfold JMo_one_68
  exact pf_two (by rw [hm, pc_lt hh 6144 6144 rfl (by omega), pc_le hh 6656 6656 rfl (by omega)]; exact g)
theorem pf_3 (hh : h < 65536) (hm : mi (vp / 2).toNatClampNeg = nI h) (g : h < 6656 ∨ 7168 ≤ h) : JMo_one_122 mz vn vz vc vv vp ve mi mr mw = JMo_one_176 mz vn vz vc vv vp ve mi mr mw := by
  unfold JMo_one_122
  exact pf_two (by rw [hm, pc_lt hh 6656 6656 rfl (by omega), pc_le hh 7168 7168 rfl (by omega)]; exact g)
theorem pf_4 (hh : h < 65536) (hm : mi (vp / 2).toNatClampNeg = nI h) (g : h < 16384 ∨ 17408 ≤ h ∨ FMo_isDeed ((nI h - 16384) / 64) = 0) : JMo_one_176 mz vn vz vc vv vp ve mi mr mw = JMo_one_216 mz vn vz vc vv vp ve mi mr mw := by
  unfold JMo_one_176
  exact pf_three (by rw [hm, pc_lt hh 16384 16384 rfl (by omega), pc_le hh 17408 17408 rfl (by omega)]; exact g)
theorem pf_5 (hh : h < 65536) (hm : mi (vp / 2).toNatClampNeg = nI h) (g : h < 18432 ∨ 20480 ≤ h) : JMo_one_216 mz vn vz vc vv vp ve mi mr mw = JMo_one_243 vn vz vc vv vp ve mi mr mw := by
  unfold JMo_one_216
  exact pf_two (by rw [hm, pc_lt hh 18432 18432 rfl (by omega), pc_le hh 20480 20480 rfl (by omega)]; exact g)
theorem pf_6 (hh : h < 65536) (hm : mi (vp / 2).toNatClampNeg = nI h) (g : h < 24576 ∨ 28672 ≤ h) : JMo_one_243 vn vz vc vv vp ve mi mr mw = JMo_one_270 vn vz vc vv vp ve mi mr mw := by
  unfold JMo_one_243
  exact pf_two (by rw [hm, pc_lt hh 24576 24576 rfl (by omega), pc_le hh 28672 28672 rfl (by omega)]; exact g)
theorem pf_7 (hh : h < 65536) (hm : mi (vp / 2).toNatClampNeg = nI h) (g : h < 53248 ∨ 57344 ≤ h ∨ FMo_isCondition ((nI h - 53248) / 256) = 0) : JMo_one_270 vn vz vc vv vp ve mi mr mw = JMo_one_331 vn vz vc vv vp ve mi mr mw := by
  unfold JMo_one_270
  exact pf_three (by rw [hm, pc_lt hh 53248 53248 rfl (by omega), pc_le hh 57344 57344 rfl (by omega)]; exact g)
theorem pf_8 (hh : h < 65536) (hm : mi (vp / 2).toNatClampNeg = nI h) (g : h < 57344 ∨ 59392 ≤ h) : JMo_one_331 vn vz vc vv vp ve mi mr mw = JMo_one_358 vn vz vc vv vp ve mi mr mw := by
  unfold JMo_one_331
  exact pf_two (by rw [hm, pc_lt hh 57344 57344 rfl (by omega), pc_le hh 59392 59392 rfl (by omega)]; exact g)
theorem pf_9 (hh : h < 65536) (hm : mi (vp / 2).toNatClampNeg = nI h) (g : h ≠ 18112) (g2 : h ≠ 48640) : JMo_one_358 vn vz vc vv vp ve mi mr mw = (0, mr, mw, vn, vz, vc, vv, vp, ve) := by
  unfold JMo_one_358
  rw [hm, if_neg (by rw [pc_eq hh 18112 18112 rfl (by omega)]; exact g), if_neg (by rw [pc_eq hh 48640 48640 rfl (by omega)]; exact g2)]
theorem pf_10 (hh : h < 65536) (hm : mi (vp / 2).toNatClampNeg = nI h) (g : h = 18112) : JMo_one_358 vn vz vc vv vp ve mi mr mw = (1, mr, mw, vn, vz, vc, vv, vp + 2, ve) := by
  unfold JMo_one_358
  rw [hm, if_pos (by rw [pc_eq hh 18112 18112 rfl (by omega)]; exact g), if_neg (by rw [pc_eq hh 48640 48640 rfl (by omega)]; omega)]
theorem pf_11 (hh : h < 65536) (hm : mi (vp / 2).toNatClampNeg = nI h) (g : h = 48640) : JMo_one_358 vn vz vc vv vp ve mi mr mw = (1, mr, mw, vn, vz, vc, vv, vp, 1) := by
  unfold JMo_one_358
  rw [hm, if_neg (by rw [pc_eq hh 18112 18112 rfl (by omega)]; omega), if_pos (by rw [pc_eq hh 48640 48640 rfl (by omega)]; exact g)]
end

section
variable {h : Nat} {rp fn fz fc fv gn : Int32} {rr rw gh : Nat → Int32}
theorem pg_k {k : Nat} (hh : h < 65536) (e : h / 2048 = k) : nI h >>> ((11 : Int32) &&& 31) = nI k := by rw [pc_s11 hh, e]
theorem pg_3 (hh : h < 65536) (e : h / 2048 = 3) : FPr_perform (nI h) rp fn fz fc fv rr rw gn gh = ((FPr_addOrTake (nI h) rp fn fz fc fv rr).1, (FPr_addOrTake (nI h) rp fn fz fc fv rr).2.1, rw, (FPr_addOrTake (nI h) rp fn fz fc fv rr).2.2.1, (FPr_addOrTake (nI h) rp fn fz fc fv rr).2.2.2.1, (FPr_addOrTake (nI h) rp fn fz fc fv rr).2.2.2.2.1, (FPr_addOrTake (nI h) rp fn fz fc fv rr).2.2.2.2.2.1, (FPr_addOrTake (nI h) rp fn fz fc fv rr).2.2.2.2.2.2) := by
  unfold FPr_perform
  rw [pg_k hh e]; rfl
theorem pg_4 (hh : h < 65536) (e : 8192 ≤ h ∧ h < 16384) : FPr_perform (nI h) rp fn fz fc fv rr rw gn gh = ((FPr_workWithSmall (nI h) rp fc fv rr).1, (FPr_workWithSmall (nI h) rp fc fv rr).2.1, rw, (FPr_workWithSmall (nI h) rp fc fv rr).2.2.1, (FPr_workWithSmall (nI h) rp fc fv rr).2.2.2.1, (FPr_workWithSmall (nI h) rp fc fv rr).2.2.2.2.1, (FPr_workWithSmall (nI h) rp fc fv rr).2.2.2.2.2.1, (FPr_workWithSmall (nI h) rp fc fv rr).2.2.2.2.2.2) := by
  have e4 : h / 2048 = 4 ∨ h / 2048 = 5 ∨ h / 2048 = 6 ∨ h / 2048 = 7 := by omega
  unfold FPr_perform
  rcases e4 with e | e | e | e <;> rw [pg_k hh e] <;> rfl
theorem pg_8 (hh : h < 65536) (e : h / 2048 = 8) : FPr_perform (nI h) rp fn fz fc fv rr rw gn gh = if nI h = 18112 then (((FPr_next rp).1), rr, rw, (FPr_next rp).2, fn, fz, fc, fv) else ((FPr_work (nI h) rp fn fz fc fv rr).1, (FPr_work (nI h) rp fn fz fc fv rr).2.1, rw, (FPr_work (nI h) rp fn fz fc fv rr).2.2.1, (FPr_work (nI h) rp fn fz fc fv rr).2.2.2.1, (FPr_work (nI h) rp fn fz fc fv rr).2.2.2.2.1, (FPr_work (nI h) rp fn fz fc fv rr).2.2.2.2.2.1, (FPr_work (nI h) rp fn fz fc fv rr).2.2.2.2.2.2) := by
  unfold FPr_perform
  rw [pg_k hh e]; rfl
theorem pg_9 (hh : h < 65536) (e : h / 2048 = 9) : FPr_perform (nI h) rp fn fz fc fv rr rw gn gh = ((FPr_loadConstant (nI h) rp rr gn gh).1, (FPr_loadConstant (nI h) rp rr gn gh).2.1, rw, (FPr_loadConstant (nI h) rp rr gn gh).2.2, fn, fz, fc, fv) := by
  unfold FPr_perform
  rw [pg_k hh e]; rfl
theorem pg_12 (hh : h < 65536) (e : h / 2048 = 12 ∨ h / 2048 = 13) : FPr_perform (nI h) rp fn fz fc fv rr rw gn gh = ((FPr_storeOrLoad (nI h) rp rr rw).1, (FPr_storeOrLoad (nI h) rp rr rw).2.1, (FPr_storeOrLoad (nI h) rp rr rw).2.2.1, (FPr_storeOrLoad (nI h) rp rr rw).2.2.2, fn, fz, fc, fv) := by
  unfold FPr_perform
  rcases e with e | e <;> rw [pg_k hh e] <;> rfl
theorem pg_23 (hh : h < 65536) (e : h / 2048 = 23) : FPr_perform (nI h) rp fn fz fc fv rr rw gn gh = if nI h = 48640 then (1, rr, rw, rp, fn, fz, fc, fv) else (2, rr, rw, rp, fn, fz, fc, fv) := by
  unfold FPr_perform
  rw [pg_k hh e]; rfl
theorem pg_26 (hh : h < 65536) (e : h / 2048 = 26 ∨ h / 2048 = 27) : FPr_perform (nI h) rp fn fz fc fv rr rw gn gh = (((FPr_branchIf (nI h) rp fn fz fc fv).1), rr, rw, (FPr_branchIf (nI h) rp fn fz fc fv).2, fn, fz, fc, fv) := by
  unfold FPr_perform
  rcases e with e | e <;> rw [pg_k hh e] <;> rfl
theorem pg_28 (hh : h < 65536) (e : h / 2048 = 28) : FPr_perform (nI h) rp fn fz fc fv rr rw gn gh = (((FPr_branch (((nI h) <<< ((21 : Int32) &&& 31)) >>> ((21 : Int32) &&& 31)) rp).1), rr, rw, (FPr_branch (((nI h) <<< ((21 : Int32) &&& 31)) >>> ((21 : Int32) &&& 31)) rp).2, fn, fz, fc, fv) := by
  unfold FPr_perform
  rw [pg_k hh e]; rfl
theorem pg_bad (hh : h < 65536) (e : h / 2048 ≤ 2 ∨ h / 2048 = 10 ∨ h / 2048 = 11 ∨ (14 ≤ h / 2048 ∧ h / 2048 ≤ 22) ∨ h / 2048 = 24 ∨ h / 2048 = 25 ∨ 29 ≤ h / 2048) : FPr_perform (nI h) rp fn fz fc fv rr rw gn gh = (2, rr, rw, rp, fn, fz, fc, fv) := by
  have e4 : h / 2048 = 0 ∨ h / 2048 = 1 ∨ h / 2048 = 2 ∨ h / 2048 = 10 ∨ h / 2048 = 11 ∨ h / 2048 = 14 ∨ h / 2048 = 15 ∨ h / 2048 = 16 ∨ h / 2048 = 17 ∨ h / 2048 = 18 ∨ h / 2048 = 19 ∨ h / 2048 = 20 ∨ h / 2048 = 21 ∨ h / 2048 = 22 ∨ h / 2048 = 24 ∨ h / 2048 = 25 ∨ h / 2048 = 29 ∨ h / 2048 = 30 ∨ h / 2048 = 31 := by omega
  unfold FPr_perform
  rcases e4 with e | e | e | e | e | e | e | e | e | e | e | e | e | e | e | e | e | e | e <;> rw [pg_k hh e] <;> rfl
end

section
variable {h : Nat} {rp fn fz fc fv gn mz : Int32} {rr rw gh mi : Nat → Int32}
theorem ph_bad (hh : h < 65536) (hm : mi (rp / 2).toNatClampNeg = nI h) (ho : FMo_outside rp 0 ((2 * mz) - 1) = 0) (g : FMo_one mz fn fz fc fv rp 0 mi rr rw = (0, rr, rw, fn, fz, fc, fv, rp, 0)) (g2 : FPr_perform (nI h) rp fn fz fc fv rr rw gn gh = (2, rr, rw, rp, fn, fz, fc, fv)) :
    FPr_perform (nI h) rp fn fz fc fv rr rw gn gh = pu_q (FMo_one mz fn fz fc fv rp 0 mi rr rw) := by
  rw [g, g2]; rfl
theorem ph_nil (hh : h < 65536) (hm : mi (rp / 2).toNatClampNeg = nI h) (ho : FMo_outside rp 0 ((2 * mz) - 1) = 0)
    (g4 : h < 16384 ∨ 17408 ≤ h ∨ FMo_isDeed ((nI h - 16384) / 64) = 0) (g7 : h < 53248 ∨ 57344 ≤ h ∨ FMo_isCondition ((nI h - 53248) / 256) = 0)
    (g1 : h < 6144 ∨ (7168 ≤ h ∧ h < 8192) ∨ (16384 ≤ h ∧ h < 18432 ∧ h ≠ 18112) ∨ (20480 ≤ h ∧ h < 24576) ∨ (28672 ≤ h ∧ h < 57344 ∧ h ≠ 48640) ∨ 59392 ≤ h) :
    FMo_one mz fn fz fc fv rp 0 mi rr rw = (0, rr, rw, fn, fz, fc, fv, rp, 0) := by
  rw [pf_1 hh hm ho (by omega), pf_2 hh hm (by omega), pf_3 hh hm (by omega), pf_4 hh hm g4, pf_5 hh hm (by omega), pf_6 hh hm (by omega), pf_7 hh hm g7, pf_8 hh hm (by omega), pf_9 hh hm (by omega) (by omega)]
theorem ph_B (hh : h < 65536) (hm : mi (rp / 2).toNatClampNeg = nI h) (ho : FMo_outside rp 0 ((2 * mz) - 1) = 0) (g : 6144 ≤ h ∧ h < 6656) :
    FPr_perform (nI h) rp fn fz fc fv rr rw gn gh = pu_q (FMo_one mz fn fz fc fv rp 0 mi rr rw) := by
  rw [pg_3 hh (by omega), pf_1 hh hm ho (by omega)]
  unfold JMo_one_68 FPr_addOrTake
  rw [hm, if_neg (c := nI h < 6144) (by rw [pc_lt hh 6144 6144 rfl (by omega)]; omega), if_neg (c := (6656 : Int32) ≤ nI h) (by rw [pc_le hh 6656 6656 rfl (by omega)]; omega), if_neg (c := nI h = 48640) (by rw [pc_eq hh 48640 48640 rfl (by omega)]; omega), if_pos (c := nI h < 7168) (by rw [pc_lt hh 7168 7168 rfl (by omega)]; omega), if_neg (c := (6656 : Int32) ≤ nI h) (by rw [pc_le hh 6656 6656 rfl (by omega)]; omega)]
  simp only [pc_rm hh 8 8 rfl (by omega) (by omega), pc_div hh 8 8 rfl (by omega) (by omega), pc_div hh 64 64 rfl (by omega) (by omega), pc_div (h := h / 8) (by omega) 8 8 rfl (by omega) (by omega), pc_div (h := h / 64) (by omega) 8 8 rfl (by omega) (by omega), pc_7 hh, pc_s3 hh, pc_s6 hh, pc_rm (h := h / 8) (by omega) 8 8 rfl (by omega) (by omega), pc_rm (h := h / 64) (by omega) 8 8 rfl (by omega) (by omega), pc_7 (h := h / 8) (by omega), pc_7 (h := h / 64) (by omega), pc_sum]
  rfl
theorem ph_C (hh : h < 65536) (hm : mi (rp / 2).toNatClampNeg = nI h) (ho : FMo_outside rp 0 ((2 * mz) - 1) = 0) (g : 6656 ≤ h ∧ h < 7168) :
    FPr_perform (nI h) rp fn fz fc fv rr rw gn gh = pu_q (FMo_one mz fn fz fc fv rp 0 mi rr rw) := by
  rw [pg_3 hh (by omega), pf_1 hh hm ho (by omega), pf_2 hh hm (by omega)]
  unfold JMo_one_122 FPr_addOrTake
  rw [hm, if_neg (c := nI h < 6656) (by rw [pc_lt hh 6656 6656 rfl (by omega)]; omega), if_neg (c := (7168 : Int32) ≤ nI h) (by rw [pc_le hh 7168 7168 rfl (by omega)]; omega), if_neg (c := nI h = 48640) (by rw [pc_eq hh 48640 48640 rfl (by omega)]; omega), if_pos (c := nI h < 7168) (by rw [pc_lt hh 7168 7168 rfl (by omega)]; omega), if_pos (c := (6656 : Int32) ≤ nI h) (by rw [pc_le hh 6656 6656 rfl (by omega)]; omega)]
  simp only [pc_rm hh 8 8 rfl (by omega) (by omega), pc_div hh 8 8 rfl (by omega) (by omega), pc_div hh 64 64 rfl (by omega) (by omega), pc_div (h := h / 8) (by omega) 8 8 rfl (by omega) (by omega), pc_div (h := h / 64) (by omega) 8 8 rfl (by omega) (by omega), pc_7 hh, pc_s3 hh, pc_s6 hh, pc_rm (h := h / 8) (by omega) 8 8 rfl (by omega) (by omega), pc_rm (h := h / 64) (by omega) 8 8 rfl (by omega) (by omega), pc_7 (h := h / 8) (by omega), pc_7 (h := h / 64) (by omega), pc_difference]
  rfl
theorem ph_D (hh : h < 65536) (hm : mi (rp / 2).toNatClampNeg = nI h) (ho : FMo_outside rp 0 ((2 * mz) - 1) = 0) (g : 7168 ≤ h ∧ h < 8192) :
    FPr_perform (nI h) rp fn fz fc fv rr rw gn gh = pu_q (FMo_one mz fn fz fc fv rp 0 mi rr rw) := by
  refine ph_bad hh hm ho (ph_nil hh hm ho (by omega) (by omega) (by omega)) ?_
  rw [pg_3 hh (by omega)]
  unfold FPr_addOrTake
  rw [if_neg (c := nI h < 7168) (by rw [pc_lt hh 7168 7168 rfl (by omega)]; omega)]
theorem ph_E (hh : h < 65536) (hm : mi (rp / 2).toNatClampNeg = nI h) (ho : FMo_outside rp 0 ((2 * mz) - 1) = 0) (g : 8192 ≤ h ∧ h < 16384) :
    FPr_perform (nI h) rp fn fz fc fv rr rw gn gh = pu_q (FMo_one mz fn fz fc fv rp 0 mi rr rw) := by
  rw [pg_4 hh (by omega)]
  unfold FMo_one
  rw [if_pos ho, hm, if_neg (c := nI h < 8192) (by rw [pc_lt hh 8192 8192 rfl (by omega)]; omega), if_neg (c := (16384 : Int32) ≤ nI h) (by rw [pc_le hh 16384 16384 rfl (by omega)]; omega), if_neg (c := nI h = 48640) (by rw [pc_eq hh 48640 48640 rfl (by omega)]; omega), pc_sub 8192 8192 rfl g.1]
  unfold FMo_small FPr_workWithSmall
  have e4 : (h - 8192) / 2048 = 0 ∨ (h - 8192) / 2048 = 1 ∨ (h - 8192) / 2048 = 2 ∨ (h - 8192) / 2048 = 3 := by omega
  have a1 : (h - 8192) / 256 % 8 = h / 256 % 8 := by omega
  have a2 : (h - 8192) % 256 = h % 256 := by omega
  rw [pc_sub 8192 8192 rfl g.1, pc_s11 (h := h - 8192) (by omega), pc_div (h := h - 8192) (by omega) 2048 2048 rfl (by omega) (by omega)]
  simp only [pc_rm (h := h - 8192) (by omega) 256 256 rfl (by omega) (by omega), pc_div (h := h - 8192) (by omega) 256 256 rfl (by omega) (by omega), pc_div (h := (h - 8192) / 256) (by omega) 8 8 rfl (by omega) (by omega), pc_s8 hh, pc_255 hh, pc_7 (h := h / 256) (by omega), pc_rm (h := (h - 8192) / 256) (by omega) 8 8 rfl (by omega) (by omega), pc_sum, pc_difference, a1, a2]
  rcases e4 with e | e | e | e <;> rw [e]
  · rw [if_pos (c := 1 + nI 0 = 1) (by decide), if_pos (c := nI 0 = 0) (by decide), if_neg (c := nI 0 = 1) (by decide)]; rfl
  · rw [if_neg (c := 1 + nI 1 = 1) (by decide), if_pos (c := 1 + nI 1 = 2) (by decide), if_neg (c := nI 1 = 0) (by decide), if_neg (c := nI 1 = 2) (by decide), if_pos (c := nI 1 = 1) (by decide)]; rfl
  · rw [if_neg (c := 1 + nI 2 = 1) (by decide), if_neg (c := 1 + nI 2 = 2) (by decide), if_pos (c := 1 + nI 2 = 3) (by decide), if_neg (c := nI 2 = 0) (by decide), if_pos (c := nI 2 = 2) (by decide), if_neg (c := nI 2 = 1) (by decide)]; rfl
  · rw [if_neg (c := 1 + nI 3 = 1) (by decide), if_neg (c := 1 + nI 3 = 2) (by decide), if_neg (c := 1 + nI 3 = 3) (by decide), if_neg (c := nI 3 = 0) (by decide), if_neg (c := nI 3 = 2) (by decide), if_neg (c := nI 3 = 1) (by decide)]; rfl
end

def pi_t (rp : Int32) (d : (Nat → Int32) × Int32 × Int32 × Int32 × Int32) : Int32 × (Nat → Int32) × Int32 × Int32 × Int32 × Int32 × Int32 := (0, d.1, rp + 2, d.2.1, d.2.2.1, d.2.2.2.1, d.2.2.2.2)
section
variable {h : Nat} {rp fn fz fc fv gn mz : Int32} {rr rw gh mi : Nat → Int32}
theorem pi_deed {d : Nat} (hd : d < 16) (hn : FMo_isDeed (nI d) = 0) : d = 2 ∨ d = 3 ∨ d = 4 ∨ d = 5 ∨ d = 6 ∨ d = 7 ∨ d = 8 ∨ d = 9 ∨ d = 11 := by
  have := (by decide +kernel : ∀ d : Fin 16, FMo_isDeed (nI d.val) = 0 → (d.val = 2 ∨ d.val = 3 ∨ d.val = 4 ∨ d.val = 5 ∨ d.val = 6 ∨ d.val = 7 ∨ d.val = 8 ∨ d.val = 9 ∨ d.val = 11)) ⟨d, hd⟩ hn
  exact this
theorem pi_deed2 {d : Nat} (hd : d < 16) (hn : ¬ FMo_isDeed (nI d) = 0) : d = 0 ∨ d = 1 ∨ d = 10 ∨ d = 12 ∨ d = 13 ∨ d = 14 ∨ d = 15 := by
  have := (by decide +kernel : ∀ d : Fin 16, ¬ FMo_isDeed (nI d.val) = 0 → (d.val = 0 ∨ d.val = 1 ∨ d.val = 10 ∨ d.val = 12 ∨ d.val = 13 ∨ d.val = 14 ∨ d.val = 15)) ⟨d, hd⟩ hn
  exact this
theorem pi_w (hh : h < 65536) {r : Nat} (he : h = 16384 + r) (hr : r < 1024) : (nI h - 16384) >>> ((6 : Int32) &&& 31) = nI (r / 64) := by
  rw [pc_sb 16384 16384 rfl he, pc_s6 (h := r) (by omega)]
theorem pi_d (hh : h < 65536) {r : Nat} (he : h = 16384 + r) (hr : r < 1024) : nI r / 64 = nI (r / 64) := pc_div (h := r) (by omega) 64 64 rfl (by omega) (by omega)
theorem pi_r8 (hh : h < 65536) {r : Nat} (he : h = 16384 + r) (hr : r < 1024) : nI r - nI r / 8 * 8 = nI (h % 8) := by
  rw [pc_rem (h := r) (by omega) 8 8 rfl (by omega) (by omega), show r % 8 = h % 8 by omega]
theorem pi_r88 (hh : h < 65536) {r : Nat} (he : h = 16384 + r) (hr : r < 1024) : nI r / 8 - nI r / 8 / 8 * 8 = nI (h / 8 % 8) := by
  rw [pc_div (h := r) (by omega) 8 8 rfl (by omega) (by omega), pc_rem (h := r / 8) (by omega) 8 8 rfl (by omega) (by omega), show r / 8 % 8 = h / 8 % 8 by omega]
theorem pi_s37 (hh : h < 65536) : (nI h >>> ((3 : Int32) &&& 31)) &&& (7 : Int32) = nI (h / 8 % 8) := by rw [pc_s3 hh, pc_7 (h := h / 8) (by omega)]
theorem pi_s67 (hh : h < 65536) : (nI h >>> ((6 : Int32) &&& 31)) &&& (7 : Int32) = nI (h / 64 % 8) := by rw [pc_s6 hh, pc_7 (h := h / 64) (by omega)]
theorem pi_D0 (hh : h < 65536) {r : Nat} (he : h = 16384 + r) (hr : r < 1024) (e : r / 64 = 0) : FMo_deed (nI r) fc fv rr = (upd rr (nI (h % 8)).toNatClampNeg (FMo_result ((rr (nI (h % 8)).toNatClampNeg) &&& (rr (nI (h / 8 % 8)).toNatClampNeg))).1, (FMo_result ((rr (nI (h % 8)).toNatClampNeg) &&& (rr (nI (h / 8 % 8)).toNatClampNeg))).2.1, (FMo_result ((rr (nI (h % 8)).toNatClampNeg) &&& (rr (nI (h / 8 % 8)).toNatClampNeg))).2.2, fc, fv) := by
  unfold FMo_deed
  rw [pi_r8 hh he hr, pi_r88 hh he hr, pi_d hh he hr, e]
  simp only [if_pos (show nI 0 = 0 by decide), if_neg (show ¬ nI 0 = 1 by decide), if_neg (show ¬ nI 0 = 10 by decide), if_neg (show ¬ nI 0 = 12 by decide), if_neg (show ¬ nI 0 = 13 by decide), if_neg (show ¬ nI 0 = 14 by decide), if_neg (show ¬ nI 0 = 15 by decide)]
theorem pi_W0 (hh : h < 65536) {r : Nat} (he : h = 16384 + r) (hr : r < 1024) (e : r / 64 = 0) : FPr_work (nI h) rp fn fz fc fv rr = pi_t rp (upd rr (nI (h % 8)).toNatClampNeg (FMo_result ((rr (nI (h % 8)).toNatClampNeg) &&& (rr (nI (h / 8 % 8)).toNatClampNeg))).1, (FMo_result ((rr (nI (h % 8)).toNatClampNeg) &&& (rr (nI (h / 8 % 8)).toNatClampNeg))).2.1, (FMo_result ((rr (nI (h % 8)).toNatClampNeg) &&& (rr (nI (h / 8 % 8)).toNatClampNeg))).2.2, fc, fv) := by
  unfold FPr_work FPr_next pi_t
  rw [pi_w hh he hr, pi_s37 hh, pc_7 hh, e]
  simp only [if_pos (show nI 0 = 0 by decide), pc_noted]
theorem pi_D1 (hh : h < 65536) {r : Nat} (he : h = 16384 + r) (hr : r < 1024) (e : r / 64 = 1) : FMo_deed (nI r) fc fv rr = (upd rr (nI (h % 8)).toNatClampNeg (FMo_result ((rr (nI (h % 8)).toNatClampNeg) ^^^ (rr (nI (h / 8 % 8)).toNatClampNeg))).1, (FMo_result ((rr (nI (h % 8)).toNatClampNeg) ^^^ (rr (nI (h / 8 % 8)).toNatClampNeg))).2.1, (FMo_result ((rr (nI (h % 8)).toNatClampNeg) ^^^ (rr (nI (h / 8 % 8)).toNatClampNeg))).2.2, fc, fv) := by
  unfold FMo_deed
  rw [pi_r8 hh he hr, pi_r88 hh he hr, pi_d hh he hr, e]
  simp only [if_neg (show ¬ nI 1 = 0 by decide), if_pos (show nI 1 = 1 by decide), if_neg (show ¬ nI 1 = 10 by decide), if_neg (show ¬ nI 1 = 12 by decide), if_neg (show ¬ nI 1 = 13 by decide), if_neg (show ¬ nI 1 = 14 by decide), if_neg (show ¬ nI 1 = 15 by decide)]
theorem pi_W1 (hh : h < 65536) {r : Nat} (he : h = 16384 + r) (hr : r < 1024) (e : r / 64 = 1) : FPr_work (nI h) rp fn fz fc fv rr = pi_t rp (upd rr (nI (h % 8)).toNatClampNeg (FMo_result ((rr (nI (h % 8)).toNatClampNeg) ^^^ (rr (nI (h / 8 % 8)).toNatClampNeg))).1, (FMo_result ((rr (nI (h % 8)).toNatClampNeg) ^^^ (rr (nI (h / 8 % 8)).toNatClampNeg))).2.1, (FMo_result ((rr (nI (h % 8)).toNatClampNeg) ^^^ (rr (nI (h / 8 % 8)).toNatClampNeg))).2.2, fc, fv) := by
  unfold FPr_work FPr_next pi_t
  rw [pi_w hh he hr, pi_s37 hh, pc_7 hh, e]
  simp only [if_neg (show ¬ nI 1 = 0 by decide), if_pos (show nI 1 = 1 by decide), pc_noted]
theorem pi_D12 (hh : h < 65536) {r : Nat} (he : h = 16384 + r) (hr : r < 1024) (e : r / 64 = 12) : FMo_deed (nI r) fc fv rr = (upd rr (nI (h % 8)).toNatClampNeg (FMo_result ((rr (nI (h % 8)).toNatClampNeg) ||| (rr (nI (h / 8 % 8)).toNatClampNeg))).1, (FMo_result ((rr (nI (h % 8)).toNatClampNeg) ||| (rr (nI (h / 8 % 8)).toNatClampNeg))).2.1, (FMo_result ((rr (nI (h % 8)).toNatClampNeg) ||| (rr (nI (h / 8 % 8)).toNatClampNeg))).2.2, fc, fv) := by
  unfold FMo_deed
  rw [pi_r8 hh he hr, pi_r88 hh he hr, pi_d hh he hr, e]
  simp only [if_neg (show ¬ nI 12 = 0 by decide), if_neg (show ¬ nI 12 = 1 by decide), if_neg (show ¬ nI 12 = 10 by decide), if_pos (show nI 12 = 12 by decide), if_neg (show ¬ nI 12 = 13 by decide), if_neg (show ¬ nI 12 = 14 by decide), if_neg (show ¬ nI 12 = 15 by decide)]
theorem pi_W12 (hh : h < 65536) {r : Nat} (he : h = 16384 + r) (hr : r < 1024) (e : r / 64 = 12) : FPr_work (nI h) rp fn fz fc fv rr = pi_t rp (upd rr (nI (h % 8)).toNatClampNeg (FMo_result ((rr (nI (h % 8)).toNatClampNeg) ||| (rr (nI (h / 8 % 8)).toNatClampNeg))).1, (FMo_result ((rr (nI (h % 8)).toNatClampNeg) ||| (rr (nI (h / 8 % 8)).toNatClampNeg))).2.1, (FMo_result ((rr (nI (h % 8)).toNatClampNeg) ||| (rr (nI (h / 8 % 8)).toNatClampNeg))).2.2, fc, fv) := by
  unfold FPr_work FPr_next pi_t
  rw [pi_w hh he hr, pi_s37 hh, pc_7 hh, e]
  simp only [if_neg (show ¬ nI 12 = 0 by decide), if_neg (show ¬ nI 12 = 1 by decide), if_neg (show ¬ nI 12 = 2 by decide), if_neg (show ¬ nI 12 = 3 by decide), if_neg (show ¬ nI 12 = 4 by decide), if_neg (show ¬ nI 12 = 5 by decide), if_neg (show ¬ nI 12 = 6 by decide), if_neg (show ¬ nI 12 = 7 by decide), if_neg (show ¬ nI 12 = 8 by decide), if_neg (show ¬ nI 12 = 9 by decide), if_neg (show ¬ nI 12 = 10 by decide), if_neg (show ¬ nI 12 = 11 by decide), if_pos (show nI 12 = 12 by decide), pc_noted]
theorem pi_D13 (hh : h < 65536) {r : Nat} (he : h = 16384 + r) (hr : r < 1024) (e : r / 64 = 13) : FMo_deed (nI r) fc fv rr = (upd rr (nI (h % 8)).toNatClampNeg (FMo_result ((rr (nI (h % 8)).toNatClampNeg) * (rr (nI (h / 8 % 8)).toNatClampNeg))).1, (FMo_result ((rr (nI (h % 8)).toNatClampNeg) * (rr (nI (h / 8 % 8)).toNatClampNeg))).2.1, (FMo_result ((rr (nI (h % 8)).toNatClampNeg) * (rr (nI (h / 8 % 8)).toNatClampNeg))).2.2, fc, fv) := by
  unfold FMo_deed
  rw [pi_r8 hh he hr, pi_r88 hh he hr, pi_d hh he hr, e]
  simp only [if_neg (show ¬ nI 13 = 0 by decide), if_neg (show ¬ nI 13 = 1 by decide), if_neg (show ¬ nI 13 = 10 by decide), if_neg (show ¬ nI 13 = 12 by decide), if_pos (show nI 13 = 13 by decide), if_neg (show ¬ nI 13 = 14 by decide), if_neg (show ¬ nI 13 = 15 by decide)]
theorem pi_W13 (hh : h < 65536) {r : Nat} (he : h = 16384 + r) (hr : r < 1024) (e : r / 64 = 13) : FPr_work (nI h) rp fn fz fc fv rr = pi_t rp (upd rr (nI (h % 8)).toNatClampNeg (FMo_result ((rr (nI (h % 8)).toNatClampNeg) * (rr (nI (h / 8 % 8)).toNatClampNeg))).1, (FMo_result ((rr (nI (h % 8)).toNatClampNeg) * (rr (nI (h / 8 % 8)).toNatClampNeg))).2.1, (FMo_result ((rr (nI (h % 8)).toNatClampNeg) * (rr (nI (h / 8 % 8)).toNatClampNeg))).2.2, fc, fv) := by
  unfold FPr_work FPr_next pi_t
  rw [pi_w hh he hr, pi_s37 hh, pc_7 hh, e]
  simp only [if_neg (show ¬ nI 13 = 0 by decide), if_neg (show ¬ nI 13 = 1 by decide), if_neg (show ¬ nI 13 = 2 by decide), if_neg (show ¬ nI 13 = 3 by decide), if_neg (show ¬ nI 13 = 4 by decide), if_neg (show ¬ nI 13 = 5 by decide), if_neg (show ¬ nI 13 = 6 by decide), if_neg (show ¬ nI 13 = 7 by decide), if_neg (show ¬ nI 13 = 8 by decide), if_neg (show ¬ nI 13 = 9 by decide), if_neg (show ¬ nI 13 = 10 by decide), if_neg (show ¬ nI 13 = 11 by decide), if_neg (show ¬ nI 13 = 12 by decide), if_pos (show nI 13 = 13 by decide), pc_noted]
theorem pi_D14 (hh : h < 65536) {r : Nat} (he : h = 16384 + r) (hr : r < 1024) (e : r / 64 = 14) : FMo_deed (nI r) fc fv rr = (upd rr (nI (h % 8)).toNatClampNeg (FMo_result ((rr (nI (h % 8)).toNatClampNeg) - ((rr (nI (h % 8)).toNatClampNeg) &&& (rr (nI (h / 8 % 8)).toNatClampNeg)))).1, (FMo_result ((rr (nI (h % 8)).toNatClampNeg) - ((rr (nI (h % 8)).toNatClampNeg) &&& (rr (nI (h / 8 % 8)).toNatClampNeg)))).2.1, (FMo_result ((rr (nI (h % 8)).toNatClampNeg) - ((rr (nI (h % 8)).toNatClampNeg) &&& (rr (nI (h / 8 % 8)).toNatClampNeg)))).2.2, fc, fv) := by
  unfold FMo_deed
  rw [pi_r8 hh he hr, pi_r88 hh he hr, pi_d hh he hr, e]
  simp only [if_neg (show ¬ nI 14 = 0 by decide), if_neg (show ¬ nI 14 = 1 by decide), if_neg (show ¬ nI 14 = 10 by decide), if_neg (show ¬ nI 14 = 12 by decide), if_neg (show ¬ nI 14 = 13 by decide), if_pos (show nI 14 = 14 by decide), if_neg (show ¬ nI 14 = 15 by decide)]
theorem pi_W14 (hh : h < 65536) {r : Nat} (he : h = 16384 + r) (hr : r < 1024) (e : r / 64 = 14) : FPr_work (nI h) rp fn fz fc fv rr = pi_t rp (upd rr (nI (h % 8)).toNatClampNeg (FMo_result ((rr (nI (h % 8)).toNatClampNeg) - ((rr (nI (h % 8)).toNatClampNeg) &&& (rr (nI (h / 8 % 8)).toNatClampNeg)))).1, (FMo_result ((rr (nI (h % 8)).toNatClampNeg) - ((rr (nI (h % 8)).toNatClampNeg) &&& (rr (nI (h / 8 % 8)).toNatClampNeg)))).2.1, (FMo_result ((rr (nI (h % 8)).toNatClampNeg) - ((rr (nI (h % 8)).toNatClampNeg) &&& (rr (nI (h / 8 % 8)).toNatClampNeg)))).2.2, fc, fv) := by
  unfold FPr_work FPr_next pi_t
  rw [pi_w hh he hr, pi_s37 hh, pc_7 hh, e]
  simp only [if_neg (show ¬ nI 14 = 0 by decide), if_neg (show ¬ nI 14 = 1 by decide), if_neg (show ¬ nI 14 = 2 by decide), if_neg (show ¬ nI 14 = 3 by decide), if_neg (show ¬ nI 14 = 4 by decide), if_neg (show ¬ nI 14 = 5 by decide), if_neg (show ¬ nI 14 = 6 by decide), if_neg (show ¬ nI 14 = 7 by decide), if_neg (show ¬ nI 14 = 8 by decide), if_neg (show ¬ nI 14 = 9 by decide), if_neg (show ¬ nI 14 = 10 by decide), if_neg (show ¬ nI 14 = 11 by decide), if_neg (show ¬ nI 14 = 12 by decide), if_neg (show ¬ nI 14 = 13 by decide), if_pos (show nI 14 = 14 by decide), pc_noted, pc_bic]
theorem pi_D15 (hh : h < 65536) {r : Nat} (he : h = 16384 + r) (hr : r < 1024) (e : r / 64 = 15) : FMo_deed (nI r) fc fv rr = (upd rr (nI (h % 8)).toNatClampNeg (FMo_result (-1 - (rr (nI (h / 8 % 8)).toNatClampNeg))).1, (FMo_result (-1 - (rr (nI (h / 8 % 8)).toNatClampNeg))).2.1, (FMo_result (-1 - (rr (nI (h / 8 % 8)).toNatClampNeg))).2.2, fc, fv) := by
  unfold FMo_deed
  rw [pi_r8 hh he hr, pi_r88 hh he hr, pi_d hh he hr, e]
  simp only [if_neg (show ¬ nI 15 = 0 by decide), if_neg (show ¬ nI 15 = 1 by decide), if_neg (show ¬ nI 15 = 10 by decide), if_neg (show ¬ nI 15 = 12 by decide), if_neg (show ¬ nI 15 = 13 by decide), if_neg (show ¬ nI 15 = 14 by decide), if_pos (show nI 15 = 15 by decide)]
theorem pi_W15 (hh : h < 65536) {r : Nat} (he : h = 16384 + r) (hr : r < 1024) (e : r / 64 = 15) : FPr_work (nI h) rp fn fz fc fv rr = pi_t rp (upd rr (nI (h % 8)).toNatClampNeg (FMo_result ((rr (nI (h / 8 % 8)).toNatClampNeg) ^^^ -1)).1, (FMo_result ((rr (nI (h / 8 % 8)).toNatClampNeg) ^^^ -1)).2.1, (FMo_result ((rr (nI (h / 8 % 8)).toNatClampNeg) ^^^ -1)).2.2, fc, fv) := by
  unfold FPr_work FPr_next pi_t
  rw [pi_w hh he hr, pi_s37 hh, pc_7 hh, e]
  simp only [if_neg (show ¬ nI 15 = 0 by decide), if_neg (show ¬ nI 15 = 1 by decide), if_neg (show ¬ nI 15 = 2 by decide), if_neg (show ¬ nI 15 = 3 by decide), if_neg (show ¬ nI 15 = 4 by decide), if_neg (show ¬ nI 15 = 5 by decide), if_neg (show ¬ nI 15 = 6 by decide), if_neg (show ¬ nI 15 = 7 by decide), if_neg (show ¬ nI 15 = 8 by decide), if_neg (show ¬ nI 15 = 9 by decide), if_neg (show ¬ nI 15 = 10 by decide), if_neg (show ¬ nI 15 = 11 by decide), if_neg (show ¬ nI 15 = 12 by decide), if_neg (show ¬ nI 15 = 13 by decide), if_neg (show ¬ nI 15 = 14 by decide), if_pos (show nI 15 = 15 by decide), pc_noted]
theorem pi_D10 (hh : h < 65536) {r : Nat} (he : h = 16384 + r) (hr : r < 1024) (e : r / 64 = 10) : FMo_deed (nI r) fc fv rr = (rr, (FMo_difference (rr (nI (h % 8)).toNatClampNeg) (rr (nI (h / 8 % 8)).toNatClampNeg)).2.1, (FMo_difference (rr (nI (h % 8)).toNatClampNeg) (rr (nI (h / 8 % 8)).toNatClampNeg)).2.2.1, (FMo_difference (rr (nI (h % 8)).toNatClampNeg) (rr (nI (h / 8 % 8)).toNatClampNeg)).2.2.2.1, (FMo_difference (rr (nI (h % 8)).toNatClampNeg) (rr (nI (h / 8 % 8)).toNatClampNeg)).2.2.2.2) := by
  unfold FMo_deed
  rw [pi_r8 hh he hr, pi_r88 hh he hr, pi_d hh he hr, e]
  simp only [if_neg (show ¬ nI 10 = 0 by decide), if_neg (show ¬ nI 10 = 1 by decide), if_pos (show nI 10 = 10 by decide), if_neg (show ¬ nI 10 = 12 by decide), if_neg (show ¬ nI 10 = 13 by decide), if_neg (show ¬ nI 10 = 14 by decide), if_neg (show ¬ nI 10 = 15 by decide)]
theorem pi_W10 (hh : h < 65536) {r : Nat} (he : h = 16384 + r) (hr : r < 1024) (e : r / 64 = 10) : FPr_work (nI h) rp fn fz fc fv rr = pi_t rp (rr, (FMo_difference (rr (nI (h % 8)).toNatClampNeg) (rr (nI (h / 8 % 8)).toNatClampNeg)).2.1, (FMo_difference (rr (nI (h % 8)).toNatClampNeg) (rr (nI (h / 8 % 8)).toNatClampNeg)).2.2.1, (FMo_difference (rr (nI (h % 8)).toNatClampNeg) (rr (nI (h / 8 % 8)).toNatClampNeg)).2.2.2.1, (FMo_difference (rr (nI (h % 8)).toNatClampNeg) (rr (nI (h / 8 % 8)).toNatClampNeg)).2.2.2.2) := by
  unfold FPr_work FPr_next pi_t
  rw [pi_w hh he hr, pi_s37 hh, pc_7 hh, e]
  simp only [if_neg (show ¬ nI 10 = 0 by decide), if_neg (show ¬ nI 10 = 1 by decide), if_neg (show ¬ nI 10 = 2 by decide), if_neg (show ¬ nI 10 = 3 by decide), if_neg (show ¬ nI 10 = 4 by decide), if_neg (show ¬ nI 10 = 5 by decide), if_neg (show ¬ nI 10 = 6 by decide), if_neg (show ¬ nI 10 = 7 by decide), if_neg (show ¬ nI 10 = 8 by decide), if_neg (show ¬ nI 10 = 9 by decide), if_pos (show nI 10 = 10 by decide), pc_difference]
end

theorem pi_join {rp : Int32} {rw : Nat → Int32} {w : Int32 × (Nat → Int32) × Int32 × Int32 × Int32 × Int32 × Int32} {d : (Nat → Int32) × Int32 × Int32 × Int32 × Int32} (h : w = pi_t rp d) : (w.1, w.2.1, rw, w.2.2.1, w.2.2.2.1, w.2.2.2.2.1, w.2.2.2.2.2.1, w.2.2.2.2.2.2) = pu_q (1, d.1, rw, d.2.1, d.2.2.1, d.2.2.2.1, d.2.2.2.2, rp + 2, 0) := by
  subst h; rfl
section
variable {h : Nat} {rp fn fz fc fv gn mz : Int32} {rr rw gh mi : Nat → Int32}
theorem pi_F (hh : h < 65536) (hm : mi (rp / 2).toNatClampNeg = nI h) (ho : FMo_outside rp 0 ((2 * mz) - 1) = 0) {r : Nat} (he : h = 16384 + r) (hr : r < 1024) :
    FPr_perform (nI h) rp fn fz fc fv rr rw gn gh = pu_q (FMo_one mz fn fz fc fv rp 0 mi rr rw) := by
  have e1 : (nI h - 16384) / 64 = nI (r / 64) := by rw [pc_sb 16384 16384 rfl he, pi_d hh he hr]
  have e3 : ¬ nI h = 18112 := by rw [pc_eq hh 18112 18112 rfl (by omega)]; omega
  by_cases hd : FMo_isDeed (nI (r / 64)) = 0
  · refine ph_bad hh hm ho (ph_nil hh hm ho (Or.inr (Or.inr (by rw [e1]; exact hd))) (by omega) (by omega)) ?_
    rw [pg_8 hh (by omega), if_neg e3]
    unfold FPr_work
    rw [pi_w hh he hr]
    rcases pi_deed (by omega) hd with e | e | e | e | e | e | e | e | e <;> rw [e] <;> rfl
  · rw [pg_8 hh (by omega), if_neg e3, pf_1 hh hm ho (by omega), pf_2 hh hm (by omega), pf_3 hh hm (by omega)]
    unfold JMo_one_176
    rw [hm, if_neg (c := nI h < 16384) (by rw [pc_lt hh 16384 16384 rfl (by omega)]; omega), if_neg (c := (17408 : Int32) ≤ nI h) (by rw [pc_le hh 17408 17408 rfl (by omega)]; omega), e1, if_neg hd, if_neg (c := nI h = 48640) (by rw [pc_eq hh 48640 48640 rfl (by omega)]; omega), pc_sb 16384 16384 rfl he]
    refine pi_join ?_
    rcases pi_deed2 (by omega) hd with e | e | e | e | e | e | e
    · rw [pi_D0 hh he hr e, pi_W0 hh he hr e]
    · rw [pi_D1 hh he hr e, pi_W1 hh he hr e]
    · rw [pi_D10 hh he hr e, pi_W10 hh he hr e]
    · rw [pi_D12 hh he hr e, pi_W12 hh he hr e]
    · rw [pi_D13 hh he hr e, pi_W13 hh he hr e]
    · rw [pi_D14 hh he hr e, pi_W14 hh he hr e]
    · rw [pi_D15 hh he hr e, pi_W15 hh he hr e, pc_not]
end

section
variable {h : Nat} {rp fn fz fc fv gn mz : Int32} {rr rw gh mi : Nat → Int32}
theorem pi_18112 (hh : h < 65536) (hm : mi (rp / 2).toNatClampNeg = nI h) (ho : FMo_outside rp 0 ((2 * mz) - 1) = 0) (g : h = 18112) :
    FPr_perform (nI h) rp fn fz fc fv rr rw gn gh = pu_q (FMo_one mz fn fz fc fv rp 0 mi rr rw) := by
  rw [pg_8 hh (by omega), if_pos (by rw [g]; rfl), pf_1 hh hm ho (by omega), pf_2 hh hm (by omega), pf_3 hh hm (by omega), pf_4 hh hm (by omega), pf_5 hh hm (by omega), pf_6 hh hm (by omega), pf_7 hh hm (by omega), pf_8 hh hm (by omega), pf_10 hh hm g]
  rfl
theorem pi_48640 (hh : h < 65536) (hm : mi (rp / 2).toNatClampNeg = nI h) (ho : FMo_outside rp 0 ((2 * mz) - 1) = 0) (g : h = 48640) :
    FPr_perform (nI h) rp fn fz fc fv rr rw gn gh = pu_q (FMo_one mz fn fz fc fv rp 0 mi rr rw) := by
  rw [pg_23 hh (by omega), if_pos (by rw [g]; rfl), pf_1 hh hm ho (by omega), pf_2 hh hm (by omega), pf_3 hh hm (by omega), pf_4 hh hm (by omega), pf_5 hh hm (by omega), pf_6 hh hm (by omega), pf_7 hh hm (by omega), pf_8 hh hm (by omega), pf_11 hh hm g]
  rfl
theorem pi_work (hh : h < 65536) (hm : mi (rp / 2).toNatClampNeg = nI h) (ho : FMo_outside rp 0 ((2 * mz) - 1) = 0) (g : 17408 ≤ h ∧ h < 18432 ∧ h ≠ 18112) :
    FPr_perform (nI h) rp fn fz fc fv rr rw gn gh = pu_q (FMo_one mz fn fz fc fv rp 0 mi rr rw) := by
  refine ph_bad hh hm ho (ph_nil hh hm ho (by omega) (by omega) (by omega)) ?_
  rw [pg_8 hh (by omega), if_neg (by rw [pc_eq hh 18112 18112 rfl (by omega)]; omega)]
  have e2 : (nI h - 16384) >>> ((6 : Int32) &&& 31) = nI ((h - 16384) / 64) := by
    rw [pc_sub 16384 16384 rfl (by omega), pc_s6 (h := h - 16384) (by omega)]
  unfold FPr_work
  rw [e2]
  have e4 : 16 ≤ (h - 16384) / 64 ∧ (h - 16384) / 64 < 32 := by omega
  generalize (h - 16384) / 64 = d at e4
  have hn : ∀ m : Nat, m < 16 → ¬ nI d = nI m := fun m hm9 q => by have := (nI_eq (a := d) (b := m) (by omega) (by omega)).mp q; omega
  rw [if_neg (c := nI d = 0) (hn 0 (by omega)), if_neg (c := nI d = 1) (hn 1 (by omega)), if_neg (c := nI d = 2) (hn 2 (by omega)), if_neg (c := nI d = 3) (hn 3 (by omega)), if_neg (c := nI d = 4) (hn 4 (by omega)), if_neg (c := nI d = 5) (hn 5 (by omega)), if_neg (c := nI d = 6) (hn 6 (by omega)), if_neg (c := nI d = 7) (hn 7 (by omega)), if_neg (c := nI d = 8) (hn 8 (by omega)), if_neg (c := nI d = 9) (hn 9 (by omega)), if_neg (c := nI d = 10) (hn 10 (by omega)), if_neg (c := nI d = 11) (hn 11 (by omega)), if_neg (c := nI d = 12) (hn 12 (by omega)), if_neg (c := nI d = 13) (hn 13 (by omega)), if_neg (c := nI d = 14) (hn 14 (by omega)), if_neg (c := nI d = 15) (hn 15 (by omega))]
theorem pi_none (hh : h < 65536) (hm : mi (rp / 2).toNatClampNeg = nI h) (ho : FMo_outside rp 0 ((2 * mz) - 1) = 0) (g : h < 6144 ∨ (20480 ≤ h ∧ h < 24576) ∨ (28672 ≤ h ∧ h < 53248 ∧ h ≠ 48640) ∨ 59392 ≤ h) :
    FPr_perform (nI h) rp fn fz fc fv rr rw gn gh = pu_q (FMo_one mz fn fz fc fv rp 0 mi rr rw) := by
  refine ph_bad hh hm ho (ph_nil hh hm ho (by omega) (by omega) (by omega)) ?_
  by_cases e : h / 2048 = 23
  · rw [pg_23 hh e, if_neg (by rw [pc_eq hh 48640 48640 rfl (by omega)]; omega)]
  · exact pg_bad hh (by omega)
end
