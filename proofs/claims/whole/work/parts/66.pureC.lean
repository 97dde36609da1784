theorem pk9_holds {q a b c d : Nat} (hq : q < 16) (ha : a < 2) (hb : b < 2) (hc : c < 2) (hd : d < 2) (hn : ¬ FMo_isCondition (nI q) = 0) :
    (FPr_holds (nI q) (nI a) (nI b) (nI c) (nI d) = 0) ↔ (FMo_holds (nI q) (nI a) (nI b) (nI c) (nI d) = 0) :=
  (by decide +kernel : ∀ q : Fin 16, ∀ a b c d : Fin 2, ¬ FMo_isCondition (nI q.val) = 0 → ((FPr_holds (nI q.val) (nI a.val) (nI b.val) (nI c.val) (nI d.val) = 0) ↔ (FMo_holds (nI q.val) (nI a.val) (nI b.val) (nI c.val) (nI d.val) = 0))) ⟨q, hq⟩ ⟨a, ha⟩ ⟨b, hb⟩ ⟨c, hc⟩ ⟨d, hd⟩ hn
theorem pk9_goal {r v w : Nat} (hr : r < 65536) (hv : v < 65536) {V : Int32} (eV : V = nI v) (ew : w = v / 2) {rp : Int32} : FMo_goal (nI r) V rp = rp + (4 + 2 * (if w ≤ r then nI r - V else nI r)) := by
  subst eV; subst ew
  unfold FMo_goal
  rw [pc_div hv 2 2 rfl (by omega) (by omega)]
  by_cases h : v / 2 ≤ r
  · rw [if_pos ((nI_leI (by omega) (by omega)).mpr h), if_pos h, Int32.add_assoc]
  · rw [if_neg (fun q => h ((nI_leI (by omega) (by omega)).mp q)), if_neg h, Int32.add_assoc]
section
variable {h : Nat} {rp fn fz fc fv gn mz : Int32} {rr rw gh mi : Nat → Int32}
theorem pk9_M (hh : h < 65536) (hm : mi (rp / 2).toNatClampNeg = nI h) (ho : FMo_outside rp 0 ((2 * mz) - 1) = 0) {r : Nat} (he : h = 57344 + r) (hr : r < 2048) :
    FPr_perform (nI h) rp fn fz fc fv rr rw gn gh = pu_q (FMo_one mz fn fz fc fv rp 0 mi rr rw) := by
  rw [pg_28 hh (by omega), pf_1 hh hm ho (by omega), pf_2 hh hm (by omega), pf_3 hh hm (by omega), pf_4 hh hm (by omega), pf_5 hh hm (by omega), pf_6 hh hm (by omega), pf_7 hh hm (by omega)]
  unfold JMo_one_331
  rw [hm, if_neg (c := nI h < 57344) (by rw [pc_lt hh 57344 57344 rfl (by omega)]; omega), if_neg (c := (59392 : Int32) ≤ nI h) (by rw [pc_le hh 59392 59392 rfl (by omega)]; omega), if_neg (c := nI h = 48640) (by rw [pc_eq hh 48640 48640 rfl (by omega)]; omega), pc_sb 57344 57344 rfl he, pk9_goal (V := 2048) (v := 2048) (w := 1024) (by omega) (by omega) rfl rfl, pc_i11 hh, show h % 2048 = r by omega]
  unfold FPr_branch pu_q
  rw [if_neg (c := (1 : Int32) = 0) (by decide)]
theorem pk9_L (hh : h < 65536) (hm : mi (rp / 2).toNatClampNeg = nI h) (ho : FMo_outside rp 0 ((2 * mz) - 1) = 0) (bn : ∃ a : Nat, a < 2 ∧ fn = nI a) (bz : ∃ a : Nat, a < 2 ∧ fz = nI a) (bc : ∃ a : Nat, a < 2 ∧ fc = nI a) (bv : ∃ a : Nat, a < 2 ∧ fv = nI a) {r : Nat} (he : h = 53248 + r) (hr : r < 4096) :
    FPr_perform (nI h) rp fn fz fc fv rr rw gn gh = pu_q (FMo_one mz fn fz fc fv rp 0 mi rr rw) := by
  obtain ⟨a, ha, rfl⟩ := bn
  obtain ⟨b, hb, rfl⟩ := bz
  obtain ⟨c, hc, rfl⟩ := bc
  obtain ⟨d, hd, rfl⟩ := bv
  have e1 : (nI h - 53248) / 256 = nI (r / 256) := by rw [pc_sb 53248 53248 rfl he, pc_div (h := r) (by omega) 256 256 rfl (by omega) (by omega)]
  have e2 : (nI h >>> ((8 : Int32) &&& 31)) &&& (15 : Int32) = nI (r / 256) := by
    rw [pc_s8 hh, pc_15 (h := h / 256) (by omega), show h / 256 % 16 = r / 256 by omega]
  rw [pg_26 hh (by omega)]
  unfold FPr_branchIf FPr_next FPr_branch
  rw [e2, pu_cond]
  by_cases hq : FMo_isCondition (nI (r / 256)) = 0
  · rw [if_pos hq, ph_nil hh hm ho (by omega) (Or.inr (Or.inr (by rw [e1]; exact hq))) (by omega)]
    rfl
  · rw [if_neg hq, pf_1 hh hm ho (by omega), pf_2 hh hm (by omega), pf_3 hh hm (by omega), pf_4 hh hm (by omega), pf_5 hh hm (by omega), pf_6 hh hm (by omega)]
    unfold JMo_one_270
    rw [hm, if_neg (c := nI h < 53248) (by rw [pc_lt hh 53248 53248 rfl (by omega)]; omega), if_neg (c := (57344 : Int32) ≤ nI h) (by rw [pc_le hh 57344 57344 rfl (by omega)]; omega), e1, if_neg hq]
    by_cases hg : FMo_holds (nI (r / 256)) (nI a) (nI b) (nI c) (nI d) = 0
    · rw [if_pos ((pk9_holds (by omega) ha hb hc hd hq).mpr hg), if_pos hg, if_neg (c := nI h = 48640) (by rw [pc_eq hh 48640 48640 rfl (by omega)]; omega)]
      unfold pu_q
      rw [if_neg (c := (1 : Int32) = 0) (by decide)]
    · rw [if_neg (fun q => hg ((pk9_holds (by omega) ha hb hc hd hq).mp q)), if_neg hg, if_neg (c := nI h = 48640) (by rw [pc_eq hh 48640 48640 rfl (by omega)]; omega), pc_rem hh 256 256 rfl (by omega) (by omega), pk9_goal (V := 256) (v := 256) (w := 128) (by omega) (by omega) rfl rfl, pc_i8 hh]
      unfold pu_q
      rw [if_neg (c := (1 : Int32) = 0) (by decide)]
end

theorem pc_dv {h : Nat} (hh : h < 2 ^ 31) (c : Int32) (m : Nat) (e : c = nI m) (h0 : 0 < m) (hm : m < 2 ^ 31) : nI h / c = nI (h / m) := by
  subst e; exact pk_div hh h0 hm
/-- the image: what the class keeps beside what the reference keeps -/
def pu_I (gn mz : Int32) (gh mi : Nat → Int32) (z : Nat) : Prop := z ≤ 6400 ∧ gn = nI z ∧ mz = nI z ∧ ∀ k : Nat, k < z → ∃ h : Nat, h < 65536 ∧ mi k = nI h ∧ pq_sh gh k = (nI h).toInt16.toInt32
theorem pl_at {z k : Nat} {gh : Nat → Int32} (hz : z ≤ 6400) (hk : k < z) : FIm_at (nI k) (nI z) gh = pq_sh gh k := by
  unfold FIm_at
  rw [if_neg (nI_pos (by omega)), if_neg (nI_ge hk (by omega)), nI_clamp (by omega)]
theorem pl_holds {z a : Nat} (hz : z ≤ 6400) (ha : a < 2 ^ 31) : FIm_holds (nI a) (nI z) = if a < 2 * z then 1 else 0 := by
  unfold FIm_holds
  rw [if_neg (nI_pos ha), show (2 : Int32) * nI z = nI (2 * z) from pk_mul 2 z]
  by_cases h : a < 2 * z
  · rw [if_pos h, if_neg (nI_ge h (by omega))]
  · rw [if_neg h, if_pos (nI_le (by omega) (by omega))]
theorem pl_word {z k : Nat} {gh mi : Nat → Int32} {gn mz : Int32} (hI : pu_I gn mz gh mi z) (hk : k + 1 < z) : FIm_wordAt (nI (2 * k)) gn gh = mi k + (mi (k + 1) <<< ((16 : Int32) &&& 31)) := by
  obtain ⟨hz, rfl, rfl, hi⟩ := hI
  unfold FIm_wordAt
  have e : nI (2 * k) / 2 = nI k := by
    rw [pc_dv (by omega) 2 2 rfl (by omega) (by omega), show 2 * k / 2 = k by omega]
  rw [e, nI_1, pl_at hz (by omega), pl_at hz hk]
  obtain ⟨a, ha, e1, e2⟩ := hi k (by omega)
  obtain ⟨b, hb, e3, e4⟩ := hi (k + 1) hk
  rw [e1, e2, e3, e4, pc_low ha, pc_high, pc_or ha]
theorem pl_base {p : Nat} (hp : p < 65536) : FFo_baseOf (nI p) = nI ((p + 4) / 4 * 4) := by
  unfold FFo_baseOf
  rw [show nI p + 4 = nI (p + 4) from nI_add p 4, pc_m4 (by omega)]
theorem pl_mbase {p : Nat} (hp : p < 65536) : FMo_base (nI p) = nI ((p + 4) / 4 * 4) := by
  unfold FMo_base
  rw [show nI p + 4 = nI (p + 4) from nI_add p 4, pc_dv (by omega) 4 4 rfl (by omega) (by omega)]
  exact pk_mul _ 4
theorem pl_place {rp : Int32} {z : Nat} (hz : z ≤ 6400) (ho : FMo_outside rp 0 ((2 * nI z) - 1) = 0) : ∃ p : Nat, p < 2 * z ∧ rp = nI p := by
  rw [pu_out, show (2 : Int32) * nI z = nI (2 * z) from pk_mul 2 z] at ho
  have h0 : ¬ rp < 0 := by rw [pu_lt]; simp; exact ho.1
  obtain ⟨p, hp, rfl⟩ := nI_of h0
  refine ⟨p, ?_, rfl⟩
  rw [nI_toInt hp] at ho
  have h1 : (nI (2 * z) - 1).toInt = ((2 * z : Nat) : Int) - 1 := pk_sub_toInt (a := 2 * z) (b := 1) (by omega) (by omega)
  rw [h1] at ho
  omega
section
variable {h z : Nat} {rp fn fz fc fv gn mz : Int32} {rr rw gh mi : Nat → Int32}
theorem pl_G (hh : h < 65536) (hI : pu_I gn mz gh mi z) (hm : mi (rp / 2).toNatClampNeg = nI h) (ho : FMo_outside rp 0 ((2 * mz) - 1) = 0) {r : Nat} (he : h = 18432 + r) (hr : r < 2048) :
    FPr_perform (nI h) rp fn fz fc fv rr rw gn gh = pu_q (FMo_one mz fn fz fc fv rp 0 mi rr rw) := by
  rw [pg_9 hh (by omega), pf_1 hh hm ho (by omega), pf_2 hh hm (by omega), pf_3 hh hm (by omega), pf_4 hh hm (by omega)]
  have hI' := hI
  obtain ⟨hz, e1, e2, hi⟩ := hI'
  obtain ⟨p, hp, e3⟩ := pl_place hz (by rw [← e2]; exact ho)
  unfold JMo_one_216
  rw [hm, if_neg (c := nI h < 18432) (by rw [pc_lt hh 18432 18432 rfl (by omega)]; omega), if_neg (c := (20480 : Int32) ≤ nI h) (by rw [pc_le hh 20480 20480 rfl (by omega)]; omega), if_neg (c := nI h = 48640) (by rw [pc_eq hh 48640 48640 rfl (by omega)]; omega), pc_sb 18432 18432 rfl he]
  have f1 : FFo_baseOf rp + (4 * (nI h &&& (255 : Int32))) = nI (2 * ((p + 4) / 4 * 2 + 2 * (r % 256))) := by
    rw [e3, pl_base (by omega), pc_255 hh, show (4 : Int32) * nI (h % 256) = nI (4 * (h % 256)) from pk_mul 4 _, nI_add]
    congr 1; omega
  have f2 : FMo_base rp / 2 + (2 * (nI r - nI r / 256 * 256)) = nI ((p + 4) / 4 * 2 + 2 * (r % 256)) := by
    rw [e3, pl_mbase (by omega), pc_rem (h := r) (by omega) 256 256 rfl (by omega) (by omega), show (2 : Int32) * nI (r % 256) = nI (2 * (r % 256)) from pk_mul 2 _, pc_dv (by omega) 2 2 rfl (by omega) (by omega), nI_add]
    congr 1; omega
  have f3 : (nI h >>> ((8 : Int32) &&& 31)) &&& (7 : Int32) = nI (r / 256) := by
    rw [pc_s8 hh, pc_7 (h := h / 256) (by omega), show h / 256 % 8 = r / 256 by omega]
  have f4 : nI r / 256 = nI (r / 256) := pc_div (h := r) (by omega) 256 256 rfl (by omega) (by omega)
  have hk : (p + 4) / 4 * 2 + 2 * (r % 256) < 65536 := by omega
  unfold FPr_loadConstant FMo_constantTo
  rw [f1, f2, f3, f4]
  generalize (p + 4) / 4 * 2 + 2 * (r % 256) = k at hk
  rw [nI_1, show nI (2 * k) + 2 = nI (2 * k + 2) from nI_add _ 2, e1, e2, pl_holds hz (by omega), pl_holds hz (by omega)]
  by_cases hc : k + 1 < z
  · rw [if_pos (c := nI (k + 1) < nI z) ((nI_ltI (by omega) (by omega)).mpr hc), if_pos (c := 2 * k < 2 * z) (by omega), if_pos (c := 2 * k + 2 < 2 * z) (by omega), if_neg (c := (1 : Int32) = 0) (by decide), if_neg (c := (1 : Int32) = 0) (by decide)]
    rw [← e1, pl_word hI hc, nI_clamp (n := k) (by omega), nI_clamp (n := k + 1) (by omega)]
    unfold FPr_next pu_q
    simp only [if_neg (show ¬ (1 : Int32) = 0 by decide)]
  · rw [if_neg (c := nI (k + 1) < nI z) (fun q => hc ((nI_ltI (by omega) (by omega)).mp q)), if_neg (c := 2 * k + 2 < 2 * z) (by omega)]
    unfold pu_q
    simp only [if_pos, ite_self]
end

theorem pm_cell (S : Int32) : (∃ t : Nat, t < 128 ∧ S = nI (4096 + t)) ∨ ((S - 4096 < 0 ∨ ¬ S - 4096 < 128) ∧ ¬ FMo_outside S 4096 4220 = 0) := by
  by_cases h : 4096 ≤ S.toInt ∧ S.toInt ≤ 4223
  · refine Or.inl ⟨(S.toInt - 4096).toNat, by omega, ?_⟩
    refine Int32.toInt_inj.mp ?_
    rw [nI_toInt (by omega)]
    omega
  · refine Or.inr ⟨?_, ?_⟩
    · rw [pu_lt, pu_lt]
      have e := pc_sub32 S 4096
      have r := pc_rng S
      have q := pc_rng (S - 4096)
      have e1 : (4096 : Int32).toInt = 4096 := by decide
      have e2 : (128 : Int32).toInt = 128 := by decide
      have e3 : (0 : Int32).toInt = 0 := by decide
      rw [e1] at e
      rw [e2, e3]
      omega
    · rw [pu_out]
      have e1 : (4096 : Int32).toInt = 4096 := by decide
      have e2 : (4220 : Int32).toInt = 4220 := by decide
      rw [e1, e2]
      omega
section
variable {h z : Nat} {rp fn fz fc fv gn mz : Int32} {rr rw gh mi : Nat → Int32}
theorem pm_I (hh : h < 65536) (hm : mi (rp / 2).toNatClampNeg = nI h) (ho : FMo_outside rp 0 ((2 * mz) - 1) = 0) {r : Nat} (he : h = 24576 + r) (hr : r < 4096) :
    FPr_perform (nI h) rp fn fz fc fv rr rw gn gh = pu_q (FMo_one mz fn fz fc fv rp 0 mi rr rw) := by
  rw [pg_12 hh (by omega), pf_1 hh hm ho (by omega), pf_2 hh hm (by omega), pf_3 hh hm (by omega), pf_4 hh hm (by omega), pf_5 hh hm (by omega)]
  unfold JMo_one_243
  rw [hm, if_neg (c := nI h < 24576) (by rw [pc_lt hh 24576 24576 rfl (by omega)]; omega), if_neg (c := (28672 : Int32) ≤ nI h) (by rw [pc_le hh 28672 28672 rfl (by omega)]; omega), if_neg (c := nI h = 48640) (by rw [pc_eq hh 48640 48640 rfl (by omega)]; omega), pc_sb 24576 24576 rfl he]
  have f1 : (nI h >>> ((3 : Int32) &&& 31)) &&& (7 : Int32) = nI (r / 8 % 8) := by
    rw [pc_s3 hh, pc_7 (h := h / 8) (by omega), show h / 8 % 8 = r / 8 % 8 by omega]
  have f2 : (nI h >>> ((6 : Int32) &&& 31)) &&& (31 : Int32) = nI (r / 64 % 32) := by
    rw [pc_s6 hh, pc_31 (h := h / 64) (by omega), show h / 64 % 32 = r / 64 % 32 by omega]
  have f3 : nI h &&& (7 : Int32) = nI (r % 8) := by
    rw [pc_7 hh, show h % 8 = r % 8 by omega]
  have g1 : nI r / 8 - nI r / 8 / 8 * 8 = nI (r / 8 % 8) := by
    rw [pc_div (h := r) (by omega) 8 8 rfl (by omega) (by omega), pc_rem (h := r / 8) (by omega) 8 8 rfl (by omega) (by omega)]
  have g2 : nI r / 64 - nI r / 64 / 32 * 32 = nI (r / 64 % 32) := by
    rw [pc_div (h := r) (by omega) 64 64 rfl (by omega) (by omega), pc_rem (h := r / 64) (by omega) 32 32 rfl (by omega) (by omega)]
  have g3 : nI r - nI r / 8 * 8 = nI (r % 8) := pc_rem (h := r) (by omega) 8 8 rfl (by omega) (by omega)
  unfold FPr_storeOrLoad FMo_memory
  rw [f1, f2, f3, g1, g2, g3]
  generalize rr (nI (r / 8 % 8)).toNatClampNeg + 4 * nI (r / 64 % 32) = S
  rcases pm_cell S with ⟨t, ht, rfl⟩ | ⟨h1, h2⟩
  · have k1 : nI (4096 + t) - 4096 = nI t := pc_sb 4096 4096 rfl rfl
    have k2 : nI t - nI t / 4 * 4 = nI (t % 4) := pc_rem (h := t) (by omega) 4 4 rfl (by omega) (by omega)
    have k3 : nI (4096 + t) - nI (4096 + t) / 4 * 4 = nI (t % 4) := by
      rw [pc_rem (h := 4096 + t) (by omega) 4 4 rfl (by omega) (by omega), show (4096 + t) % 4 = t % 4 by omega]
    have k4 : nI (4096 + t) / 4 - 1024 = nI (t / 4) := by
      rw [pc_div (h := 4096 + t) (by omega) 4 4 rfl (by omega) (by omega)]
      exact pc_sb 1024 1024 rfl (by omega)
    have k5 : nI t / 4 = nI (t / 4) := pc_div (h := t) (by omega) 4 4 rfl (by omega) (by omega)
    rw [k1, k2, k3, k4, k5, if_neg (c := nI t < 0) (nI_pos (by omega)), if_pos (c := nI t < 128) (by rw [pc_lt (h := t) (by omega) 128 128 rfl (by omega)]; exact ht)]
    by_cases q : nI (t % 4) = 0
    · have q1 : t % 4 = 0 := by rw [pc_eq (h := t % 4) (by omega) 0 0 rfl (by omega)] at q; exact q
      have q2 : FMo_outside (nI (4096 + t)) 4096 4220 = 0 := by
        rw [pu_out, nI_toInt (by omega), show (4096 : Int32).toInt = 4096 by decide, show (4220 : Int32).toInt = 4220 by decide]
        omega
      rw [if_pos q, if_pos q2, if_pos q]
      by_cases w : 2048 ≤ r
      · rw [if_pos (c := (26624 : Int32) ≤ nI h) (by rw [pc_le hh 26624 26624 rfl (by omega)]; omega), if_pos (c := (2048 : Int32) ≤ nI r) (by rw [pc_le (h := r) (by omega) 2048 2048 rfl (by omega)]; omega)]
        unfold pu_q FPr_next
        simp only [if_neg (show ¬ (1 : Int32) = 0 by decide)]
      · rw [if_neg (c := (26624 : Int32) ≤ nI h) (by rw [pc_le hh 26624 26624 rfl (by omega)]; omega), if_neg (c := (2048 : Int32) ≤ nI r) (by rw [pc_le (h := r) (by omega) 2048 2048 rfl (by omega)]; omega)]
        unfold pu_q FPr_next
        simp only [if_neg (show ¬ (1 : Int32) = 0 by decide)]
    · rw [if_neg q, if_neg q]
      unfold pu_q
      simp only [ite_self, if_true]
  · rw [if_neg h2]
    unfold pu_q
    simp only [if_true]
    by_cases q : S - 4096 - (S - 4096) / 4 * 4 = 0
    · rw [if_pos q]
      by_cases w : S - 4096 < 0
      · rw [if_pos w]
      · rw [if_neg w, if_neg (h1.resolve_left w)]
    · rw [if_neg q]
/-- one deed of the class is one of the reference -/
theorem pu_step (hh : h < 65536) (hI : pu_I gn mz gh mi z) (hm : mi (rp / 2).toNatClampNeg = nI h) (ho : FMo_outside rp 0 ((2 * mz) - 1) = 0) (bn : ∃ a : Nat, a < 2 ∧ fn = nI a) (bz : ∃ a : Nat, a < 2 ∧ fz = nI a) (bc : ∃ a : Nat, a < 2 ∧ fc = nI a) (bv : ∃ a : Nat, a < 2 ∧ fv = nI a) :
    FPr_perform (nI h) rp fn fz fc fv rr rw gn gh = pu_q (FMo_one mz fn fz fc fv rp 0 mi rr rw) := by
  by_cases c1 : 6144 ≤ h ∧ h < 6656
  · exact ph_B hh hm ho c1
  by_cases c2 : 6656 ≤ h ∧ h < 7168
  · exact ph_C hh hm ho c2
  by_cases c3 : 7168 ≤ h ∧ h < 8192
  · exact ph_D hh hm ho c3
  by_cases c4 : 8192 ≤ h ∧ h < 16384
  · exact ph_E hh hm ho c4
  by_cases c5 : 16384 ≤ h ∧ h < 17408
  · obtain ⟨r, hr⟩ := Nat.exists_eq_add_of_le c5.1
    exact pi_F hh hm ho hr (by omega)
  by_cases c6 : h = 18112
  · exact pi_18112 hh hm ho c6
  by_cases c7 : h = 48640
  · exact pi_48640 hh hm ho c7
  by_cases c8 : 17408 ≤ h ∧ h < 18432
  · exact pi_work hh hm ho ⟨c8.1, c8.2, c6⟩
  by_cases c9 : 18432 ≤ h ∧ h < 20480
  · obtain ⟨r, hr⟩ := Nat.exists_eq_add_of_le c9.1
    exact pl_G hh hI hm ho hr (by omega)
  by_cases c10 : 24576 ≤ h ∧ h < 28672
  · obtain ⟨r, hr⟩ := Nat.exists_eq_add_of_le c10.1
    exact pm_I hh hm ho hr (by omega)
  by_cases c11 : 53248 ≤ h ∧ h < 57344
  · obtain ⟨r, hr⟩ := Nat.exists_eq_add_of_le c11.1
    exact pk9_L hh hm ho bn bz bc bv hr (by omega)
  by_cases c12 : 57344 ≤ h ∧ h < 59392
  · obtain ⟨r, hr⟩ := Nat.exists_eq_add_of_le c12.1
    exact pk9_M hh hm ho hr (by omega)
  exact pi_none hh hm ho (by omega)
end

def pn_b (x : Int32) : Prop := ∃ a : Nat, a < 2 ∧ x = nI a
theorem pn_0 : pn_b 0 := ⟨0, by omega, rfl⟩
theorem pn_1 : pn_b 1 := ⟨1, by omega, rfl⟩
theorem pn_res (x : Int32) : pn_b (FMo_result x).2.1 ∧ pn_b (FMo_result x).2.2 := by
  unfold FMo_result
  split <;> split <;> simp only [pn_0, pn_1, and_self]
theorem pn_sum (x y : Int32) : pn_b (FMo_sum x y).2.1 ∧ pn_b (FMo_sum x y).2.2.1 ∧ pn_b (FMo_sum x y).2.2.2.1 ∧ pn_b (FMo_sum x y).2.2.2.2 := by
  have h := pn_res (x + y)
  unfold FMo_sum
  split <;> split <;> simp only [h.1, h.2, pn_0, pn_1, and_self]
theorem pn_dif (x y : Int32) : pn_b (FMo_difference x y).2.1 ∧ pn_b (FMo_difference x y).2.2.1 ∧ pn_b (FMo_difference x y).2.2.2.1 ∧ pn_b (FMo_difference x y).2.2.2.2 := by
  have h := pn_res (x - y)
  unfold FMo_difference
  split <;> split <;> simp only [h.1, h.2, pn_0, pn_1, and_self]
def pn_R (mr : Nat → Int32) (t : (Nat → Int32) × Int32 × Int32 × Int32 × Int32) : Prop := (∀ j : Nat, 8 ≤ j → t.1 j = mr j) ∧ pn_b t.2.1 ∧ pn_b t.2.2.1 ∧ pn_b t.2.2.2.1 ∧ pn_b t.2.2.2.2
theorem pn_upd {mr : Nat → Int32} {k n : Nat} {v : Int32} (h : k < n) : ∀ j : Nat, n ≤ j → upd mr k v j = mr j := fun j hj => pk_un (by omega)
theorem pn_ix {a n : Nat} (h : a < n) (hn : n < 2 ^ 31) : (nI a).toNatClampNeg < n := by rw [nI_clamp (by omega)]; exact h
theorem pn_small {r : Nat} (hr : r < 65536) {vc vv : Int32} {mr : Nat → Int32} (hc : pn_b vc) (hv : pn_b vv) : pn_R mr (FMo_small (nI r) vc vv mr) := by
  unfold FMo_small
  rw [pc_div hr 256 256 rfl (by omega) (by omega), pc_rem (h := r / 256) (by omega) 8 8 rfl (by omega) (by omega)]
  have hi : (nI (r / 256 % 8)).toNatClampNeg < 8 := pn_ix (by omega) (by omega)
  generalize (nI (r / 256 % 8)).toNatClampNeg = i at hi
  generalize nI r - nI (r / 256) * 256 = w
  generalize nI r / 2048 = d
  have a := pn_res w
  have b := pn_sum (mr i) w
  have c := pn_dif (mr i) w
  repeat' split
  all_goals first
    | exact ⟨fun _ _ => rfl, a.1, a.2, hc, hv⟩
    | exact ⟨pn_upd hi, a.1, a.2, hc, hv⟩
    | exact ⟨fun _ _ => rfl, b.1, b.2.1, b.2.2.1, b.2.2.2⟩
    | exact ⟨pn_upd hi, b.1, b.2.1, b.2.2.1, b.2.2.2⟩
    | exact ⟨fun _ _ => rfl, c.1, c.2.1, c.2.2.1, c.2.2.2⟩
    | exact ⟨pn_upd hi, c.1, c.2.1, c.2.2.1, c.2.2.2⟩
theorem pn_Rd {mr : Nat → Int32} (x y : Int32) : pn_R mr (mr, (FMo_difference x y).2.1, (FMo_difference x y).2.2.1, (FMo_difference x y).2.2.2.1, (FMo_difference x y).2.2.2.2) := ⟨fun _ _ => rfl, pn_dif x y⟩
theorem pn_Rr {mr : Nat → Int32} {i : Nat} (hi : i < 8) (w : Int32) {vc vv : Int32} (hc : pn_b vc) (hv : pn_b vv) : pn_R mr (upd mr i (FMo_result w).1, (FMo_result w).2.1, (FMo_result w).2.2, vc, vv) := ⟨pn_upd hi, (pn_res w).1, (pn_res w).2, hc, hv⟩
theorem pn_deed {r : Nat} (hr : r < 65536) {vc vv : Int32} {mr : Nat → Int32} (hc : pn_b vc) (hv : pn_b vv) : pn_R mr (FMo_deed (nI r) vc vv mr) := by
  unfold FMo_deed
  rw [pc_rem hr 8 8 rfl (by omega) (by omega)]
  have hi : (nI (r % 8)).toNatClampNeg < 8 := pn_ix (by omega) (by omega)
  generalize (nI (r % 8)).toNatClampNeg = i at hi
  generalize (nI r / 8 - nI r / 8 / 8 * 8).toNatClampNeg = k
  generalize nI r / 64 = d
  repeat' split
  all_goals first
    | exact pn_Rr hi _ hc hv
    | exact pn_Rd _ _
theorem pn_mem {r : Nat} (hr : r < 65536) {mr mw : Nat → Int32} : (∀ j : Nat, 8 ≤ j → (FMo_memory (nI r) mr mw).2.1 j = mr j) ∧ (∀ j : Nat, 32 ≤ j → (FMo_memory (nI r) mr mw).2.2 j = mw j) := by
  unfold FMo_memory
  rw [pc_rem hr 8 8 rfl (by omega) (by omega)]
  have hi : (nI (r % 8)).toNatClampNeg < 8 := pn_ix (by omega) (by omega)
  generalize (nI (r % 8)).toNatClampNeg = i at hi
  generalize mr (nI r / 8 - nI r / 8 / 8 * 8).toNatClampNeg + 4 * (nI r / 64 - nI r / 64 / 32 * 32) = S
  split
  · rename_i q
    rcases pm_cell S with ⟨t, ht, rfl⟩ | ⟨h1, h2⟩
    · have k4 : nI (4096 + t) / 4 - 1024 = nI (t / 4) := by
        rw [pc_div (h := 4096 + t) (by omega) 4 4 rfl (by omega) (by omega)]
        exact pc_sb 1024 1024 rfl (by omega)
      rw [k4]
      split
      · split
        · exact ⟨pn_upd hi, fun _ _ => rfl⟩
        · exact ⟨fun _ _ => rfl, pn_upd (pn_ix (by omega) (by omega))⟩
      · exact ⟨fun _ _ => rfl, fun _ _ => rfl⟩
    · exact absurd q h2
  · exact ⟨fun _ _ => rfl, fun _ _ => rfl⟩
theorem pn_con {r : Nat} (hr : r < 2048) {mz vp : Int32} {mi mr : Nat → Int32} : ∀ j : Nat, 8 ≤ j → (FMo_constantTo (nI r) mz vp mi mr).2 j = mr j := by
  unfold FMo_constantTo
  rw [show nI r / 256 = nI (r / 256) from pc_div (h := r) (by omega) 256 256 rfl (by omega) (by omega)]
  split
  · exact pn_upd (pn_ix (by omega) (by omega))
  · exact fun _ _ => rfl

def pn_Q (mr mw : Nat → Int32) (t : Int32 × (Nat → Int32) × (Nat → Int32) × Int32 × Int32 × Int32 × Int32 × Int32 × Int32) : Prop :=
  (∀ j : Nat, 8 ≤ j → t.2.1 j = mr j) ∧ (∀ j : Nat, 32 ≤ j → t.2.2.1 j = mw j) ∧ pn_b t.2.2.2.1 ∧ pn_b t.2.2.2.2.1 ∧ pn_b t.2.2.2.2.2.1 ∧ pn_b t.2.2.2.2.2.2.1
section
variable {h : Nat} {mz vn vz vc vv vp ve : Int32} {mi mr mw : Nat → Int32}
theorem po_same (a p e : Int32) (bn : pn_b vn) (bz : pn_b vz) (bc : pn_b vc) (bv : pn_b vv) : pn_Q mr mw (a, mr, mw, vn, vz, vc, vv, p, e) := ⟨fun _ _ => rfl, fun _ _ => rfl, bn, bz, bc, bv⟩
theorem po_R {t : (Nat → Int32) × Int32 × Int32 × Int32 × Int32} (a p e : Int32) (h : pn_R mr t) : pn_Q mr mw (a, t.1, mw, t.2.1, t.2.2.1, t.2.2.2.1, t.2.2.2.2, p, e) := ⟨h.1, fun _ _ => rfl, h.2⟩
theorem po_358 (bn : pn_b vn) (bz : pn_b vz) (bc : pn_b vc) (bv : pn_b vv) : pn_Q mr mw (JMo_one_358 vn vz vc vv vp ve mi mr mw) := by
  unfold JMo_one_358
  repeat' split
  all_goals exact po_same _ _ _ bn bz bc bv
theorem po_331 (bn : pn_b vn) (bz : pn_b vz) (bc : pn_b vc) (bv : pn_b vv) : pn_Q mr mw (JMo_one_331 vn vz vc vv vp ve mi mr mw) := by
  unfold JMo_one_331
  repeat' split
  all_goals first | exact po_358 bn bz bc bv | exact po_same _ _ _ bn bz bc bv
theorem po_270 (bn : pn_b vn) (bz : pn_b vz) (bc : pn_b vc) (bv : pn_b vv) : pn_Q mr mw (JMo_one_270 vn vz vc vv vp ve mi mr mw) := by
  unfold JMo_one_270
  repeat' split
  all_goals first | exact po_331 bn bz bc bv | exact po_same _ _ _ bn bz bc bv
theorem po_243 (hh : h < 65536) (hm : mi (vp / 2).toNatClampNeg = nI h) (bn : pn_b vn) (bz : pn_b vz) (bc : pn_b vc) (bv : pn_b vv) : pn_Q mr mw (JMo_one_243 vn vz vc vv vp ve mi mr mw) := by
  unfold JMo_one_243
  rw [hm]
  split
  · exact po_270 bn bz bc bv
  · rename_i q
    rw [pc_lt hh 24576 24576 rfl (by omega)] at q
    obtain ⟨r, hr⟩ := Nat.exists_eq_add_of_le (Nat.not_lt.mp q)
    rw [pc_sb 24576 24576 rfl hr]
    have g := pn_mem (r := r) (by omega) (mr := mr) (mw := mw)
    split
    · exact po_270 bn bz bc bv
    · split
      · split
        · exact ⟨g.1, g.2, bn, bz, bc, bv⟩
        · exact ⟨g.1, g.2, bn, bz, bc, bv⟩
      · split
        · exact ⟨g.1, g.2, bn, bz, bc, bv⟩
        · exact ⟨g.1, g.2, bn, bz, bc, bv⟩
theorem po_216 (hh : h < 65536) (hm : mi (vp / 2).toNatClampNeg = nI h) (bn : pn_b vn) (bz : pn_b vz) (bc : pn_b vc) (bv : pn_b vv) : pn_Q mr mw (JMo_one_216 mz vn vz vc vv vp ve mi mr mw) := by
  have n := po_243 (mr := mr) (mw := mw) (ve := ve) hh hm bn bz bc bv
  unfold JMo_one_216
  rw [hm]
  split
  · exact n
  · split
    · exact n
    · rename_i q w
      rw [pc_lt hh 18432 18432 rfl (by omega)] at q
      rw [pc_le hh 20480 20480 rfl (by omega)] at w
      obtain ⟨r, hr⟩ := Nat.exists_eq_add_of_le (Nat.not_lt.mp q)
      rw [pc_sb 18432 18432 rfl hr]
      have g := pn_con (r := r) (by omega) (mz := mz) (vp := vp) (mi := mi) (mr := mr)
      repeat' split
      all_goals exact ⟨g, fun _ _ => rfl, bn, bz, bc, bv⟩
theorem po_176 (hh : h < 65536) (hm : mi (vp / 2).toNatClampNeg = nI h) (bn : pn_b vn) (bz : pn_b vz) (bc : pn_b vc) (bv : pn_b vv) : pn_Q mr mw (JMo_one_176 mz vn vz vc vv vp ve mi mr mw) := by
  have n := po_216 (mz := mz) (mr := mr) (mw := mw) (ve := ve) hh hm bn bz bc bv
  unfold JMo_one_176
  rw [hm]
  split
  · exact n
  · rename_i q
    rw [pc_lt hh 16384 16384 rfl (by omega)] at q
    obtain ⟨r, hr⟩ := Nat.exists_eq_add_of_le (Nat.not_lt.mp q)
    rw [pc_sb 16384 16384 rfl hr]
    have g := pn_deed (r := r) (by omega) (mr := mr) bc bv
    split
    · exact n
    · split
      · exact n
      · split
        · exact po_R _ _ _ g
        · exact po_R _ _ _ g
theorem po_122 (hh : h < 65536) (hm : mi (vp / 2).toNatClampNeg = nI h) (bn : pn_b vn) (bz : pn_b vz) (bc : pn_b vc) (bv : pn_b vv) : pn_Q mr mw (JMo_one_122 mz vn vz vc vv vp ve mi mr mw) := by
  have n := po_176 (mz := mz) (mr := mr) (mw := mw) (ve := ve) hh hm bn bz bc bv
  unfold JMo_one_122
  rw [hm, pc_rem hh 8 8 rfl (by omega) (by omega)]
  have hi : (nI (h % 8)).toNatClampNeg < 8 := pn_ix (by omega) (by omega)
  split
  · exact n
  · split
    · exact n
    · split
      · exact ⟨pn_upd hi, fun _ _ => rfl, pn_dif _ _⟩
      · exact ⟨pn_upd hi, fun _ _ => rfl, pn_dif _ _⟩
theorem po_68 (hh : h < 65536) (hm : mi (vp / 2).toNatClampNeg = nI h) (bn : pn_b vn) (bz : pn_b vz) (bc : pn_b vc) (bv : pn_b vv) : pn_Q mr mw (JMo_one_68 mz vn vz vc vv vp ve mi mr mw) := by
  have n := po_122 (mz := mz) (mr := mr) (mw := mw) (ve := ve) hh hm bn bz bc bv
  unfold JMo_one_68
  rw [hm, pc_rem hh 8 8 rfl (by omega) (by omega)]
  have hi : (nI (h % 8)).toNatClampNeg < 8 := pn_ix (by omega) (by omega)
  split
  · exact n
  · split
    · exact n
    · split
      · exact ⟨pn_upd hi, fun _ _ => rfl, pn_sum _ _⟩
      · exact ⟨pn_upd hi, fun _ _ => rfl, pn_sum _ _⟩
theorem po_one (hh : h < 65536) (hm : mi (vp / 2).toNatClampNeg = nI h) (bn : pn_b vn) (bz : pn_b vz) (bc : pn_b vc) (bv : pn_b vv) : pn_Q mr mw (FMo_one mz vn vz vc vv vp ve mi mr mw) := by
  have n := po_68 (mz := mz) (mr := mr) (mw := mw) (ve := ve) hh hm bn bz bc bv
  unfold FMo_one
  rw [hm]
  split
  · split
    · exact n
    · rename_i q
      rw [pc_lt hh 8192 8192 rfl (by omega)] at q
      obtain ⟨r, hr⟩ := Nat.exists_eq_add_of_le (Nat.not_lt.mp q)
      rw [pc_sb 8192 8192 rfl hr]
      have g := pn_small (r := r) (by omega) (mr := mr) bc bv
      split
      · exact n
      · split
        · exact po_R _ _ _ g
        · exact po_R _ _ _ g
  · exact po_same _ _ _ bn bz bc bv
end
/-- the reference's end of a run, as the class has it -/
def po_t (t : Nat × (Nat → Int32) × (Nat → Int32) × Int32 × Int32 × Int32 × Int32 × Int32 × Int32) : Nat × (Nat → Int32) × (Nat → Int32) × Int32 × Int32 × Int32 × Int32 × Int32 × Int32 :=
  (t.1, t.2.1, t.2.2.1, t.2.2.2.2.2.2.2.1, t.2.2.2.2.2.2.2.2, t.2.2.2.1, t.2.2.2.2.1, t.2.2.2.2.2.1, t.2.2.2.2.2.2.1)
def po_Z (t : Nat × (Nat → Int32) × (Nat → Int32) × Int32 × Int32 × Int32 × Int32 × Int32 × Int32) : Prop :=
  (∀ j : Nat, 8 ≤ j → t.2.1 j = 0) ∧ (∀ j : Nat, 32 ≤ j → t.2.2.1 j = 0) ∧ pn_b t.2.2.2.1 ∧ pn_b t.2.2.2.2.1 ∧ pn_b t.2.2.2.2.2.1 ∧ pn_b t.2.2.2.2.2.2.1
theorem po_loop {z : Nat} {gn mz xf : Int32} {gh mi : Nat → Int32} (hI : pu_I gn mz gh mi z) : ∀ (n i : Nat) (rr rw : Nat → Int32) (rp re fn fz fc fv : Int32), (∀ j : Nat, 8 ≤ j → rr j = 0) → (∀ j : Nat, 32 ≤ j → rw j = 0) → pn_b fn → pn_b fz → pn_b fc → pn_b fv →
    LPr_goOn_2 n xf gn gh i rr rw rp re fn fz fc fv = po_t (LMo_run_24 n xf mz mi i rr rw fn fz fc fv rp re) ∧ po_Z (LMo_run_24 n xf mz mi i rr rw fn fz fc fv rp re) := by
  intro n
  induction n with
  | zero => intro i rr rw rp re fn fz fc fv h1 h2 b1 b2 b3 b4; exact ⟨rfl, h1, h2, b1, b2, b3, b4⟩
  | succ n ih =>
    intro i rr rw rp re fn fz fc fv h1 h2 b1 b2 b3 b4
    unfold LPr_goOn_2 LMo_run_24
    by_cases c1 : xf ≤ nI i
    · rw [if_pos c1, if_pos c1]; exact ⟨rfl, h1, h2, b1, b2, b3, b4⟩
    rw [if_neg c1, if_neg c1]
    by_cases c2 : re = 0
    · subst c2
      rw [if_pos rfl, if_pos rfl]
      have hI' := hI
      obtain ⟨hz, e1, e2, hi⟩ := hI'
      by_cases c3 : FMo_outside rp 0 ((2 * mz) - 1) = 0
      · obtain ⟨p, hp, e3⟩ := pl_place hz (by rw [← e2]; exact c3)
        have e4 : rp / 2 = nI (p / 2) := by rw [e3, pc_dv (by omega) 2 2 rfl (by omega) (by omega)]
        obtain ⟨h, hh, e5, e6⟩ := hi (p / 2) (by omega)
        have hm : mi (rp / 2).toNatClampNeg = nI h := by rw [e4, nI_clamp (by omega), e5]
        have hx : (FIm_at (rp / 2) gn gh) &&& (65535 : Int32) = nI h := by
          rw [e4, e1, pl_at hz (by omega), e6, pc_low hh]
        have hc : FIm_holds rp gn = 1 := by rw [e3, e1, pl_holds hz (by omega), if_pos hp]
        rw [hc, if_neg (c := (1 : Int32) = 0) (by decide), hx, pu_step hh hI hm c3 b1 b2 b3 b4]
        have q := po_one (mz := mz) (mr := rr) (mw := rw) (ve := 0) hh hm b1 b2 b3 b4
        generalize FMo_one mz fn fz fc fv rp 0 mi rr rw = t at q
        obtain ⟨t1, t2, t3, t4, t5, t6, t7, t8, t9⟩ := t
        obtain ⟨q1, q2, q3, q4, q5, q6⟩ := q
        have k := fun e => ih (i + 1) t2 t3 t8 e t4 t5 t6 t7 (fun j hj => (q1 j hj).trans (h1 j hj)) (fun j hj => (q2 j hj).trans (h2 j hj)) q3 q4 q5 q6
        unfold pu_q
        by_cases c4 : t1 = 0
        · simp only [if_pos c4]; exact k 2
        · simp only [if_neg c4]; exact k t9
      · have hc : FIm_holds rp gn = 0 := by
          unfold FIm_holds
          rw [pu_out, e2, show (2 : Int32) * nI z = nI (2 * z) from pk_mul 2 z] at c3
          have h1 : (nI (2 * z) - 1).toInt = ((2 * z : Nat) : Int) - 1 := pk_sub_toInt (a := 2 * z) (b := 1) (by omega) (by omega)
          rw [h1] at c3
          rw [e1, show (2 : Int32) * nI z = nI (2 * z) from pk_mul 2 z]
          have e3 : (0 : Int32).toInt = 0 := by decide
          have e4 : (nI (2 * z)).toInt = ((2 * z : Nat) : Int) := nI_toInt (by omega)
          rw [e3] at c3
          simp only [pu_lt, pu_le, e3, e4]
          by_cases d : rp.toInt < 0
          · rw [if_pos d]
          · rw [if_neg d, if_pos (by omega)]
        have hn : FMo_one mz fn fz fc fv rp 0 mi rr rw = (0, rr, rw, fn, fz, fc, fv, rp, 0) := by
          unfold FMo_one
          rw [if_neg c3]
        rw [hc, if_pos rfl, hn]
        rw [if_pos (c := ((0 : Int32), rr, rw, fn, fz, fc, fv, rp, (0 : Int32)).1 = 0) rfl]
        exact ih (i + 1) rr rw rp 2 fn fz fc fv h1 h2 b1 b2 b3 b4
    · rw [if_neg c2, if_neg c2]; exact ⟨rfl, h1, h2, b1, b2, b3, b4⟩
