section
variable {K A B C : Nat → Int32}
theorem qo_hs {q : Nat} (hq : q < 2 ^ 20) (hok : pu_ok (K q) (A q) (B q) (C q)) : FSo_halvesOf (nI q) K A ≤ 0 ↔ ¬ qm_hs K q := by
  unfold FSo_halvesOf qm_hs
  rw [nI_clamp (by omega)]
  by_cases k0 : K q = 0
  · rw [if_pos k0]; exact ⟨fun _ w => w (Or.inl k0), fun _ => by decide⟩
  by_cases k13 : K q = 13
  · rw [if_neg k0, if_pos k13]
    have w : 1 ≤ (A q).toInt ∧ (A q).toInt ≤ 40 := by
      unfold pu_ok at hok
      rw [k13] at hok
      simp at hok
      exact hok
    rw [pu_le, show (0 : Int32).toInt = 0 by decide, k13]
    exact ⟨fun v => by omega, fun v => absurd (by decide) v⟩
  by_cases k14 : K q = 14
  · rw [if_neg k0, if_neg k13, if_pos k14]; exact ⟨fun _ w => w (Or.inr k14), fun _ => by decide⟩
  · rw [if_neg k0, if_neg k13, if_neg k14]
    exact ⟨fun v => absurd v (by decide), fun v => absurd (fun w => w.elim k0 k14) v⟩
theorem qo_settle (hok : ∀ j : Nat, pu_ok (K j) (A j) (B j) (C j)) : ∀ (n j : Nat) (v : Int32) (tl : Nat → Int32), j < n → j ≤ 160 →
    (∀ q : Nat, j ≤ q → (LLa_settleLabels_15 n K A v j tl).2.2 q = tl q) ∧ (∀ q : Nat, q < j → qm_hs K q → (LLa_settleLabels_15 n K A v j tl).2.2 q = tl q) ∧ (∀ q : Nat, q < j → ¬ qm_hs K q → (LLa_settleLabels_15 n K A v j tl).2.2 q = if q + 1 = j then v else (LLa_settleLabels_15 n K A v j tl).2.2 (q + 1)) := by
  intro n
  induction n with
  | zero => intro j v tl h; omega
  | succ n ih =>
    intro j v tl h1 h2
    cases j with
    | zero =>
      rw [LLa_settleLabels_15, if_pos (by decide)]
      exact ⟨fun q _ => rfl, fun q hq => by omega, fun q hq => by omega⟩
    | succ j =>
      have e : nI (j + 1) - 1 = nI j := nI_pred j
      rw [LLa_settleLabels_15, e, if_neg (nI_pos (by omega)), nI_clamp (by omega), show j + 1 - 1 = j by omega]
      by_cases c : qm_hs K j
      · rw [if_neg (fun w => (qo_hs (by omega) (hok j)).mp w c)]
        obtain ⟨a1, a2, a3⟩ := ih j (tl j) tl (by omega) (by omega)
        refine ⟨fun q hq => a1 q (by omega), fun q hq w => ?_, fun q hq w => ?_⟩
        · rcases Nat.lt_or_ge q j with v | v
          · exact a2 q v w
          · exact a1 q v
        · have hq2 : q < j := by
            rcases Nat.lt_or_ge q j with v | v
            · exact v
            · have : q = j := by omega
              subst this; exact absurd c w
          rw [a3 q hq2 w, if_neg (c := q + 1 = j + 1) (by omega)]
          by_cases d : q + 1 = j
          · rw [if_pos d, d, a1 j (Nat.le_refl j)]
          · rw [if_neg d]
      · rw [if_pos ((qo_hs (by omega) (hok j)).mpr c)]
        obtain ⟨a1, a2, a3⟩ := ih j v (upd tl j v) (by omega) (by omega)
        refine ⟨fun q hq => (a1 q (by omega)).trans (pk_un (by omega)), fun q hq w => ?_, fun q hq w => ?_⟩
        · rcases Nat.lt_or_ge q j with u | u
          · exact (a2 q u w).trans (pk_un (by omega))
          · have : q = j := by omega
            subst this; exact absurd w c
        · by_cases d : q = j
          · subst d
            rw [if_pos rfl, a1 q (Nat.le_refl q), pk_us]
          · rw [a3 q (by omega) w, if_neg (c := q + 1 = j + 1) (by omega)]
            by_cases d : q + 1 = j
            · rw [if_pos d, d, a1 j (Nat.le_refl j), pk_us]
            · rw [if_neg d]
/-- where a label stands -/
theorem qo_addr {c E : Nat} {TL mf : Nat → Int32} (hc : c ≤ 160) (h1 : ∀ q : Nat, q < c → qm_hs K q → ¬ mf q = -1 ∧ TL q = mf q) (h2 : ∀ q : Nat, q < c → ¬ qm_hs K q → mf q = -1 ∧ TL q = if q + 1 = c then nI E else TL (q + 1)) :
    ∀ (n i : Nat), i < c → c < n + i → (if nI c ≤ nI (LMo_address_7 n (nI c) mf i) then nI E else mf (nI (LMo_address_7 n (nI c) mf i)).toNatClampNeg) = TL i := by
  intro n
  induction n with
  | zero => intro i hi h; omega
  | succ n ih =>
    intro i hi h
    rw [LMo_address_7, if_neg (nI_ge hi (by omega)), nI_clamp (by omega)]
    by_cases w : qm_hs K i
    · obtain ⟨a1, a2⟩ := h1 i hi w
      rw [if_neg a1, if_neg (nI_ge hi (by omega)), nI_clamp (by omega), a2]
    · obtain ⟨a1, a2⟩ := h2 i hi w
      rw [if_pos a1, a2]
      by_cases d : i + 1 = c
      · rw [if_pos d]
        have e : LMo_address_7 n (nI c) mf (i + 1) = c := by
          cases n with
          | zero => omega
          | succ n => rw [LMo_address_7, if_pos (nI_le (by omega) (by omega)), d]
        rw [e, if_pos (nI_le (Nat.le_refl c) (by omega))]
      · rw [if_neg d]
        exact ih (i + 1) (by omega) (by omega)
end
/-! steps and words: within reach on one side and on the other -/
theorem qo_half {s : Int32} {d : Int} (h : s.toInt = 2 * d) : (s / 2).toInt = d := by
  rw [Int32.toInt_div_of_ne_right s 2 (by decide), h, show (2 : Int32).toInt = 2 by decide]
  exact Int.mul_tdiv_cancel_left d (by omega)
theorem qo_quarter {s : Int32} {d : Int} (h : s.toInt = 4 * d) : (s / 4).toInt = d := by
  rw [Int32.toInt_div_of_ne_right s 4 (by decide), h, show (4 : Int32).toInt = 4 by decide]
  exact Int.mul_tdiv_cancel_left d (by omega)
theorem qo_nat {x : Int32} {n : Nat} (h0 : 0 ≤ x.toInt) (h1 : x.toInt ≤ n) : ∃ a : Nat, a ≤ n ∧ x = nI a := by
  have p : ¬ x < 0 := by rw [pu_lt]; simp; exact h0
  obtain ⟨i, hi, e⟩ := nI_of p
  rw [e, nI_toInt hi] at h1
  exact ⟨i, by omega, e⟩
theorem qo_bits {x : Int32} : ((x.toBitVec.toNat : Int) = x.toInt ∨ (x.toBitVec.toNat : Int) = x.toInt + 4294967296) := by
  have h : x.toInt = if 2 * x.toBitVec.toNat < 2 ^ 32 then (x.toBitVec.toNat : Int) else (x.toBitVec.toNat : Int) - (2 ^ 32 : Nat) := BitVec.toInt_eq_toNat_cond _
  split at h <;> omega
theorem qo_2047 {x : Int32} {d : Int} (h : x.toInt = d) (h1 : -1024 ≤ d) (h2 : d ≤ 1023) : ∃ e : Nat, e < 2048 ∧ x &&& (2047 : Int32) = nI e ∧ (x + 2048) - (x + 2048) / 2048 * 2048 = nI e := by
  have q := @qo_bits x
  have a : x &&& (2047 : Int32) = nI (x.toBitVec.toNat % 2 ^ 11) := pk_and x 11 (by decide)
  have b : x + 2048 = nI (d + 2048).toNat := by
    refine Int32.toInt_inj.mp ?_
    rw [nI_toInt (by omega)]
    have w := pc_add32 x 2048
    rw [show (2048 : Int32).toInt = 2048 by decide, h] at w
    have r := pc_rng (x + 2048)
    omega
  have c : nI (d + 2048).toNat - nI (d + 2048).toNat / 2048 * 2048 = nI ((d + 2048).toNat % 2048) := pc_rem (h := (d + 2048).toNat) (by omega) 2048 2048 rfl (by omega) (by omega)
  refine ⟨(d + 2048).toNat % 2048, by omega, ?_, ?_⟩
  · rw [a]; congr 1; rw [h] at q; omega
  · rw [b, c]
theorem qo_255 {x : Int32} {d : Int} (h : x.toInt = d) (h1 : -128 ≤ d) (h2 : d ≤ 127) : ∃ e : Nat, e < 256 ∧ x &&& (255 : Int32) = nI e ∧ (x + 256) - (x + 256) / 256 * 256 = nI e := by
  have q := @qo_bits x
  have a : x &&& (255 : Int32) = nI (x.toBitVec.toNat % 2 ^ 8) := pk_and x 8 (by decide)
  have b : x + 256 = nI (d + 256).toNat := by
    refine Int32.toInt_inj.mp ?_
    rw [nI_toInt (by omega)]
    have w := pc_add32 x 256
    rw [show (256 : Int32).toInt = 256 by decide, h] at w
    have r := pc_rng (x + 256)
    omega
  have c : nI (d + 256).toNat - nI (d + 256).toNat / 256 * 256 = nI ((d + 256).toNat % 256) := pc_rem (h := (d + 256).toNat) (by omega) 256 256 rfl (by omega) (by omega)
  refine ⟨(d + 256).toNat % 256, by omega, ?_, ?_⟩
  · rw [a]; congr 1; rw [h] at q; omega
  · rw [b, c]
/-- the way to a label -/
theorem qo_steps {t b : Nat} (ht : t < 2 ^ 20) (hb : b < 2 ^ 20) (t2 : t % 2 = 0) (b2 : b % 2 = 0) : ∃ d : Int, ((nI t - nI b) - 4).toInt = 2 * d ∧ -2 ^ 20 < d ∧ d < 2 ^ 20 := by
  have e : (nI t - nI b).toInt = (t : Int) - b := pk_sub_toInt (by omega) (by omega)
  have w := pc_sub32 (nI t - nI b) 4
  have r := pc_rng ((nI t - nI b) - 4)
  rw [show (4 : Int32).toInt = 4 by decide, e] at w
  exact ⟨((t : Int) - b - 4) / 2, by omega, by omega, by omega⟩

section
variable {K A B C L mL TL TC mf mc : Nat → Int32} {c E : Nat}
theorem qp_even (hE : E % 2 = 0) (h1 : ∀ q : Nat, q < c → qm_hs K q → (∃ p : Nat, mf q = nI p ∧ p + 2 ≤ E ∧ p % 2 = 0) ∧ TL q = mf q) (h2 : ∀ q : Nat, q < c → ¬ qm_hs K q → mf q = -1 ∧ TL q = if q + 1 = c then nI E else TL (q + 1)) :
    ∀ (n i : Nat), i < c → c ≤ n + i → ∃ t : Nat, t ≤ E ∧ t % 2 = 0 ∧ TL i = nI t := by
  intro n
  induction n with
  | zero => intro i h3 h4; omega
  | succ n ih =>
    intro i h3 h4
    by_cases w : qm_hs K i
    · obtain ⟨⟨p, a1, a2, a3⟩, a4⟩ := h1 i h3 w
      exact ⟨p, by omega, a3, a4.trans a1⟩
    · obtain ⟨a1, a2⟩ := h2 i h3 w
      rw [a2]
      by_cases d : i + 1 = c
      · rw [if_pos d]; exact ⟨E, Nat.le_refl E, hE, rfl⟩
      · rw [if_neg d]; exact ih (i + 1) (by omega) (by omega)
theorem qp_add (a b : Nat) : nI a + nI b = nI (a + b) := nI_add a b
theorem qp_mul (c : Int32) (m b : Nat) (e : c = nI m) : c * nI b = nI (m * b) := by subst e; exact pk_mul m b
theorem qp_cadd (c : Int32) (m b : Nat) (e : c = nI m) : c + nI b = nI (m + b) := by subst e; exact nI_add m b
theorem qp_in {j : Nat} (hj : j < 2 ^ 20) (a : ¬ K j = 10) (b : ¬ K j = 11) (d : ¬ K j = 12) : ¬ FLa_isInReach (nI j) TL TC K A L = 0 := by
  unfold FLa_isInReach
  rw [nI_clamp (by omega), if_neg a, if_neg b, if_neg d]
  decide
/-- is a line within reach, and which half does it make: both say the same -/
theorem qp_line {j : Nat} (hc : c ≤ 160) (hj : j < c) (hok : pu_ok (K j) (A j) (B j) (C j)) (hE : E % 2 = 0) (hE2 : E ≤ 12800)
    (h1 : ∀ q : Nat, q < c → qm_hs K q → (∃ p : Nat, mf q = nI p ∧ p + 2 ≤ E ∧ p % 2 = 0) ∧ TL q = mf q) (h2 : ∀ q : Nat, q < c → ¬ qm_hs K q → mf q = -1 ∧ TL q = if q + 1 = c then nI E else TL (q + 1))
    (h3 : ∀ q : Nat, q < c → K q = 10 → qd_eq (TC q) (mc q)) (hL : ∀ l : Nat, l < 16 → L l = mL l) (hl : ∀ l : Nat, l < 16 → ¬ mL l = -1 → ∃ i : Nat, i < c ∧ mL l = nI i) (hk : qk_mk K j) :
    (FLa_isInReach (nI j) TL TC K A L = 0 ∧ FMo_halfOf (nI j) (nI c) (nI E) K A B C mf mc mL < 0) ∨ (¬ FLa_isInReach (nI j) TL TC K A L = 0 ∧ ∃ h : Nat, h < 2 ^ 20 ∧ FMo_halfOf (nI j) (nI c) (nI E) K A B C mf mc mL = nI h ∧ FLa_halfOf (nI j) TL TC K A B C L = nI h) := by
  obtain ⟨k0, k13, k14⟩ := hk
  have cj : (nI j).toNatClampNeg = j := nI_clamp (by omega)
  obtain ⟨⟨p, p1, p2, p3⟩, p4⟩ := h1 j hj (fun w => w.elim k0 k14)
  have hlab : 0 ≤ (A j).toInt → (A j).toInt ≤ 15 → (FSo_lineOfLabel (A j) L = -1 ∧ mL (A j).toNatClampNeg = -1) ∨ (∃ t : Nat, t ≤ E ∧ t % 2 = 0 ∧ ¬ FSo_lineOfLabel (A j) L = -1 ∧ ¬ mL (A j).toNatClampNeg = -1 ∧ TL (FSo_lineOfLabel (A j) L).toNatClampNeg = nI t ∧ FMo_address (A j) (nI c) (nI E) mf mL = nI t) := by
    intro q1 q2
    obtain ⟨l, l1, l2⟩ := qo_nat (n := 15) q1 q2
    have e1 : FSo_lineOfLabel (A j) L = mL l := by
      unfold FSo_lineOfLabel
      rw [l2, if_neg (nI_pos (by omega)), if_neg (show ¬ (16 : Int32) ≤ nI l from nI_ge (b := 16) (by omega) (by omega)), nI_clamp (by omega), hL l (by omega)]
    have e2 : mL (A j).toNatClampNeg = mL l := by rw [l2, nI_clamp (by omega)]
    rw [e1, e2]
    by_cases m : mL l = -1
    · exact Or.inl ⟨m, m⟩
    · obtain ⟨i, i1, i2⟩ := hl l (by omega) m
      obtain ⟨t, t1, t2, t3⟩ := qp_even hE h1 h2 c i i1 (by omega)
      refine Or.inr ⟨t, t1, t2, m, m, ?_, ?_⟩
      · rw [i2, nI_clamp (by omega), t3]
      · unfold FMo_address
        have e3 : (nI c).toInt.toNat = c := by rw [nI_toInt (by omega)]; omega
        have e4 : (nI i).toInt.toNat = i := by rw [nI_toInt (by omega)]; omega
        rw [e2, i2, e3, e4]
        rw [qo_addr (K := K) (E := E) (TL := TL) hc (fun q a b => by
          obtain ⟨⟨p, u1, u2, u3⟩, u4⟩ := h1 q a b
          exact ⟨by rw [u1]; exact qk_m1 (by omega), u4⟩) h2 (c + 1) i i1 (by omega)]
        exact t3
  rcases hok with q | q | q | q | q | q | q | q | q | q | q
  · exact absurd q.1 k0
  · obtain ⟨qk, a0, a1, b0, b1⟩ := q
    obtain ⟨a, ha, ea⟩ := qo_nat (n := 7) a0 a1
    obtain ⟨b, hb, eb⟩ := qo_nat (n := 255) b0 b1
    refine Or.inr ⟨qp_in (by omega) (by rcases qk with e | e | e | e <;> rw [e] <;> decide) (by rcases qk with e | e | e | e <;> rw [e] <;> decide) (by rcases qk with e | e | e | e <;> rw [e] <;> decide), ?_⟩
    unfold FMo_halfOf FLa_halfOf
    rw [cj, ea, eb]
    rcases qk with e | e | e | e <;> rw [e]
    · exact ⟨8192 + 256 * a + b, by omega, by rw [if_pos rfl, show (8192 : Int32) + 2048 * (1 - 1) = nI 8192 from by decide, qp_mul 256 256 a rfl, qp_add, qp_add], by rw [if_pos rfl, show (8192 : Int32) + 2048 * (1 - 1) = nI 8192 from by decide, qp_mul 256 256 a rfl, qp_add, qp_add]⟩
    · exact ⟨10240 + 256 * a + b, by omega, by rw [if_neg (by decide), if_pos rfl, show (8192 : Int32) + 2048 * (2 - 1) = nI 10240 from by decide, qp_mul 256 256 a rfl, qp_add, qp_add], by rw [if_neg (by decide), if_pos rfl, show (8192 : Int32) + 2048 * (2 - 1) = nI 10240 from by decide, qp_mul 256 256 a rfl, qp_add, qp_add]⟩
    · exact ⟨12288 + 256 * a + b, by omega, by rw [if_neg (by decide), if_neg (by decide), if_pos rfl, show (8192 : Int32) + 2048 * (3 - 1) = nI 12288 from by decide, qp_mul 256 256 a rfl, qp_add, qp_add], by rw [if_neg (by decide), if_neg (by decide), if_pos rfl, show (8192 : Int32) + 2048 * (3 - 1) = nI 12288 from by decide, qp_mul 256 256 a rfl, qp_add, qp_add]⟩
    · exact ⟨14336 + 256 * a + b, by omega, by rw [if_neg (by decide), if_neg (by decide), if_neg (by decide), if_pos rfl, show (8192 : Int32) + 2048 * (4 - 1) = nI 14336 from by decide, qp_mul 256 256 a rfl, qp_add, qp_add], by rw [if_neg (by decide), if_neg (by decide), if_neg (by decide), if_pos rfl, show (8192 : Int32) + 2048 * (4 - 1) = nI 14336 from by decide, qp_mul 256 256 a rfl, qp_add, qp_add]⟩
  · obtain ⟨qk, a0, a1, b0, b1, d0, d1⟩ := q
    obtain ⟨a, ha, ea⟩ := qo_nat (n := 7) a0 a1
    obtain ⟨b, hb, eb⟩ := qo_nat (n := 7) b0 b1
    obtain ⟨d, hd, ed⟩ := qo_nat (n := 7) d0 d1
    refine Or.inr ⟨qp_in (by omega) (by rcases qk with e | e <;> rw [e] <;> decide) (by rcases qk with e | e <;> rw [e] <;> decide) (by rcases qk with e | e <;> rw [e] <;> decide), ?_⟩
    unfold FMo_halfOf FLa_halfOf
    rw [cj, ea, eb, ed]
    rcases qk with e | e <;> rw [e]
    · exact ⟨6144 + 64 * d + 8 * b + a, by omega, by rw [if_neg (by decide), if_neg (by decide), if_neg (by decide), if_neg (by decide), if_pos rfl, qp_mul 64 64 d rfl, qp_mul 8 8 b rfl, qp_cadd 6144 6144 _ rfl, qp_add, qp_add], by rw [if_neg (by decide), if_neg (by decide), if_neg (by decide), if_neg (by decide), if_pos rfl, qp_mul 64 64 d rfl, qp_mul 8 8 b rfl, qp_cadd 6144 6144 _ rfl, qp_add, qp_add]⟩
    · exact ⟨6656 + 64 * d + 8 * b + a, by omega, by rw [if_neg (by decide), if_neg (by decide), if_neg (by decide), if_neg (by decide), if_neg (by decide), if_pos rfl, qp_mul 64 64 d rfl, qp_mul 8 8 b rfl, qp_cadd 6656 6656 _ rfl, qp_add, qp_add], by rw [if_neg (by decide), if_neg (by decide), if_neg (by decide), if_neg (by decide), if_neg (by decide), if_pos rfl, qp_mul 64 64 d rfl, qp_mul 8 8 b rfl, qp_cadd 6656 6656 _ rfl, qp_add, qp_add]⟩
  · obtain ⟨e, a0, a1, b0, b1, d0⟩ := q
    obtain ⟨a, ha, ea⟩ := qo_nat (n := 7) a0 a1
    obtain ⟨b, hb, eb⟩ := qo_nat (n := 7) b0 b1
    have d9 : 0 ≤ (C j).toInt ∧ (C j).toInt ≤ 15 := by
      unfold FMo_isDeed at d0
      simp only [pu_le, Int32.reduceToInt] at d0
      by_cases w0 : C j = 0
      · rw [w0]; decide
      by_cases w1 : C j = 1
      · rw [w1]; decide
      by_cases w2 : C j = 10
      · rw [w2]; decide
      rw [if_neg w0, if_neg w1, if_neg w2] at d0
      by_cases w3 : (C j).toInt ≤ 11
      · rw [if_pos w3] at d0; exact absurd rfl d0
      · rw [if_neg w3] at d0
        by_cases w4 : 16 ≤ (C j).toInt
        · rw [if_pos w4] at d0; exact absurd rfl d0
        · omega
    obtain ⟨d, hd, ed⟩ := qo_nat (n := 15) d9.1 d9.2
    refine Or.inr ⟨qp_in (by omega) (by rw [e]; decide) (by rw [e]; decide) (by rw [e]; decide), ?_⟩
    unfold FMo_halfOf FLa_halfOf
    rw [cj, ea, eb, ed, e]
    exact ⟨16384 + 64 * d + 8 * b + a, by omega, by rw [if_neg (by decide), if_neg (by decide), if_neg (by decide), if_neg (by decide), if_neg (by decide), if_neg (by decide), if_pos rfl, qp_mul 64 64 d rfl, qp_mul 8 8 b rfl, qp_cadd 16384 16384 _ rfl, qp_add, qp_add], by rw [if_neg (by decide), if_neg (by decide), if_neg (by decide), if_neg (by decide), if_neg (by decide), if_neg (by decide), if_pos rfl, qp_mul 64 64 d rfl, qp_mul 8 8 b rfl, qp_cadd 16384 16384 _ rfl, qp_add, qp_add]⟩
  · obtain ⟨qk, a0, a1, b0, b1, d0, d1⟩ := q
    obtain ⟨a, ha, ea⟩ := qo_nat (n := 7) a0 a1
    obtain ⟨b, hb, eb⟩ := qo_nat (n := 7) b0 b1
    obtain ⟨d, hd, ed⟩ := qo_nat (n := 31) d0 d1
    refine Or.inr ⟨qp_in (by omega) (by rcases qk with e | e <;> rw [e] <;> decide) (by rcases qk with e | e <;> rw [e] <;> decide) (by rcases qk with e | e <;> rw [e] <;> decide), ?_⟩
    unfold FMo_halfOf FLa_halfOf
    rw [cj, ea, eb, ed]
    rcases qk with e | e <;> rw [e]
    · exact ⟨24576 + 64 * d + 8 * b + a, by omega, by rw [if_neg (by decide), if_neg (by decide), if_neg (by decide), if_neg (by decide), if_neg (by decide), if_neg (by decide), if_neg (by decide), if_pos rfl, qp_mul 64 64 d rfl, qp_mul 8 8 b rfl, qp_cadd 24576 24576 _ rfl, qp_add, qp_add], by rw [if_neg (by decide), if_neg (by decide), if_neg (by decide), if_neg (by decide), if_neg (by decide), if_neg (by decide), if_neg (by decide), if_pos rfl, qp_mul 64 64 d rfl, qp_mul 8 8 b rfl, qp_cadd 24576 24576 _ rfl, qp_add, qp_add]⟩
    · exact ⟨26624 + 64 * d + 8 * b + a, by omega, by rw [if_neg (by decide), if_neg (by decide), if_neg (by decide), if_neg (by decide), if_neg (by decide), if_neg (by decide), if_neg (by decide), if_neg (by decide), if_pos rfl, qp_mul 64 64 d rfl, qp_mul 8 8 b rfl, qp_cadd 26624 26624 _ rfl, qp_add, qp_add], by rw [if_neg (by decide), if_neg (by decide), if_neg (by decide), if_neg (by decide), if_neg (by decide), if_neg (by decide), if_neg (by decide), if_neg (by decide), if_pos rfl, qp_mul 64 64 d rfl, qp_mul 8 8 b rfl, qp_cadd 26624 26624 _ rfl, qp_add, qp_add]⟩
  · obtain ⟨e, a0, a1⟩ := q
    obtain ⟨a, ha, ea⟩ := qo_nat (n := 7) a0 a1
    obtain ⟨m1, y, m2, m3, m4⟩ := h3 j hj e
    have eb : FMo_base (mf j) = nI ((p + 4) / 4 * 4) := by rw [p1]; exact pl_mbase (by omega)
    have ec : FFo_baseOf (TL j) = nI ((p + 4) / 4 * 4) := by rw [p4, p1]; exact pl_base (by omega)
    have es : (nI y - nI ((p + 4) / 4 * 4)).toInt = (y : Int) - ((p + 4) / 4 * 4 : Nat) := pk_sub_toInt (by omega) (by omega)
    obtain ⟨d, hd⟩ : ∃ d : Int, (y : Int) - ((p + 4) / 4 * 4 : Nat) = 4 * d := ⟨((y : Int) - ((p + 4) / 4 * 4 : Nat)) / 4, by omega⟩
    rw [hd] at es
    have eq := qo_quarter es
    have ew : FLa_wordsToConstant (nI j) TL TC = (nI y - nI ((p + 4) / 4 * 4)) / 4 := by
      unfold FLa_wordsToConstant
      rw [cj, ec, m1, m2]
    unfold FLa_isInReach FMo_halfOf FLa_halfOf
    rw [cj, e, ew, eb, m2, ea]
    rw [if_pos rfl]
    generalize nI y - nI ((p + 4) / 4 * 4) = W at es eq
    by_cases o : FMo_outside W 0 1023 = 0
    · have o' := o
      rw [pu_out, es, show (0 : Int32).toInt = 0 by decide, show (1023 : Int32).toInt = 1023 by decide] at o'
      refine Or.inr ⟨?_, 18432 + 256 * a + d.toNat, by omega, ?_, ?_⟩
      · rw [if_neg (by rw [pu_lt, eq, show (0 : Int32).toInt = 0 by decide]; omega), if_neg (by rw [pu_lt, eq, show (255 : Int32).toInt = 255 by decide]; omega)]
        decide
      · have ed : W / 4 = nI d.toNat := by
          refine Int32.toInt_inj.mp ?_
          rw [eq, nI_toInt (by omega)]; omega
        rw [if_neg (by decide), if_neg (by decide), if_neg (by decide), if_neg (by decide), if_neg (by decide), if_neg (by decide), if_neg (by decide), if_neg (by decide), if_neg (by decide), if_pos rfl, if_pos o, ed, qp_mul 256 256 a rfl, qp_cadd 18432 18432 _ rfl, qp_add]
      · have ed : W / 4 = nI d.toNat := by
          refine Int32.toInt_inj.mp ?_
          rw [eq, nI_toInt (by omega)]; omega
        rw [if_neg (by decide), if_neg (by decide), if_neg (by decide), if_neg (by decide), if_neg (by decide), if_neg (by decide), if_neg (by decide), if_neg (by decide), if_neg (by decide), if_pos rfl, ed, qp_mul 256 256 a rfl, qp_cadd 18432 18432 _ rfl, qp_add]
    · have o' := o
      rw [pu_out, es, show (0 : Int32).toInt = 0 by decide, show (1023 : Int32).toInt = 1023 by decide] at o'
      refine Or.inl ⟨?_, ?_⟩
      · by_cases w : W / 4 < 0
        · rw [if_pos w]
        · rw [if_neg w, if_pos (by
            rw [pu_lt, eq, show (0 : Int32).toInt = 0 by decide] at w
            rw [pu_lt, eq, show (255 : Int32).toInt = 255 by decide]; omega)]
      · rw [if_neg (by decide), if_neg (by decide), if_neg (by decide), if_neg (by decide), if_neg (by decide), if_neg (by decide), if_neg (by decide), if_neg (by decide), if_neg (by decide), if_pos rfl, if_neg o]; decide
  · obtain ⟨e, a0, a1⟩ := q
    have et : FLa_hasTarget (nI j) A L = if FSo_lineOfLabel (A j) L = -1 then 0 else 1 := by unfold FLa_hasTarget; rw [cj]
    have es : FLa_stepsToLabel (nI j) TL A L = if FSo_lineOfLabel (A j) L = -1 then 0 else FLa_stepsFrom (TL j) (TL (FSo_lineOfLabel (A j) L).toNatClampNeg) := by unfold FLa_stepsToLabel; rw [cj]
    rcases hlab a0 a1 with ⟨u1, u2⟩ | ⟨t, t1, t2, t3, t4, t5, t6⟩
    · refine Or.inl ⟨?_, ?_⟩
      · unfold FLa_isInReach
        rw [cj, e, et, if_pos u1, if_neg (c := (11 : Int32) = 10) (by decide), if_pos (c := (11 : Int32) = 11) rfl, if_pos rfl]
      · unfold FMo_halfOf
        rw [cj, e, if_neg (c := (11 : Int32) = 1) (by decide), if_neg (c := (11 : Int32) = 2) (by decide), if_neg (c := (11 : Int32) = 3) (by decide), if_neg (c := (11 : Int32) = 4) (by decide), if_neg (c := (11 : Int32) = 5) (by decide), if_neg (c := (11 : Int32) = 6) (by decide), if_neg (c := (11 : Int32) = 7) (by decide), if_neg (c := (11 : Int32) = 8) (by decide), if_neg (c := (11 : Int32) = 9) (by decide), if_neg (c := (11 : Int32) = 10) (by decide), if_pos (c := (11 : Int32) = 11) rfl, if_pos u2]; decide
    · rw [if_neg t3] at et es
      obtain ⟨d, d1, d2, d3⟩ := qo_steps (t := t) (b := p) (by omega) (by omega) t2 p3
      have eq := qo_half d1
      have ef : FLa_stepsFrom (TL j) (TL (FSo_lineOfLabel (A j) L).toNatClampNeg) = ((nI t - nI p) - 4) / 2 := by
        unfold FLa_stepsFrom; rw [t5, p4, p1]
      rw [ef] at es
      have r1 : FLa_isInReach (nI j) TL TC K A L = (if ((nI t - nI p) - 4) / 2 < -1024 then 0 else if 1023 < ((nI t - nI p) - 4) / 2 then 0 else 1) := by
        unfold FLa_isInReach
        rw [cj, e, et, es, if_neg (c := (11 : Int32) = 10) (by decide), if_pos (c := (11 : Int32) = 11) rfl, if_neg (c := (1 : Int32) = 0) (by decide)]
      have r2 : FMo_halfOf (nI j) (nI c) (nI E) K A B C mf mc mL = (if FMo_outside ((nI t - nI p) - 4) (-2048) 2046 = 0 then 57344 + ((((nI t - nI p) - 4) / 2 + 2048) - (((nI t - nI p) - 4) / 2 + 2048) / 2048 * 2048) else (-1)) := by
        unfold FMo_halfOf
        rw [cj, e, if_neg (c := (11 : Int32) = 1) (by decide), if_neg (c := (11 : Int32) = 2) (by decide), if_neg (c := (11 : Int32) = 3) (by decide), if_neg (c := (11 : Int32) = 4) (by decide), if_neg (c := (11 : Int32) = 5) (by decide), if_neg (c := (11 : Int32) = 6) (by decide), if_neg (c := (11 : Int32) = 7) (by decide), if_neg (c := (11 : Int32) = 8) (by decide), if_neg (c := (11 : Int32) = 9) (by decide), if_neg (c := (11 : Int32) = 10) (by decide), if_pos (c := (11 : Int32) = 11) rfl, if_neg t4, t6, p1]
      have r3 : FLa_halfOf (nI j) TL TC K A B C L = 57344 + (((nI t - nI p) - 4) / 2 &&& (2047 : Int32)) := by
        unfold FLa_halfOf
        rw [cj, e, if_neg (c := (11 : Int32) = 1) (by decide), if_neg (c := (11 : Int32) = 2) (by decide), if_neg (c := (11 : Int32) = 3) (by decide), if_neg (c := (11 : Int32) = 4) (by decide), if_neg (c := (11 : Int32) = 5) (by decide), if_neg (c := (11 : Int32) = 6) (by decide), if_neg (c := (11 : Int32) = 7) (by decide), if_neg (c := (11 : Int32) = 8) (by decide), if_neg (c := (11 : Int32) = 9) (by decide), if_neg (c := (11 : Int32) = 10) (by decide), if_pos (c := (11 : Int32) = 11) rfl, es]
      rw [r1, r2, r3]
      generalize ((nI t - nI p) - 4) = s at d1 eq
      by_cases o : FMo_outside s (-2048) 2046 = 0
      · have o' := o
        rw [pu_out, d1, show (-2048 : Int32).toInt = -2048 by decide, show (2046 : Int32).toInt = 2046 by decide] at o'
        obtain ⟨v, v1, v2, v3⟩ := qo_2047 eq (by omega) (by omega)
        refine Or.inr ⟨?_, 57344 + v, by omega, ?_, ?_⟩
        · rw [if_neg (c := s / 2 < -1024) (by rw [pu_lt, eq, show (-1024 : Int32).toInt = -1024 by decide]; omega), if_neg (c := 1023 < s / 2) (by rw [pu_lt, eq, show (1023 : Int32).toInt = 1023 by decide]; omega)]
          decide
        · rw [if_pos o, v3, qp_cadd 57344 57344 _ rfl]
        · rw [v2, qp_cadd 57344 57344 _ rfl]
      · have o' := o
        rw [pu_out, d1, show (-2048 : Int32).toInt = -2048 by decide, show (2046 : Int32).toInt = 2046 by decide] at o'
        refine Or.inl ⟨?_, by rw [if_neg o]; decide⟩
        by_cases w : s / 2 < -1024
        · rw [if_pos w]
        · rw [if_neg w, if_pos (c := 1023 < s / 2) (by
            rw [pu_lt, eq, show (-1024 : Int32).toInt = -1024 by decide] at w
            rw [pu_lt, eq, show (1023 : Int32).toInt = 1023 by decide]; omega)]
  · obtain ⟨e, a0, a1, d0⟩ := q
    have d9 : 0 ≤ (C j).toInt ∧ (C j).toInt ≤ 15 := by
      unfold FMo_isCondition at d0
      simp only [pu_le, pu_lt, Int32.reduceToInt] at d0
      by_cases w0 : (C j).toInt < 0
      · rw [if_pos w0, if_pos (by omega)] at d0; exact absurd rfl d0
      by_cases w3 : (C j).toInt < 6
      · omega
      rw [if_neg w0, if_neg w3] at d0
      by_cases w1 : (C j).toInt ≤ 9
      · rw [if_pos w1] at d0; exact absurd rfl d0
      · rw [if_neg w1] at d0
        by_cases w4 : 14 ≤ (C j).toInt
        · rw [if_pos w4] at d0; exact absurd rfl d0
        · omega
    obtain ⟨g, hg, eg⟩ := qo_nat (n := 15) d9.1 d9.2
    have et : FLa_hasTarget (nI j) A L = if FSo_lineOfLabel (A j) L = -1 then 0 else 1 := by unfold FLa_hasTarget; rw [cj]
    have es : FLa_stepsToLabel (nI j) TL A L = if FSo_lineOfLabel (A j) L = -1 then 0 else FLa_stepsFrom (TL j) (TL (FSo_lineOfLabel (A j) L).toNatClampNeg) := by unfold FLa_stepsToLabel; rw [cj]
    rcases hlab a0 a1 with ⟨u1, u2⟩ | ⟨t, t1, t2, t3, t4, t5, t6⟩
    · refine Or.inl ⟨?_, ?_⟩
      · unfold FLa_isInReach
        rw [cj, e, et, if_pos u1, if_neg (c := (12 : Int32) = 10) (by decide), if_neg (c := (12 : Int32) = 11) (by decide), if_pos (c := (12 : Int32) = 12) rfl, if_pos rfl]
      · unfold FMo_halfOf
        rw [cj, e, if_neg (c := (12 : Int32) = 1) (by decide), if_neg (c := (12 : Int32) = 2) (by decide), if_neg (c := (12 : Int32) = 3) (by decide), if_neg (c := (12 : Int32) = 4) (by decide), if_neg (c := (12 : Int32) = 5) (by decide), if_neg (c := (12 : Int32) = 6) (by decide), if_neg (c := (12 : Int32) = 7) (by decide), if_neg (c := (12 : Int32) = 8) (by decide), if_neg (c := (12 : Int32) = 9) (by decide), if_neg (c := (12 : Int32) = 10) (by decide), if_neg (c := (12 : Int32) = 11) (by decide), if_pos (c := (12 : Int32) = 12) rfl, if_pos u2]; decide
    · rw [if_neg t3] at et es
      obtain ⟨d, d1, d2, d3⟩ := qo_steps (t := t) (b := p) (by omega) (by omega) t2 p3
      have eq := qo_half d1
      have ef : FLa_stepsFrom (TL j) (TL (FSo_lineOfLabel (A j) L).toNatClampNeg) = ((nI t - nI p) - 4) / 2 := by
        unfold FLa_stepsFrom; rw [t5, p4, p1]
      rw [ef] at es
      have r1 : FLa_isInReach (nI j) TL TC K A L = (if ((nI t - nI p) - 4) / 2 < -128 then 0 else if 127 < ((nI t - nI p) - 4) / 2 then 0 else 1) := by
        unfold FLa_isInReach
        rw [cj, e, et, es, if_neg (c := (12 : Int32) = 10) (by decide), if_neg (c := (12 : Int32) = 11) (by decide), if_pos (c := (12 : Int32) = 12) rfl, if_neg (c := (1 : Int32) = 0) (by decide)]
      have r2 : FMo_halfOf (nI j) (nI c) (nI E) K A B C mf mc mL = (if FMo_outside ((nI t - nI p) - 4) (-256) 254 = 0 then (53248 + (256 * (C j))) + ((((nI t - nI p) - 4) / 2 + 256) - (((nI t - nI p) - 4) / 2 + 256) / 256 * 256) else (-1)) := by
        unfold FMo_halfOf
        rw [cj, e, if_neg (c := (12 : Int32) = 1) (by decide), if_neg (c := (12 : Int32) = 2) (by decide), if_neg (c := (12 : Int32) = 3) (by decide), if_neg (c := (12 : Int32) = 4) (by decide), if_neg (c := (12 : Int32) = 5) (by decide), if_neg (c := (12 : Int32) = 6) (by decide), if_neg (c := (12 : Int32) = 7) (by decide), if_neg (c := (12 : Int32) = 8) (by decide), if_neg (c := (12 : Int32) = 9) (by decide), if_neg (c := (12 : Int32) = 10) (by decide), if_neg (c := (12 : Int32) = 11) (by decide), if_pos (c := (12 : Int32) = 12) rfl, if_neg t4, t6, p1]
      have r3 : FLa_halfOf (nI j) TL TC K A B C L = (53248 + (256 * (C j))) + (((nI t - nI p) - 4) / 2 &&& (255 : Int32)) := by
        unfold FLa_halfOf
        rw [cj, e, if_neg (c := (12 : Int32) = 1) (by decide), if_neg (c := (12 : Int32) = 2) (by decide), if_neg (c := (12 : Int32) = 3) (by decide), if_neg (c := (12 : Int32) = 4) (by decide), if_neg (c := (12 : Int32) = 5) (by decide), if_neg (c := (12 : Int32) = 6) (by decide), if_neg (c := (12 : Int32) = 7) (by decide), if_neg (c := (12 : Int32) = 8) (by decide), if_neg (c := (12 : Int32) = 9) (by decide), if_neg (c := (12 : Int32) = 10) (by decide), if_neg (c := (12 : Int32) = 11) (by decide), if_pos (c := (12 : Int32) = 12) rfl, es]
      rw [r1, r2, r3]
      generalize ((nI t - nI p) - 4) = s at d1 eq
      by_cases o : FMo_outside s (-256) 254 = 0
      · have o' := o
        rw [pu_out, d1, show (-256 : Int32).toInt = -256 by decide, show (254 : Int32).toInt = 254 by decide] at o'
        obtain ⟨v, v1, v2, v3⟩ := qo_255 eq (by omega) (by omega)
        refine Or.inr ⟨?_, 53248 + 256 * g + v, by omega, ?_, ?_⟩
        · rw [if_neg (c := s / 2 < -128) (by rw [pu_lt, eq, show (-128 : Int32).toInt = -128 by decide]; omega), if_neg (c := 127 < s / 2) (by rw [pu_lt, eq, show (127 : Int32).toInt = 127 by decide]; omega)]
          decide
        · rw [if_pos o, v3, eg, qp_mul 256 256 g rfl, qp_cadd 53248 53248 _ rfl, qp_add]
        · rw [v2, eg, qp_mul 256 256 g rfl, qp_cadd 53248 53248 _ rfl, qp_add]
      · have o' := o
        rw [pu_out, d1, show (-256 : Int32).toInt = -256 by decide, show (254 : Int32).toInt = 254 by decide] at o'
        refine Or.inl ⟨?_, by rw [if_neg o]; decide⟩
        by_cases w : s / 2 < -128
        · rw [if_pos w]
        · rw [if_neg w, if_pos (c := 127 < s / 2) (by
            rw [pu_lt, eq, show (-128 : Int32).toInt = -128 by decide] at w
            rw [pu_lt, eq, show (127 : Int32).toInt = 127 by decide]; omega)]
  · exact absurd q.1 k13
  · exact absurd q k14
  · refine Or.inr ⟨qp_in (by omega) (by rw [q]; decide) (by rw [q]; decide) (by rw [q]; decide), 48640, by omega, ?_, ?_⟩
    · unfold FMo_halfOf
      rw [cj, q]; rfl
    · unfold FLa_halfOf
      rw [cj, q]; rfl
end

section
variable {K A B C L mL TL TC mf mc gh : Nat → Int32} {c E : Nat}
theorem qq_stop {mn me : Int32} : ∀ (n i : Nat) (mx : Int32) (md : Nat → Int32), ¬ mx = -1 → (LMo_assemble_11 n mn me K A B C mf mc mL i mx md).2.1 = mx := by
  intro n i mx md h
  cases n with
  | zero => rfl
  | succ n =>
    rw [LMo_assemble_11, if_neg h]
    split <;> rfl
/-- which line is refused, and what the draft holds when none is -/
theorem qq_loop (hc : c ≤ 160) (hok : ∀ j : Nat, pu_ok (K j) (A j) (B j) (C j)) (hE : E % 2 = 0) (hE2 : E ≤ 12800)
    (h1 : ∀ q : Nat, q < c → qm_hs K q → (∃ p : Nat, mf q = nI p ∧ p + 2 ≤ E ∧ p % 2 = 0) ∧ TL q = mf q) (h2 : ∀ q : Nat, q < c → ¬ qm_hs K q → mf q = -1 ∧ TL q = if q + 1 = c then nI E else TL (q + 1))
    (h3 : ∀ q : Nat, q < c → K q = 10 → qd_eq (TC q) (mc q)) (hL : ∀ l : Nat, l < 16 → L l = mL l) (hl : ∀ l : Nat, l < 16 → ¬ mL l = -1 → ∃ i : Nat, i < c ∧ mL l = nI i)
    (hG : ∀ j : Nat, j < c → qk_mk K j → ∃ m : Nat, m < E / 2 ∧ mf j = nI (2 * m) ∧ pq_sh gh m = qc_s (FLa_halfOf (nI j) TL TC K A B C L)) :
    ∀ (n i : Nat) (md : Nat → Int32), i ≤ c → c < n + i → (∀ m : Nat, m < E / 2 → qd_I gh md m ∨ ∃ j : Nat, i ≤ j ∧ j < c ∧ qk_mk K j ∧ mf j = nI (2 * m)) →
      ((LLa_firstOutOfReach_2 n TL TC (nI c) K A L i).2 = 1 ∧ (LLa_firstOutOfReach_2 n TL TC (nI c) K A L i).1 < c ∧ (LMo_assemble_11 n (nI c) (nI E) K A B C mf mc mL i (-1) md).2.1 = nI (LLa_firstOutOfReach_2 n TL TC (nI c) K A L i).1) ∨
      (¬ (LLa_firstOutOfReach_2 n TL TC (nI c) K A L i).2 = 1 ∧ (LMo_assemble_11 n (nI c) (nI E) K A B C mf mc mL i (-1) md).2.1 = -1 ∧ ∀ m : Nat, m < E / 2 → qd_I gh (LMo_assemble_11 n (nI c) (nI E) K A B C mf mc mL i (-1) md).2.2 m) := by
  intro n
  induction n with
  | zero => intro i md a1 a2; omega
  | succ n ih =>
    intro i md a1 a2 a3
    rw [LLa_firstOutOfReach_2, LMo_assemble_11]
    by_cases e : i = c
    · subst e
      rw [if_pos (nI_le (Nat.le_refl i) (by omega)), if_pos (nI_le (Nat.le_refl i) (by omega))]
      refine Or.inr ⟨by show ¬ (0 : Int32) = 1; decide, rfl, fun m hm => ?_⟩
      rcases a3 m hm with w | ⟨j, w1, w2, _⟩
      · exact w
      · omega
    · have hi : i < c := by omega
      rw [if_neg (nI_ge hi (by omega)), if_neg (nI_ge hi (by omega)), if_pos rfl, nI_clamp (by omega)]
      by_cases mk : qk_mk K i
      · have mk' := mk
        obtain ⟨k0, k13, k14⟩ := mk'
        rw [if_neg k0, if_neg k13, if_neg k14]
        rcases qp_line (B := B) (C := C) hc hi (hok i) hE hE2 h1 h2 h3 hL hl mk with ⟨r1, r2⟩ | ⟨r1, h, r2, r3, r4⟩
        · rw [if_pos r1, if_neg (fun w => by
            have w1 := (pu_le).mp w
            have w2 := (pu_lt).mp r2
            omega)]
          refine Or.inl ⟨rfl, hi, ?_⟩
          exact qq_stop n (i + 1) (nI i) md (qk_m1 (by omega))
        · rw [if_neg r1, r3, if_pos (nI_pos' (by omega))]
          obtain ⟨m0, g1, g2, g3⟩ := hG i hi mk
          refine ih (i + 1) (FMo_write (mf i) (nI h) md) (by omega) (by omega) (fun m hm => ?_)
          rw [g2, qb_w (by omega), show 2 * m0 / 2 = m0 by omega]
          by_cases w : m = m0
          · subst w
            refine Or.inl (qd_I_of (v := nI h) pk_us ?_)
            rw [g3, r4]
          · rcases a3 m hm with ⟨y, y1, y2, y3⟩ | ⟨j, w1, w2, w3, w4⟩
            · exact Or.inl ⟨y, y1, (pk_un w).trans y2, y3⟩
            · refine Or.inr ⟨j, ?_, w2, w3, w4⟩
              rcases Nat.lt_or_ge i j with v | v
              · exact v
              · have : j = i := by omega
                subst this
                rw [g2] at w4
                have := qk_inj (by omega) (by omega) w4
                omega
      · have r1 : ¬ FLa_isInReach (nI i) TL TC K A L = 0 := by
          have hor : K i = 0 ∨ K i = 13 ∨ K i = 14 := by
            by_cases w0 : K i = 0
            · exact Or.inl w0
            by_cases w1 : K i = 13
            · exact Or.inr (Or.inl w1)
            by_cases w2 : K i = 14
            · exact Or.inr (Or.inr w2)
            exact absurd ⟨w0, w1, w2⟩ mk
          refine qp_in (by omega) ?_ ?_ ?_
          · rcases hor with w | w | w <;> rw [w] <;> decide
          · rcases hor with w | w | w <;> rw [w] <;> decide
          · rcases hor with w | w | w <;> rw [w] <;> decide
        have st : ∀ x y : Nat × Int32 × (Nat → Int32), (if K i = 0 then x else if K i = 13 then x else if K i = 14 then x else y) = x := by
          intro x y
          by_cases w0 : K i = 0
          · rw [if_pos w0]
          by_cases w1 : K i = 13
          · rw [if_neg w0, if_pos w1]
          by_cases w2 : K i = 14
          · rw [if_neg w0, if_neg w1, if_pos w2]
          exact absurd ⟨w0, w1, w2⟩ mk
        rw [if_neg r1, st]
        refine ih (i + 1) md (by omega) (by omega) (fun m hm => ?_)
        rcases a3 m hm with w | ⟨j, w1, w2, w3, w4⟩
        · exact Or.inl w
        · refine Or.inr ⟨j, ?_, w2, w3, w4⟩
          rcases Nat.lt_or_ge i j with v | v
          · exact v
          · have : j = i := by omega
            subst this; exact absurd w3 mk
theorem qq_copy {z : Nat} {md : Nat → Int32} (hz : z < 2 ^ 20) : ∀ (n i : Nat) (mi : Nat → Int32), i ≤ z → z < n + i → (∀ k : Nat, k < i → mi k = md k) → ∀ k : Nat, k < z → (LMo_assemble_157 n (nI z) md i mi).2 k = md k := by
  intro n
  induction n with
  | zero => intro i mi a1 a2; omega
  | succ n ih =>
    intro i mi a1 a2 a3 k hk
    rw [LMo_assemble_157]
    by_cases e : i = z
    · subst e
      rw [if_pos (nI_le (Nat.le_refl i) (by omega))]
      exact a3 k hk
    · rw [if_neg (nI_ge (by omega) (by omega)), nI_clamp (by omega)]
      refine ih (i + 1) (upd mi i (md i)) (by omega) (by omega) (fun q hq => ?_) k hk
      by_cases w : q = i
      · subst w; exact pk_us
      · rw [pk_un w]; exact a3 q (by omega)
end

theorem pp_assemble (x : XS) (y : MS) (hJ : pu_J x y) (hf9 : ∀ y9 : Nat, vp_in ((y.assemble).2.mf y9 / 2) 7200) (hl9 : ∀ y9 : Nat, vp_in ((y.assemble).2.ml y9 / 2) 7200) : (y.assemble).2.mq = pq_cd (x.assemble).1 ∧ ((x.assemble).1 = none → (x.assemble).2.1 = (y.assemble).1) ∧ pu_J (x.assemble).2.2 (y.assemble).2 := by
  obtain ⟨⟨c, hS⟩, ⟨z, hI⟩, hp, hR, hx, hto, _, _⟩ := hJ
  have hS' := hS
  obtain ⟨hc, e1, e2, e3, e4, e5, e6, hL, hok, hlb⟩ := hS'
  have hR' := hR
  obtain ⟨r1, r2, r3, r4, r5, r6, r7, r8, h8, h32, b1, b2, b3, b4⟩ := hR'
  have ec : (nI c).toInt.toNat = c := by rw [nI_toInt (by omega)]; omega
  obtain ⟨E, tl1, tc1, ts1, tv1, mcF, mdF, mlF, mfF, tn1, to1, tp1, tk1, moF, mtF, f1, f2, f3, f4, f5, f6, f7, f8⟩ := qn_first (K := y.mK) (A := y.mA) (B := y.mB) (C := y.mC) (L := x.sL) hc hok x.to hto x.tl x.tc x.ts x.tv x.gh y.mc y.md y.ml y.mf
  have hset := qo_settle (K := y.mK) (A := y.mA) hok (c + 1) c (nI E) tl1 (by omega) hc
  have eTL : FLa_settleLabels (nI E) tl1 (nI c) y.mK y.mA = (LLa_settleLabels_15 (c + 1) y.mK y.mA (nI E) c tl1).2.2 := by
    unfold FLa_settleLabels; rw [ec]
  have hm : FLa_measure x.to x.tl x.tc x.ts x.tv (nI c) y.mK y.mA y.mB y.mC x.sL x.gh = (FLa_settleLabels (nI E) tl1 (nI c) y.mK y.mA, tc1, ts1, tv1, tn1, to1, nI E, tp1, tk1, 0, x.gh) := by
    unfold FLa_measure
    rw [f1]
  rw [eTL] at hm
  generalize (LLa_settleLabels_15 (c + 1) y.mK y.mA (nI E) c tl1).2.2 = TL at hset hm
  obtain ⟨s1, s2, s3⟩ := hset
  have h1 : ∀ q : Nat, q < c → qm_hs y.mK q → (∃ p : Nat, mfF q = nI p ∧ p + 2 ≤ E ∧ p % 2 = 0) ∧ TL q = mfF q := by
    intro q q1 q2
    obtain ⟨u1, u2⟩ := f6 q q1 q2
    exact ⟨u1, (s2 q q1 q2).trans u2⟩
  have h2 : ∀ q : Nat, q < c → ¬ qm_hs y.mK q → mfF q = -1 ∧ TL q = if q + 1 = c then nI E else TL (q + 1) := fun q q1 q2 => ⟨f7 q q1 q2, s3 q q1 q2⟩
  obtain ⟨ts2, tv2, gh2, tn2, to2, tk2, g1, g2, g3⟩ := qn_second (K := y.mK) (A := y.mA) (B := y.mB) (C := y.mC) (L := x.sL) hc hok to1 f5 TL tc1 ts1 tv1 x.gh y.mc y.md y.ml y.mf f2 (by omega) (fun q q1 q2 => (h1 q q1 q2).2) (fun q q1 q2 => (f8 q q1 q2).1)
  have hwr : FLa_write to1 TL tc1 ts1 tv1 (nI c) y.mK y.mA y.mB y.mC x.sL x.gh = (TL, tc1, ts2, tv2, tn2, to2, nI E, tp1, tk2, 1, gh2, nI E / 2, tp1) := by
    unfold FLa_write
    rw [g1]
  have eE : nI E / 2 = nI (E / 2) := pc_dv (by omega) 2 2 rfl (by omega) (by omega)
  have eE2 : (nI (E / 2)).toInt.toNat = E / 2 := by rw [nI_toInt (by omega)]; omega
  have hloop := qq_loop (K := y.mK) (A := y.mA) (B := y.mB) (C := y.mC) (L := x.sL) (mL := y.mL) (TL := TL) (TC := tc1) (mf := mfF) (mc := mcF) (gh := gh2) (c := c) (E := E) hc hok f3 (by omega) h1 h2 f8 hL (fun l l1 l2 => by
    obtain ⟨i, i1, i2, i3⟩ := hlb l l2
    exact ⟨i, (i3 l1).1, i2⟩) g3.2 (c + 1) 0 mdF (by omega) (by omega) (fun m hm => by
    rcases g3.1 m hm with w | ⟨j, w1, w2, w3, _⟩
    · exact Or.inl w
    · exact Or.inr ⟨j, by omega, w1, w2, w3⟩)
  have eo : FLa_firstOutOfReach TL tc1 (nI c) y.mK y.mA x.sL = if (LLa_firstOutOfReach_2 (c + 1) TL tc1 (nI c) y.mK y.mA x.sL 0).2 = 1 then nI (LLa_firstOutOfReach_2 (c + 1) TL tc1 (nI c) y.mK y.mA x.sL 0).1 else -1 := by
    unfold FLa_firstOutOfReach; rw [ec]
  rcases hloop with ⟨o1, o2, o3⟩ | ⟨o1, o2, o3⟩
  · rw [if_pos o1] at eo
    generalize (LLa_firstOutOfReach_2 (c + 1) TL tc1 (nI c) y.mK y.mA x.sL 0).1 = k at eo o2 o3
    have eX : FPo_assemble x.to x.tl x.tc x.ts x.tv x.sn x.sK x.sA x.sB x.sC x.sL x.gn x.gp x.gh x.rp x.re x.fn x.fz x.fc x.fv x.rr x.rw = (some "java/lang/ArithmeticException", 0, TL, tc1, ts1, tv1, tn1, to1, nI E, tp1, tk1, 0, x.gh, x.gn, x.gp, nI k, x.rr, x.rw, x.rp, x.re, x.fn, x.fz, x.fc, x.fv) := by
      unfold FPo_assemble
      rw [e1, e3, e4, e5, e6, hm]
      simp only
      rw [eo, if_neg (qk_m1 (by omega))]
    have eY : FMo_assemble y.mn y.mz y.mu y.vn y.vz y.vc y.vv y.vp y.ve y.mK y.mA y.mB y.mC y.mf y.ml y.mc y.mL y.md y.mi y.mr y.mw = (0, nI E, moF, mtF, tp1, mcF, (LMo_assemble_11 (c + 1) (nI c) (nI E) y.mK y.mA y.mB y.mC mfF mcF y.mL 0 (-1) mdF).2.2, mlF, mfF, nI k, 1, y.mz, y.mu, y.mi, y.mr, y.mw, y.vn, y.vz, y.vc, y.vv, y.vp, y.ve) := by
      unfold FMo_assemble
      rw [e2, f2]
      simp only
      rw [ec, o3, if_neg (qk_m1 (by omega))]
    unfold XS.assemble MS.assemble
    unfold MS.assemble at hf9 hl9
    rw [eY] at hf9 hl9
    rw [eX, eY]
    exact ⟨rfl, (fun w => by cases w), ⟨c, hS⟩, ⟨z, hI⟩, hp, hR, rfl, f5, hf9, hl9⟩
  · rw [if_neg o1] at eo
    have eX : FPo_assemble x.to x.tl x.tc x.ts x.tv x.sn x.sK x.sA x.sB x.sC x.sL x.gn x.gp x.gh x.rp x.re x.fn x.fz x.fc x.fv x.rr x.rw = (none, nI (E / 2), TL, tc1, ts2, tv2, tn2, to2, nI E, tp1, tk2, 1, gh2, nI (E / 2), tp1, -1, (FPr_begin).1, (FPr_begin).2.1, (FPr_begin).2.2.1, (FPr_begin).2.2.2.1, (FPr_begin).2.2.2.2.1, (FPr_begin).2.2.2.2.2.1, (FPr_begin).2.2.2.2.2.2.1, (FPr_begin).2.2.2.2.2.2.2) := by
      unfold FPo_assemble
      rw [e1, e3, e4, e5, e6, hm]
      simp only
      rw [eo, if_pos rfl, hwr, eE]
    have eY : FMo_assemble y.mn y.mz y.mu y.vn y.vz y.vc y.vv y.vp y.ve y.mK y.mA y.mB y.mC y.mf y.ml y.mc y.mL y.md y.mi y.mr y.mw = (nI (E / 2), nI E, moF, mtF, tp1, mcF, (LMo_assemble_11 (c + 1) (nI c) (nI E) y.mK y.mA y.mB y.mC mfF mcF y.mL 0 (-1) mdF).2.2, mlF, mfF, -1, 0, nI (E / 2), tp1, (LMo_assemble_157 (E / 2 + 1) (nI (E / 2)) (LMo_assemble_11 (c + 1) (nI c) (nI E) y.mK y.mA y.mB y.mC mfF mcF y.mL 0 (-1) mdF).2.2 0 y.mi).2, (FMo_begin y.mr y.mw).1, (FMo_begin y.mr y.mw).2.1, (FMo_begin y.mr y.mw).2.2.1, (FMo_begin y.mr y.mw).2.2.2.1, (FMo_begin y.mr y.mw).2.2.2.2.1, (FMo_begin y.mr y.mw).2.2.2.2.2.1, (FMo_begin y.mr y.mw).2.2.2.2.2.2.1, (FMo_begin y.mr y.mw).2.2.2.2.2.2.2) := by
      unfold FMo_assemble
      rw [e2, f2]
      simp only
      rw [ec, o2, if_pos rfl, eE, eE2]
    have hcp := qq_copy (z := E / 2) (md := (LMo_assemble_11 (c + 1) (nI c) (nI E) y.mK y.mA y.mB y.mC mfF mcF y.mL 0 (-1) mdF).2.2) (by omega) (E / 2 + 1) 0 y.mi (by omega) (by omega) (fun k hk => by omega)
    unfold XS.assemble MS.assemble
    unfold MS.assemble at hf9 hl9
    rw [eY] at hf9 hl9
    rw [eX, eY]
    refine ⟨rfl, fun _ => rfl, ⟨c, hS⟩, ⟨E / 2, by omega, rfl, rfl, fun k hk => ?_⟩, rfl, pp_R0 h8 h32, rfl, g2, hf9, hl9⟩
    obtain ⟨h, q1, q2, q3⟩ := o3 k hk
    exact ⟨h, q1, (hcp k hk).trans q2, q3⟩
/-- the law's invariant -/
theorem pp_law : pq_Law pu_J :=
  ⟨pp_init, pp_pre, pp_line, fun x y h a b => pp_assemble x y h a b, fun x y h f _ _ _ => pp_run x y h f, pp_register, pp_clear, pp_restart, pp_refused, pp_half, pp_size, pp_pools, pp_data⟩
