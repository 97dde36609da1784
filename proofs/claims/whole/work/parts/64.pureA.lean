theorem pu_le {a b : Int32} : a ≤ b ↔ a.toInt ≤ b.toInt := Int32.le_iff_toInt_le
theorem pu_lt {a b : Int32} : a < b ↔ a.toInt < b.toInt := Int32.lt_iff_toInt_lt
theorem pu_eq {a b : Int32} : a = b ↔ a.toInt = b.toInt := Int32.toInt_inj.symm
theorem pu_out {v a b : Int32} : FMo_outside v a b = 0 ↔ a.toInt ≤ v.toInt ∧ v.toInt ≤ b.toInt := by
  unfold FMo_outside
  simp only [pu_lt, pu_le]
  repeat' split
  all_goals first | (simp; omega) | (constructor <;> intro h <;> first | rfl | omega | (exfalso; revert h; decide))
theorem pu_reg {a : Int32} : FFo_isRegister a = 0 ↔ ¬ (0 ≤ a.toInt ∧ a.toInt ≤ 7) := by
  unfold FFo_isRegister
  simp only [pu_lt, pu_le, Int32.reduceToInt]
  repeat' split
  all_goals first | (simp; omega) | simp; omega
theorem pu_lab {a : Int32} : FFo_isLabel a = 0 ↔ ¬ (0 ≤ a.toInt ∧ a.toInt ≤ 15) := by
  unfold FFo_isLabel
  simp only [pu_lt, pu_le, Int32.reduceToInt]
  repeat' split
  all_goals first | (simp; omega)
theorem pu_deed {a : Int32} : FFo_isWork a = FMo_isDeed a := by
  unfold FFo_isWork FMo_isDeed
  simp only [pu_lt, pu_le, Int32.reduceToInt]
  repeat' split
  all_goals first | rfl | omega
theorem pu_cond {a : Int32} : FFo_isCondition a = FMo_isCondition a := by
  unfold FFo_isCondition FMo_isCondition
  simp only [pu_lt, pu_le, Int32.reduceToInt]
  repeat' split
  all_goals first | rfl | omega
/-- which lines there are -/
def pu_ok (k a b c : Int32) : Prop :=
  (k = 0 ∧ 0 ≤ a.toInt ∧ a.toInt ≤ 15) ∨ ((k = 1 ∨ k = 2 ∨ k = 3 ∨ k = 4) ∧ 0 ≤ a.toInt ∧ a.toInt ≤ 7 ∧ 0 ≤ b.toInt ∧ b.toInt ≤ 255) ∨
  ((k = 5 ∨ k = 6) ∧ 0 ≤ a.toInt ∧ a.toInt ≤ 7 ∧ 0 ≤ b.toInt ∧ b.toInt ≤ 7 ∧ 0 ≤ c.toInt ∧ c.toInt ≤ 7) ∨
  (k = 7 ∧ 0 ≤ a.toInt ∧ a.toInt ≤ 7 ∧ 0 ≤ b.toInt ∧ b.toInt ≤ 7 ∧ ¬ FMo_isDeed c = 0) ∨
  ((k = 8 ∨ k = 9) ∧ 0 ≤ a.toInt ∧ a.toInt ≤ 7 ∧ 0 ≤ b.toInt ∧ b.toInt ≤ 7 ∧ 0 ≤ c.toInt ∧ c.toInt ≤ 31) ∨
  (k = 10 ∧ 0 ≤ a.toInt ∧ a.toInt ≤ 7) ∨ (k = 11 ∧ 0 ≤ a.toInt ∧ a.toInt ≤ 15) ∨
  (k = 12 ∧ 0 ≤ a.toInt ∧ a.toInt ≤ 15 ∧ ¬ FMo_isCondition c = 0) ∨ (k = 13 ∧ 1 ≤ a.toInt ∧ a.toInt ≤ 40) ∨ k = 14 ∨ k = 15
theorem pu_kinds (k : Int32) : k = 0 ∨ k = 1 ∨ k = 2 ∨ k = 3 ∨ k = 4 ∨ k = 5 ∨ k = 6 ∨ k = 7 ∨ k = 8 ∨ k = 9 ∨ k = 10 ∨ k = 11 ∨ k = 12 ∨ k = 13 ∨ k = 14 ∨ k = 15 ∨ (¬ k = 0 ∧ ¬ k = 1 ∧ ¬ k = 2 ∧ ¬ k = 3 ∧ ¬ k = 4 ∧ ¬ k = 5 ∧ ¬ k = 6 ∧ ¬ k = 7 ∧ ¬ k = 8 ∧ ¬ k = 9 ∧ ¬ k = 10 ∧ ¬ k = 11 ∧ ¬ k = 12 ∧ ¬ k = 13 ∧ ¬ k = 14 ∧ ¬ k = 15) := by
  by_cases h0 : k = 0
  · exact Or.inl h0
  by_cases h1 : k = 1 <;> by_cases h2 : k = 2 <;> by_cases h3 : k = 3 <;> by_cases h4 : k = 4 <;> by_cases h5 : k = 5 <;> simp_all
  by_cases h6 : k = 6 <;> by_cases h7 : k = 7 <;> by_cases h8 : k = 8 <;> by_cases h9 : k = 9 <;> by_cases h10 : k = 10 <;> simp_all
  by_cases h11 : k = 11 <;> by_cases h12 : k = 12 <;> by_cases h13 : k = 13 <;> by_cases h14 : k = 14 <;> by_cases h15 : k = 15 <;> simp_all
theorem pu_isLine {k a b c : Int32} : ¬ FFo_isLine k a b c = 0 ↔ pu_ok k a b c := by
  rcases pu_kinds k with h | h | h | h | h | h | h | h | h | h | h | h | h | h | h | h | h
  case' inr.inr.inr.inr.inr.inr.inr.inr.inr.inr.inr.inr.inr.inr.inr.inr =>
    obtain ⟨h0, h1, h2, h3, h4, h5, h6, h7, h8, h9, h10, h11, h12, h13, h14, h15⟩ := h
    simp only [FFo_isLine, pu_ok, h0, h1, h2, h3, h4, h5, h6, h7, h8, h9, h10, h11, h12, h13, h14, h15, if_false, false_and, or_false, not_true]
  all_goals subst h
  all_goals
    unfold FFo_isLine pu_ok
    simp [pu_lab, pu_reg, pu_deed, pu_cond, pu_lt, pu_le]
  all_goals first | omega | (by_cases hd : FMo_isDeed c = 0 <;> simp [hd] <;> omega) | (by_cases hd : FMo_isCondition c = 0 <;> simp [hd] <;> omega)

theorem pu_o7 {v : Int32} : FMo_outside v 0 7 = 0 ↔ 0 ≤ v.toInt ∧ v.toInt ≤ 7 := pu_out
theorem pu_o15 {v : Int32} : FMo_outside v 0 15 = 0 ↔ 0 ≤ v.toInt ∧ v.toInt ≤ 15 := pu_out
theorem pu_o31 {v : Int32} : FMo_outside v 0 31 = 0 ↔ 0 ≤ v.toInt ∧ v.toInt ≤ 31 := pu_out
theorem pu_o255 {v : Int32} : FMo_outside v 0 255 = 0 ↔ 0 ≤ v.toInt ∧ v.toInt ≤ 255 := pu_out
theorem pu_o40 {v : Int32} : FMo_outside v 1 40 = 0 ↔ 1 ≤ v.toInt ∧ v.toInt ≤ 40 := pu_out
theorem pu_fits {k a b c : Int32} : ¬ FMo_fits k a b c = 0 ↔ pu_ok k a b c := by
  rcases pu_kinds k with h | h | h | h | h | h | h | h | h | h | h | h | h | h | h | h | h
  case' inr.inr.inr.inr.inr.inr.inr.inr.inr.inr.inr.inr.inr.inr.inr.inr =>
    obtain ⟨h0, h1, h2, h3, h4, h5, h6, h7, h8, h9, h10, h11, h12, h13, h14, h15⟩ := h
    have e1 : k < 1 ∨ 4 < k := by
      rw [pu_lt, pu_lt]
      rw [pu_eq] at h0 h1 h2 h3 h4
      simp at h0 h1 h2 h3 h4 ⊢
      omega
    have e2 : ¬ pu_ok k a b c := by
      simp only [pu_ok, h0, h1, h2, h3, h4, h5, h6, h7, h8, h9, h10, h11, h12, h13, h14, h15, false_and, or_false, not_false_eq_true]
    unfold FMo_fits
    simp only [h0, h1, h2, h3, h4, h5, h6, h7, h8, h9, h10, h11, h12, h13, h14, h15, if_false, e2, iff_false, Classical.not_not]
    rcases e1 with e1 | e1 <;> simp only [e1, if_true, ite_self]
  all_goals subst h
  all_goals
    unfold FMo_fits pu_ok
    by_cases ha : FMo_outside a 0 7 = 0 <;> by_cases hb : FMo_outside b 0 7 = 0
  all_goals
    simp only [ha, hb, if_true, if_false]
    rw [pu_o7] at ha hb
    try simp [pu_o15, pu_o31, pu_o255, pu_o40, pu_lt, pu_o7, pu_deed, pu_cond]
  all_goals first | omega | (by_cases hd : FMo_isDeed c = 0 <;> simp [hd] <;> omega) | (by_cases hd : FMo_isCondition c = 0 <;> simp [hd] <;> omega)
theorem pu_lines {k a b c : Int32} : FFo_isLine k a b c = 0 ↔ FMo_fits k a b c = 0 := by
  have h := @pu_isLine k a b c
  have g := @pu_fits k a b c
  constructor
  · intro e; exact Classical.byContradiction fun n => (h.mpr (g.mp n)) e
  · intro e; exact Classical.byContradiction fun n => (g.mpr (h.mp n)) e

theorem pc_lt {h : Nat} (hh : h < 65536) (c : Int32) (m : Nat) (e : c = nI m) (hm : m < 2 ^ 31) : (nI h < c) = (h < m) := by
  subst e; exact propext (nI_ltI (by omega) hm)
theorem pc_le {h : Nat} (hh : h < 65536) (c : Int32) (m : Nat) (e : c = nI m) (hm : m < 2 ^ 31) : (c ≤ nI h) = (m ≤ h) := by
  subst e; exact propext (nI_leI hm (by omega))
theorem pc_eq {h : Nat} (hh : h < 65536) (c : Int32) (m : Nat) (e : c = nI m) (hm : m < 2 ^ 31) : (nI h = c) = (h = m) := by
  subst e; exact propext (nI_eq (by omega) hm)
theorem pc_div {h : Nat} (hh : h < 65536) (c : Int32) (m : Nat) (e : c = nI m) (h0 : 0 < m) (hm : m < 2 ^ 31) : nI h / c = nI (h / m) := by
  subst e; exact pk_div (by omega) h0 hm
theorem pc_rem {h : Nat} (hh : h < 65536) (c : Int32) (m : Nat) (e : c = nI m) (h0 : 0 < m) (hm : m < 2 ^ 31) : nI h - nI h / c * c = nI (h % m) := by
  subst e; exact pk_rem (by omega) h0 hm
theorem pc_sub {h : Nat} (c : Int32) (m : Nat) (e : c = nI m) (h0 : m ≤ h) : nI h - c = nI (h - m) := by
  subst e; exact pk_sub h0
theorem pc_7 {h : Nat} (hh : h < 65536) : nI h &&& (7 : Int32) = nI (h % 8) := pk_andN (by omega) 3 (by decide)
theorem pc_15 {h : Nat} (hh : h < 65536) : nI h &&& (15 : Int32) = nI (h % 16) := pk_andN (by omega) 4 (by decide)
theorem pc_31 {h : Nat} (hh : h < 65536) : nI h &&& (31 : Int32) = nI (h % 32) := pk_andN (by omega) 5 (by decide)
theorem pc_255 {h : Nat} (hh : h < 65536) : nI h &&& (255 : Int32) = nI (h % 256) := pk_andN (by omega) 8 (by decide)
theorem pc_s3 {h : Nat} (hh : h < 65536) : nI h >>> ((3 : Int32) &&& 31) = nI (h / 8) := pk_shrN (by omega) _ 3 (by decide)
theorem pc_s6 {h : Nat} (hh : h < 65536) : nI h >>> ((6 : Int32) &&& 31) = nI (h / 64) := pk_shrN (by omega) _ 6 (by decide)
theorem pc_s8 {h : Nat} (hh : h < 65536) : nI h >>> ((8 : Int32) &&& 31) = nI (h / 256) := pk_shrN (by omega) _ 8 (by decide)
theorem pc_s11 {h : Nat} (hh : h < 65536) : nI h >>> ((11 : Int32) &&& 31) = nI (h / 2048) := pk_shrN (by omega) _ 11 (by decide)
theorem pc_noted (x : Int32) : FPr_noted x = FMo_result x := by
  unfold FPr_noted FMo_result
  split <;> split <;> rfl
theorem pc_rm {h : Nat} (hh : h < 65536) (c : Int32) (m : Nat) (e : c = nI m) (h0 : 0 < m) (hm : m < 2 ^ 31) : nI h - nI (h / m) * c = nI (h % m) := by
  rw [← pc_div hh c m e h0 hm]; exact pc_rem hh c m e h0 hm
theorem pc_sb {h r : Nat} (c : Int32) (m : Nat) (e : c = nI m) (he : h = m + r) : nI h - c = nI r := by
  subst e; subst he; rw [pk_sub (by omega)]; congr 1; omega

theorem pc_msb (z : Int32) : z.toBitVec.msb = decide (z.toInt < 0) := by rw [BitVec.msb_eq_toInt]; rfl
theorem pc_sgn (x y z w : Int32) : (0 ≤ ((x ^^^ y) &&& (z ^^^ w))) ↔ ¬ ((x.toInt < 0 ↔ ¬ y.toInt < 0) ∧ (z.toInt < 0 ↔ ¬ w.toInt < 0)) := by
  have e : (0 ≤ ((x ^^^ y) &&& (z ^^^ w))) ↔ ((x ^^^ y) &&& (z ^^^ w)).toBitVec.msb = false := by
    rw [pc_msb, pu_le, decide_eq_false_iff_not]
    exact (Int.not_lt).symm
  rw [e, Int32.toBitVec_and, BitVec.msb_and, Int32.toBitVec_xor, Int32.toBitVec_xor, BitVec.msb_xor, BitVec.msb_xor, pc_msb, pc_msb, pc_msb, pc_msb]
  by_cases a : x.toInt < 0 <;> by_cases b : y.toInt < 0 <;> by_cases c : z.toInt < 0 <;> by_cases d : w.toInt < 0 <;> simp [a, b, c, d]
theorem pc_rng (x : Int32) : -2147483648 ≤ x.toInt ∧ x.toInt ≤ 2147483647 := ⟨Int32.le_toInt x, by have h := Int32.toInt_lt x; omega⟩
theorem pc_add64 (x y : Int32) : (x.toInt64 + y.toInt64).toInt = x.toInt + y.toInt := by
  have h := pc_rng x; have g := pc_rng y
  rw [Int64.toInt_add, Int32.toInt_toInt64, Int32.toInt_toInt64, Int.bmod_eq_of_le (by omega) (by omega)]
theorem pc_sub64 (x y : Int32) : (x.toInt64 - y.toInt64).toInt = x.toInt - y.toInt := by
  have h := pc_rng x; have g := pc_rng y
  rw [Int64.toInt_sub, Int32.toInt_toInt64, Int32.toInt_toInt64, Int.bmod_eq_of_le (by omega) (by omega)]
theorem pc_add32 (x y : Int32) : (x + y).toInt = x.toInt + y.toInt ∨ (x + y).toInt = x.toInt + y.toInt - 4294967296 ∨ (x + y).toInt = x.toInt + y.toInt + 4294967296 := by
  have h := pc_rng x; have g := pc_rng y; have r := pc_rng (x + y)
  rw [Int32.toInt_add] at r ⊢
  have := @Int.emod_emod_of_dvd
  simp only [Int.bmod] at r ⊢
  omega
theorem pc_sub32 (x y : Int32) : (x - y).toInt = x.toInt - y.toInt ∨ (x - y).toInt = x.toInt - y.toInt - 4294967296 ∨ (x - y).toInt = x.toInt - y.toInt + 4294967296 := by
  have h := pc_rng x; have g := pc_rng y; have r := pc_rng (x - y)
  rw [Int32.toInt_sub] at r ⊢
  simp only [Int.bmod] at r ⊢
  omega
theorem pc_cmp0 (a b : Int64) : lg_cmp a b = 0 ↔ a.toInt = b.toInt := by
  unfold lg_cmp
  simp only [Int64.lt_iff_toInt_lt, ← Int64.toInt_inj]
  repeat' split
  all_goals first | (simp; omega) | omega | simp_all
theorem pc_ovA (x y : Int32) : (0 ≤ ((x ^^^ (x + y)) &&& (y ^^^ (x + y)))) ↔ lg_cmp (x.toInt64 + y.toInt64) ((x + y).toInt64) = 0 := by
  rw [pc_cmp0, pc_add64, Int32.toInt_toInt64, pc_sgn]
  have h := pc_rng x; have g := pc_rng y; have r := pc_rng (x + y)
  have e := pc_add32 x y
  omega
theorem pc_ovS (x y : Int32) : (0 ≤ ((x ^^^ y) &&& (x ^^^ (x - y)))) ↔ lg_cmp (x.toInt64 - y.toInt64) ((x - y).toInt64) = 0 := by
  rw [pc_cmp0, pc_sub64, Int32.toInt_toInt64, pc_sgn]
  have h := pc_rng x; have g := pc_rng y; have r := pc_rng (x - y)
  have e := pc_sub32 x y
  omega
theorem pc_sum (x y : Int32) : FPr_sum x y = FMo_sum x y := by
  unfold FPr_sum FMo_sum FMo_plain
  simp only [pc_ovA]
  rfl
theorem pc_difference (x y : Int32) : FPr_difference x y = FMo_difference x y := by
  unfold FPr_difference FMo_difference FMo_plain
  simp only [pc_ovS]
  rfl

def bt (x : Int32) (i : Nat) : Bool := x.toBitVec.getLsbD i
theorem b_ext {x y : Int32} (h : ∀ i, i < 32 → bt x i = bt y i) : x = y := Int32.toBitVec_inj.mp (BitVec.eq_of_getLsbD_eq (fun i hi => h i hi))
theorem b_or (x y : Int32) (i : Nat) : bt (x ||| y) i = (bt x i || bt y i) := by unfold bt; rw [Int32.toBitVec_or, BitVec.getLsbD_or]
theorem b_and (x y : Int32) (i : Nat) : bt (x &&& y) i = (bt x i && bt y i) := by unfold bt; rw [Int32.toBitVec_and, BitVec.getLsbD_and]
theorem b_big {x : Int32} {i : Nat} (h : 32 ≤ i) : bt x i = false := BitVec.getLsbD_of_ge _ _ h
theorem b_65535 : ∀ i, i < 32 → bt 65535 i = decide (i < 16) := by decide +kernel
theorem b_m4 : ∀ i, i < 32 → bt (-4) i = decide (2 ≤ i) := by decide +kernel
theorem b_0 (i : Nat) : bt 0 i = false := BitVec.getLsbD_zero
theorem b_n (n i : Nat) (hi : i < 32) : bt (nI n) i = n.testBit i := by
  show (BitVec.ofNat 32 n).getLsbD i = _
  rw [BitVec.getLsbD_ofNat]; simp [hi]
theorem b_shl16 (x : Int32) {i : Nat} (hi : i < 32) : bt (x <<< ((16 : Int32) &&& 31)) i = (decide (16 ≤ i) && bt x (i - 16)) := by
  unfold bt
  rw [Int32.toBitVec_shiftLeft]
  show (x.toBitVec <<< (((16 : Int32) &&& 31).toBitVec.smod 32).toNat).getLsbD i = _
  rw [show (((16 : Int32) &&& 31).toBitVec.smod 32).toNat = 16 by decide +kernel, BitVec.getLsbD_shiftLeft]
  rcases Nat.lt_or_ge i 16 with h | h
  · simp [h, Nat.not_le.mpr h]
  · simp [hi, h, Nat.not_lt.mpr h]
theorem b_i16 (x : Int32) {i : Nat} (hi : i < 16) : bt x.toInt16.toInt32 i = bt x i := by
  unfold bt
  rw [Int16.toBitVec_toInt32, Int32.toBitVec_toInt16]
  rw [BitVec.getLsbD_signExtend, if_pos hi, BitVec.getLsbD_signExtend, if_pos (by omega)]
  simp [hi, show i < 32 by omega]
theorem pc_m4 {n : Nat} (hn : n < 2 ^ 31) : nI n &&& ((-4) : Int32) = nI (n / 4 * 4) := by
  refine b_ext fun i hi => ?_
  rw [b_and, b_m4 i hi, b_n n i hi, b_n _ i hi]
  rw [show n / 4 * 4 = (n >>> 2) <<< 2 by rw [Nat.shiftRight_eq_div_pow, Nat.shiftLeft_eq]]
  rw [Nat.testBit_shiftLeft, Nat.testBit_shiftRight]
  rcases Nat.lt_or_ge i 2 with h | h
  · simp [Nat.not_le.mpr h]
  · simp [h]
theorem pc_low {h : Nat} (hh : h < 65536) : (nI h).toInt16.toInt32 &&& (65535 : Int32) = nI h := by
  refine b_ext fun i hi => ?_
  rw [b_and, b_65535 i hi]
  rcases Nat.lt_or_ge i 16 with g | g
  · rw [b_i16 _ g]; simp [g]
  · rw [b_n _ i hi, Nat.testBit_lt_two_pow (Nat.lt_of_lt_of_le hh (Nat.pow_le_pow_right (n := 2) (by omega) g))]
    simp [Nat.not_lt.mpr g]
theorem pc_high (x : Int32) : x.toInt16.toInt32 <<< ((16 : Int32) &&& 31) = x <<< ((16 : Int32) &&& 31) := by
  refine b_ext fun i hi => ?_
  rw [b_shl16 _ hi, b_shl16 _ hi]
  rcases Nat.lt_or_ge i 16 with g | g
  · simp [Nat.not_le.mpr g]
  · rw [b_i16 _ (by omega)]
theorem pc_or {h : Nat} (hh : h < 65536) (x : Int32) : nI h ||| (x <<< ((16 : Int32) &&& 31)) = nI h + (x <<< ((16 : Int32) &&& 31)) := by
  have e : nI h &&& (x <<< ((16 : Int32) &&& 31)) = 0 := by
    refine b_ext fun i hi => ?_
    rw [b_and, b_shl16 _ hi, b_0, b_n _ i hi]
    rcases Nat.lt_or_ge i 16 with g | g
    · simp [Nat.not_le.mpr g]
    · rw [Nat.testBit_lt_two_pow (Nat.lt_of_lt_of_le hh (Nat.pow_le_pow_right (n := 2) (by omega) g))]; rfl
  refine Int32.toBitVec_inj.mp ?_
  rw [Int32.toBitVec_or, Int32.toBitVec_add]
  refine (BitVec.add_eq_or_of_and_eq_zero _ _ ?_).symm
  rw [← Int32.toBitVec_and, e]; rfl
theorem pc_i8 {h : Nat} (hh : h < 65536) : (nI h).toInt8.toInt32 = if 128 ≤ h % 256 then nI (h % 256) - 256 else nI (h % 256) := by
  refine Int32.toInt_inj.mp ?_
  rw [Int8.toInt_toInt32, Int32.toInt_toInt8, nI_toInt (by omega)]
  have e := pk_sub_toInt (a := h % 256) (b := 256) (by omega) (by omega)
  have g : (nI (h % 256) - 256).toInt = ((h % 256 : Nat) : Int) - 256 := e
  split
  · rw [g]; simp only [Int.bmod]; omega
  · rw [nI_toInt (by omega)]; simp only [Int.bmod]; omega
theorem pc_i11 {h : Nat} (hh : h < 65536) : (nI h <<< ((21 : Int32) &&& 31)) >>> ((21 : Int32) &&& 31) = if 1024 ≤ h % 2048 then nI (h % 2048) - 2048 else nI (h % 2048) := by
  refine Int32.toInt_inj.mp ?_
  rw [pk_shr _ _ 21 (by decide)]
  have e : (nI h <<< ((21 : Int32) &&& 31)).toBitVec.toNat = h * 2 ^ 21 % 2 ^ 32 := by
    rw [pk_shl _ _ 21 (by decide), pk_tn (by omega)]
  have g : (nI h <<< ((21 : Int32) &&& 31)).toInt = if 2 * (h * 2 ^ 21 % 2 ^ 32) < 2 ^ 32 then ((h * 2 ^ 21 % 2 ^ 32 : Nat) : Int) else ((h * 2 ^ 21 % 2 ^ 32 : Nat) : Int) - (2 ^ 32 : Nat) := by
    show (nI h <<< ((21 : Int32) &&& 31)).toBitVec.toInt = _
    rw [BitVec.toInt_eq_toNat_cond, e]
  have g1 : (nI (h % 2048) - 2048).toInt = ((h % 2048 : Nat) : Int) - 2048 := pk_sub_toInt (a := h % 2048) (b := 2048) (by omega) (by omega)
  rw [g, Int.shiftRight_eq_div_pow]
  split <;> split
  · omega
  · rw [nI_toInt (by omega)]; omega
  · rw [g1]; omega
  · omega

theorem pc_not (y : Int32) : y ^^^ (-1 : Int32) = -1 - y := by
  refine Int32.toBitVec_inj.mp ?_
  rw [Int32.toBitVec_xor, Int32.toBitVec_sub]
  show y.toBitVec ^^^ BitVec.allOnes 32 = BitVec.allOnes 32 - y.toBitVec
  rw [BitVec.allOnes_sub_eq_not, BitVec.xor_allOnes]
theorem pc_bic (x y : Int32) : x &&& (y ^^^ (-1 : Int32)) = x - (x &&& y) := by
  have e : (x &&& y) &&& (x &&& (y ^^^ (-1 : Int32))) = 0 := by
    refine Int32.toBitVec_inj.mp ?_
    simp only [Int32.toBitVec_and, Int32.toBitVec_xor]
    show (x.toBitVec &&& y.toBitVec) &&& (x.toBitVec &&& (y.toBitVec ^^^ BitVec.allOnes 32)) = 0#32
    rw [BitVec.xor_allOnes]
    refine BitVec.eq_of_getLsbD_eq fun i hi => ?_
    simp [hi]
    intro a b c; simp [b]
  have e2 : (x &&& y) ||| (x &&& (y ^^^ (-1 : Int32))) = x := by
    refine Int32.toBitVec_inj.mp ?_
    simp only [Int32.toBitVec_and, Int32.toBitVec_xor, Int32.toBitVec_or]
    show (x.toBitVec &&& y.toBitVec) ||| (x.toBitVec &&& (y.toBitVec ^^^ BitVec.allOnes 32)) = x.toBitVec
    rw [BitVec.xor_allOnes]
    refine BitVec.eq_of_getLsbD_eq fun i hi => ?_
    simp only [BitVec.getLsbD_or, BitVec.getLsbD_and, BitVec.getLsbD_not, hi, decide_true, Bool.true_and]
    cases x.toBitVec.getLsbD i <;> cases y.toBitVec.getLsbD i <;> rfl
  have e3 : (x &&& y) + (x &&& (y ^^^ (-1 : Int32))) = x := by
    refine Eq.trans (Int32.toBitVec_inj.mp ?_) e2
    rw [Int32.toBitVec_or, Int32.toBitVec_add]
    refine BitVec.add_eq_or_of_and_eq_zero _ _ ?_
    rw [← Int32.toBitVec_and, e]; rfl
  have e4 : x - (x &&& y) = ((x &&& y) + (x &&& (y ^^^ (-1 : Int32)))) - (x &&& y) := by rw [e3]
  rw [e4, Int32.add_comm, Int32.add_sub_cancel]
theorem pc_bic2 (x y : Int32) : x &&& (-1 - y) = x - (x &&& y) := by rw [← pc_not, pc_bic]
