section
variable {K B : Nat → Int32}
theorem qa_fr {q : Nat} (hq : q < 2 ^ 30) : ∀ (n i : Nat), i < 2 ^ 30 → q < n + i → ((LMo_fresh_2 n (nI q) K B i).2 = 1 ↔ ∃ r : Nat, i ≤ r ∧ r < q ∧ K r = 10 ∧ B r = B q) := by
  intro n
  induction n with
  | zero =>
    intro i hi hn
    unfold LMo_fresh_2
    constructor
    · intro h; exact absurd (show (0 : Int32) = 1 from h) (by decide)
    · rintro ⟨r, h1, h2, _⟩; omega
  | succ n ih =>
    intro i hi hn
    unfold LMo_fresh_2
    by_cases c : q ≤ i
    · rw [if_pos (nI_le c (by omega))]
      constructor
      · intro h; exact absurd (show (0 : Int32) = 1 from h) (by decide)
      · rintro ⟨r, h1, h2, _⟩; omega
    · rw [if_neg (nI_ge (by omega) (by omega)), nI_clamp (by omega), nI_clamp (by omega)]
      by_cases d : K i = 10
      · rw [if_pos d]
        by_cases e : B i = B q
        · rw [if_pos e]
          exact ⟨fun _ => ⟨i, by omega, by omega, d, e⟩, fun _ => rfl⟩
        · rw [if_neg e, ih (i + 1) (by omega) (by omega)]
          constructor
          · rintro ⟨r, h1, h2⟩; exact ⟨r, by omega, h2⟩
          · rintro ⟨r, h1, h2, h3, h4⟩
            refine ⟨r, ?_, h2, h3, h4⟩
            rcases Nat.lt_or_ge i r with g | g
            · omega
            · have : r = i := by omega
              subst this; exact absurd h4 e
      · rw [if_neg d, ih (i + 1) (by omega) (by omega)]
        constructor
        · rintro ⟨r, h1, h2⟩; exact ⟨r, by omega, h2⟩
        · rintro ⟨r, h1, h2, h3, h4⟩
          refine ⟨r, ?_, h2, h3, h4⟩
          rcases Nat.lt_or_ge i r with g | g
          · omega
          · have : r = i := by omega
            subst this; exact absurd h3 d
theorem qa_fresh {f q : Nat} (hf : f < 2 ^ 30) (hq : q < 2 ^ 30) : FMo_fresh (nI f) (nI q) K B = 0 ↔ ∃ r : Nat, f ≤ r ∧ r < q ∧ K r = 10 ∧ B r = B q := by
  unfold FMo_fresh
  have e1 : (nI q).toInt.toNat = q := by rw [nI_toInt (by omega)]; omega
  have e2 : (nI f).toInt.toNat = f := by rw [nI_toInt (by omega)]; omega
  rw [e1, e2, ← qa_fr hq (q + 1) f hf (by omega)]
  by_cases c : (LMo_fresh_2 (q + 1) (nI q) K B f).2 = 1
  · rw [if_pos c]; exact ⟨fun _ => c, fun _ => rfl⟩
  · rw [if_neg c]; exact ⟨fun h => absurd h (by decide), fun h => absurd h c⟩
/-- a constant's line that is the first of its value since line f -/
abbrev qa_g (K B : Nat → Int32) (f q : Nat) : Prop := f ≤ q ∧ K q = 10 ∧ ¬ FMo_fresh (nI f) (nI q) K B = 0
def qa_c (K B : Nat → Int32) (f : Nat) : Nat → Nat
  | 0 => 0
  | q + 1 => qa_c K B f q + (if qa_g K B f q then 1 else 0)
theorem qa_c0 {f : Nat} : ∀ q : Nat, q ≤ f → qa_c K B f q = 0 := by
  intro q
  induction q with
  | zero => intro _; rfl
  | succ q ih =>
    intro h
    show qa_c K B f q + (if qa_g K B f q then 1 else 0) = 0
    rw [ih (by omega), if_neg (fun w => by have := w.1; omega)]
theorem qa_cs {f q : Nat} (h : qa_g K B f q) : qa_c K B f (q + 1) = qa_c K B f q + 1 := by
  show qa_c K B f q + (if qa_g K B f q then 1 else 0) = _
  rw [if_pos h]
theorem qa_cn {f q : Nat} (h : ¬ qa_g K B f q) : qa_c K B f (q + 1) = qa_c K B f q := by
  show qa_c K B f q + (if qa_g K B f q then 1 else 0) = _
  rw [if_neg h]; rfl
theorem qa_mono {f : Nat} : ∀ (p q : Nat), p ≤ q → qa_c K B f p ≤ qa_c K B f q := by
  intro p q
  induction q with
  | zero => intro h; have : p = 0 := by omega
            subst this; exact Nat.le_refl _
  | succ q ih =>
    intro h
    rcases Nat.lt_or_ge q p with g | g
    · have : p = q + 1 := by omega
      subst this; exact Nat.le_refl _
    · refine Nat.le_trans (ih g) ?_
      show qa_c K B f q ≤ qa_c K B f q + (if qa_g K B f q then 1 else 0)
      omega
theorem qa_le {f : Nat} : ∀ q : Nat, qa_c K B f q ≤ q - f := by
  intro q
  induction q with
  | zero => exact Nat.zero_le _
  | succ q ih =>
    by_cases h : qa_g K B f q
    · rw [qa_cs h]; have := h.1; omega
    · rw [qa_cn h]; omega
theorem qa_lt {f p q : Nat} (h : qa_g K B f p) (hq : p < q) : qa_c K B f p < qa_c K B f q := by
  have := qa_mono (K := K) (B := B) (f := f) (p + 1) q hq
  rw [qa_cs h] at this; omega
theorem qa_surj {f : Nat} : ∀ (q s : Nat), s < qa_c K B f q → ∃ r : Nat, r < q ∧ qa_g K B f r ∧ qa_c K B f r = s := by
  intro q
  induction q with
  | zero => intro s h; exact absurd h (Nat.not_lt_zero s)
  | succ q ih =>
    intro s h
    by_cases g : qa_g K B f q
    · rw [qa_cs g] at h
      rcases Nat.lt_or_ge s (qa_c K B f q) with w | w
      · obtain ⟨r, h1, h2, h3⟩ := ih s w; exact ⟨r, by omega, h2, h3⟩
      · exact ⟨q, by omega, g, by omega⟩
    · rw [qa_cn g] at h
      obtain ⟨r, h1, h2, h3⟩ := ih s h; exact ⟨r, by omega, h2, h3⟩
theorem qa_rep {f : Nat} (hf : f < 2 ^ 30) : ∀ (n q : Nat), q < n → q < 2 ^ 30 → f ≤ q → K q = 10 → ∃ r : Nat, r ≤ q ∧ qa_g K B f r ∧ B r = B q := by
  intro n
  induction n with
  | zero => intro q h; omega
  | succ n ih =>
    intro q h hq h1 h2
    by_cases c : FMo_fresh (nI f) (nI q) K B = 0
    · obtain ⟨r, a1, a2, a3, a4⟩ := (qa_fresh hf hq).mp c
      obtain ⟨s, b1, b2, b3⟩ := ih r (by omega) (by omega) a1 a3
      exact ⟨s, by omega, b2, b3.trans a4⟩
    · exact ⟨q, by omega, ⟨h1, h2, c⟩, rfl⟩
theorem qa_uniq {f r s : Nat} (hf : f < 2 ^ 30) (hr : r < 2 ^ 30) (hs : s < 2 ^ 30) (a : qa_g K B f r) (b : qa_g K B f s) (e : B r = B s) : r = s := by
  rcases Nat.lt_trichotomy r s with h | h | h
  · exact absurd ((qa_fresh hf hs).mpr ⟨r, a.1, h, a.2.1, e⟩) b.2.2
  · exact h
  · exact absurd ((qa_fresh hf hr).mpr ⟨s, b.1, h, b.2.1, e.symm⟩) a.2.2
end

theorem qb_w {t : Nat} (ht : t < 2 ^ 30) (v : Int32) (md : Nat → Int32) : FMo_write (nI t) v md = upd md (t / 2) (v &&& (65535 : Int32)) := by
  unfold FMo_write
  rw [pc_dv (by omega) 2 2 rfl (by omega) (by omega), nI_clamp (by omega)]
theorem qb_w2 {t : Nat} (ht : t < 2 ^ 29) (v : Int32) (md : Nat → Int32) : FMo_write (nI t + 2) v md = upd md (t / 2 + 1) (v &&& (65535 : Int32)) := by
  rw [show nI t + 2 = nI (t + 2) from nI_add t 2, qb_w (by omega), show (t + 2) / 2 = t / 2 + 1 by omega]
section
variable {K B : Nat → Int32} {f k T : Nat}
theorem qb_89 (hk : k < 2 ^ 20) (hT : T < 2 ^ 20) (h2 : T % 2 = 0) : ∀ (n q : Nat) (mc md : Nat → Int32), f ≤ q → q ≤ k → k < n + q →
    (LMo_pool_89 n (nI k) K B f (T + 4 * qa_c K B f q) q mc md).1 = T + 4 * qa_c K B f k ∧
    (∀ r : Nat, q ≤ r → r < k → qa_g K B f r → (LMo_pool_89 n (nI k) K B f (T + 4 * qa_c K B f q) q mc md).2.2.1 r = nI (T + 4 * qa_c K B f r)) ∧
    (∀ r : Nat, ¬ (q ≤ r ∧ r < k ∧ qa_g K B f r) → (LMo_pool_89 n (nI k) K B f (T + 4 * qa_c K B f q) q mc md).2.2.1 r = mc r) ∧
    (∀ r : Nat, q ≤ r → r < k → qa_g K B f r → (LMo_pool_89 n (nI k) K B f (T + 4 * qa_c K B f q) q mc md).2.2.2 (T / 2 + 2 * qa_c K B f r) = B r &&& (65535 : Int32) ∧ (LMo_pool_89 n (nI k) K B f (T + 4 * qa_c K B f q) q mc md).2.2.2 (T / 2 + 2 * qa_c K B f r + 1) = (B r >>> ((16 : Int32) &&& 31)) &&& (65535 : Int32)) ∧
    (∀ m : Nat, m < T / 2 + 2 * qa_c K B f q → (LMo_pool_89 n (nI k) K B f (T + 4 * qa_c K B f q) q mc md).2.2.2 m = md m) := by
  intro n
  induction n with
  | zero => intro q mc md h1 h3 h4; omega
  | succ n ih =>
    intro q mc md h1 h3 h4
    have hcq := qa_le (K := K) (B := B) (f := f) q
    unfold LMo_pool_89
    by_cases c : k ≤ q
    · rw [if_pos (nI_le c (by omega))]
      have e : q = k := by omega
      subst e
      exact ⟨rfl, fun r a b => absurd b (by omega), fun r _ => rfl, fun r a b => absurd b (by omega), fun m _ => rfl⟩
    · rw [if_neg (nI_ge (by omega) (by omega)), nI_clamp (by omega)]
      by_cases g : qa_g K B f q
      · rw [if_pos g.2.1, if_neg g.2.2, show T + 4 * qa_c K B f q + 4 = T + 4 * qa_c K B f (q + 1) by rw [qa_cs g]; omega, qb_w2 (by omega), qb_w (by omega)]
        obtain ⟨i1, i2, i3, i4, i5⟩ := ih (q + 1) (upd mc q (nI (T + 4 * qa_c K B f q))) (upd (upd md ((T + 4 * qa_c K B f q) / 2) (B q &&& (65535 : Int32))) ((T + 4 * qa_c K B f q) / 2 + 1) ((B q >>> ((16 : Int32) &&& 31)) &&& (65535 : Int32))) (by omega) (by omega) (by omega)
        have e : (T + 4 * qa_c K B f q) / 2 = T / 2 + 2 * qa_c K B f q := by omega
        rw [e] at i1 i2 i3 i4 i5 ⊢
        have hs := qa_cs g
        refine ⟨i1, ?_, ?_, ?_, ?_⟩
        · intro r a b d
          rcases Nat.lt_or_ge q r with w | w
          · exact i2 r w b d
          · have : r = q := by omega
            subst this
            rw [i3 r (fun w => by omega), pk_us]
        · intro r d
          rw [i3 r (fun w => d ⟨by omega, w.2⟩), pk_un (fun w => by subst w; exact d ⟨by omega, by omega, g⟩)]
        · intro r a b d
          rcases Nat.lt_or_ge q r with w | w
          · exact i4 r w b d
          · have : r = q := by omega
            subst this
            rw [i5 _ (by omega), i5 _ (by omega)]
            refine ⟨?_, pk_us⟩
            rw [pk_un (by omega), pk_us]
        · intro m hm
          rw [i5 m (by omega), pk_un (by omega), pk_un (by omega)]
      · have step : ∀ x : Nat × Nat × (Nat → Int32) × (Nat → Int32), x = LMo_pool_89 n (nI k) K B f (T + 4 * qa_c K B f q) (q + 1) mc md → (if K q = 10 then if FMo_fresh (nI f) (nI q) K B = 0 then LMo_pool_89 n (nI k) K B f (T + 4 * qa_c K B f q) (q + 1) mc md else LMo_pool_89 n (nI k) K B f (T + 4 * qa_c K B f q + 4) (q + 1) (upd mc q (nI (T + 4 * qa_c K B f q))) (FMo_write (nI (T + 4 * qa_c K B f q) + 2) (B q >>> (16 &&& 31)) (FMo_write (nI (T + 4 * qa_c K B f q)) (B q) md)) else LMo_pool_89 n (nI k) K B f (T + 4 * qa_c K B f q) (q + 1) mc md) = x := by
          intro x hx
          by_cases k1 : K q = 10
          · rw [if_pos k1, if_pos (Classical.byContradiction fun w => g ⟨h1, k1, w⟩), hx]
          · rw [if_neg k1, hx]
        rw [step _ rfl]
        have hs := qa_cn g
        have i := ih (q + 1) mc md (by omega) (by omega) (by omega)
        rw [hs] at i
        obtain ⟨i1, i2, i3, i4, i5⟩ := i
        refine ⟨i1, ?_, ?_, ?_, i5⟩
        · intro r a b d
          exact i2 r (by rcases Nat.lt_or_ge q r with w | w; exact w; exact absurd d (by have : r = q := by omega
                                                                                         subst this; exact g)) b d
        · intro r d
          exact i3 r (fun w => d ⟨by omega, w.2⟩)
        · intro r a b d
          exact i4 r (by rcases Nat.lt_or_ge q r with w | w; exact w; exact absurd d (by have : r = q := by omega
                                                                                         subst this; exact g)) b d
/-- the inner of the two loops that give a value's later lines its first line's place -/
theorem qb_178 {o q : Nat} (hq : q < 2 ^ 20) (ho : o < 2 ^ 20) (V : Int32) (hK : K q = 10) : ∀ (n r : Nat) (mc : Nat → Int32), o ≤ r → r ≤ q → q < n + r → (∀ s : Nat, o ≤ s → s < q → qa_g K B o s → B s = B q → mc s = V) → (mc q = V ∨ ∃ s : Nat, r ≤ s ∧ s < q ∧ qa_g K B o s ∧ B s = B q) →
    (LMo_pool_178 n K B o q r mc).2 q = V ∧ ∀ x : Nat, x ≠ q → (LMo_pool_178 n K B o q r mc).2 x = mc x := by
  intro n
  induction n with
  | zero =>
    intro r mc h1 hrq h2 h3 h4
    rcases h4 with h4 | ⟨s, a, b, _⟩
    · exact ⟨h4, fun x _ => rfl⟩
    · omega
  | succ n ih =>
    intro r mc h1 hrq h2 h3 h4
    unfold LMo_pool_178
    by_cases c : q ≤ r
    · rw [if_pos (nI_le c (by omega))]
      rcases h4 with h4 | ⟨s, a, b, _⟩
      · exact ⟨h4, fun x _ => rfl⟩
      · omega
    · rw [if_neg (nI_ge (by omega) (by omega)), nI_clamp (by omega), nI_clamp (by omega), if_pos hK]
      have hid : upd mc q (mc q) = mc := by
        funext x
        by_cases e : x = q
        · subst e; exact pk_us
        · exact pk_un e
      by_cases g : qa_g K B o r ∧ B r = B q
      · rw [if_pos g.1.2.1, if_pos g.2, if_neg g.1.2.2]
        have hv : mc r = V := h3 r h1 (by omega) g.1 g.2
        have i := ih (r + 1) (upd mc q (mc r)) (by omega) (by omega) (by omega) (fun s a b d e => by rw [pk_un (by omega)]; exact h3 s a b d e) (Or.inl (by rw [pk_us]; exact hv))
        exact ⟨i.1, fun x hx => (i.2 x hx).trans (pk_un hx)⟩
      · have h5 : mc q = V ∨ ∃ s : Nat, r + 1 ≤ s ∧ s < q ∧ qa_g K B o s ∧ B s = B q := by
          rcases h4 with h4 | ⟨s, a, b, d, e⟩
          · exact Or.inl h4
          · refine Or.inr ⟨s, ?_, b, d, e⟩
            rcases Nat.lt_or_ge r s with w | w
            · exact w
            · have : s = r := by omega
              subst this; exact absurd ⟨d, e⟩ g
        have i := ih (r + 1) mc (by omega) (by omega) (by omega) h3 h5
        rw [hid]
        by_cases k1 : K r = 10
        · rw [if_pos k1]
          by_cases k2 : B r = B q
          · rw [if_pos k2, if_pos (Classical.byContradiction fun w => g ⟨⟨h1, k1, w⟩, k2⟩)]; exact i
          · rw [if_neg k2]; exact i
        · rw [if_neg k1]; exact i
theorem qb_178n {o q : Nat} (hK : ¬ K q = 10) (hq : q < 2 ^ 20) (n r : Nat) (mc : Nat → Int32) : (LMo_pool_178 n K B o q r mc).2 = mc := by
  cases n with
  | zero => rfl
  | succ n =>
    unfold LMo_pool_178
    rw [nI_clamp (by omega), if_neg hK]
    split <;> rfl
/-- the outer loop: every constant's line gets the place of its value -/
theorem qb_169 (hk : k < 2 ^ 20) (hf : f < 2 ^ 20) : ∀ (n q : Nat) (mc : Nat → Int32), f ≤ q → q ≤ k → k < n + q → (∀ r : Nat, r < k → qa_g K B f r → mc r = nI (T + 4 * qa_c K B f r)) →
    (∀ p r : Nat, q ≤ p → p < k → K p = 10 → qa_g K B f r → r ≤ p → B r = B p → (LMo_pool_169 n (nI k) K B f q mc).2 p = nI (T + 4 * qa_c K B f r)) ∧ (∀ p : Nat, ¬ (q ≤ p ∧ p < k ∧ K p = 10) → (LMo_pool_169 n (nI k) K B f q mc).2 p = mc p) := by
  intro n
  induction n with
  | zero => intro q mc h1 h2 h3; omega
  | succ n ih =>
    intro q mc h1 h2 h3 h4
    unfold LMo_pool_169
    by_cases c : k ≤ q
    · rw [if_pos (nI_le c (by omega))]
      exact ⟨fun p r a b => by omega, fun p _ => rfl⟩
    · rw [if_neg (nI_ge (by omega) (by omega))]
      by_cases hK : K q = 10
      · obtain ⟨r, r1, r2, r3⟩ := qa_rep (K := K) (B := B) (f := f) (by omega) (q + 1) q (by omega) (by omega) h1 hK
        have hV : ∀ s : Nat, f ≤ s → s < q → qa_g K B f s → B s = B q → mc s = nI (T + 4 * qa_c K B f r) := by
          intro s a b d e
          have : s = r := qa_uniq (by omega) (by omega) (by omega) d r2 (e.trans r3.symm)
          subst this; exact h4 s (by omega) d
        have h0 : mc q = nI (T + 4 * qa_c K B f r) ∨ ∃ s : Nat, f ≤ s ∧ s < q ∧ qa_g K B f s ∧ B s = B q := by
          rcases Nat.lt_or_ge r q with w | w
          · exact Or.inr ⟨r, r2.1, w, r2, r3⟩
          · have : r = q := by omega
            subst this; exact Or.inl (h4 r (by omega) r2)
        have w := qb_178 (K := K) (B := B) (o := f) (q := q) (by omega) hf _ hK (q + 1) f mc (Nat.le_refl f) h1 (by omega) hV h0
        have i := ih (q + 1) (LMo_pool_178 (q + 1) K B f q f mc).2 (by omega) (by omega) (by omega) (by
          intro s a b
          by_cases e : s = q
          · subst e
            rw [w.1]
            have : r = s := qa_uniq (by omega) (by omega) (by omega) r2 b r3
            rw [this]
          · rw [w.2 s e]; exact h4 s a b)
        refine ⟨?_, ?_⟩
        · intro p s a b d e g h
          rcases Nat.lt_or_ge q p with v | v
          · exact i.1 p s v b d e g h
          · have : p = q := by omega
            subst this
            rw [i.2 p (fun v => by omega), w.1]
            have : r = s := qa_uniq (by omega) (by omega) (by omega) r2 e (r3.trans h.symm)
            rw [this]
        · intro p d
          rw [i.2 p (fun v => d ⟨by omega, v.2⟩), w.2 p (fun v => by subst v; exact d ⟨by omega, by omega, hK⟩)]
      · rw [qb_178n hK (by omega)]
        have i := ih (q + 1) mc (by omega) (by omega) (by omega) h4
        refine ⟨?_, ?_⟩
        · intro p s a b d e g h
          rcases Nat.lt_or_ge q p with v | v
          · exact i.1 p s v b d e g h
          · have : p = q := by omega
            subst this; exact absurd d hK
        · intro p d
          exact i.2 p (fun v => d ⟨by omega, v.2⟩)
end

abbrev qc_s (v : Int32) : Int32 := v.toInt16.toInt32
theorem qc_put {k : Nat} (hk : k < 6400) (v : Int32) (gh : Nat → Int32) : pq_sh (FIm_put (nI k) v gh) = upd (pq_sh gh) k (qc_s v) := by
  unfold FIm_put
  rw [if_neg (nI_pos (by omega)), if_neg (show ¬ (6400 : Int32) ≤ nI k from nI_ge (b := 6400) hk (by omega)), nI_clamp (by omega)]
  funext j
  unfold pq_sh
  by_cases e : j = k
  · subst e; rw [pk_us, pk_us]; simp
  · rw [pk_un e, pk_un e]
theorem qc_h0 {t : Nat} (v : Int32) (gh : Nat → Int32) : FLa_putHalf v (nI t) 0 gh = (nI (t + 2), gh) := by
  unfold FLa_putHalf
  rw [if_pos rfl, show nI t + 2 = nI (t + 2) from nI_add t 2]
theorem qc_h1 {t : Nat} (ht : t < 2 ^ 20) (v : Int32) (gh : Nat → Int32) : FLa_putHalf v (nI t) 1 gh = (nI (t + 2), FIm_put (nI (t / 2)) v gh) := by
  unfold FLa_putHalf
  rw [if_neg (by decide), show nI t + 2 = nI (t + 2) from nI_add t 2, pc_dv (by omega) 2 2 rfl (by omega) (by omega)]
/-- putting a half, in either pass -/
theorem qc_h {t : Nat} {tw : Int32} (ht : t < 2 ^ 20) (hw : tw = 0 ∨ tw = 1) (v : Int32) (gh : Nat → Int32) : (FLa_putHalf v (nI t) tw gh).1 = nI (t + 2) ∧ (tw = 0 → (FLa_putHalf v (nI t) tw gh).2 = gh) ∧ (tw = 1 → t + 2 ≤ 12800 → pq_sh (FLa_putHalf v (nI t) tw gh).2 = upd (pq_sh gh) (t / 2) (qc_s v)) := by
  rcases hw with rfl | rfl
  · rw [qc_h0]
    exact ⟨rfl, fun _ => rfl, fun h => absurd h (by decide)⟩
  · rw [qc_h1 ht]
    exact ⟨rfl, fun h => absurd h (by decide), fun _ h => qc_put (by omega) v gh⟩
theorem qc_129 {N T : Nat} {tw : Int32} {tv : Nat → Int32} (hN : N < 2 ^ 16) (hT : T < 2 ^ 16) (h2 : T % 2 = 0) (hw : tw = 0 ∨ tw = 1) : ∀ (n j : Nat) (gh : Nat → Int32), j ≤ N → N < n + j →
    (LLa_putPool_129 n (nI N) tw tv j (nI (T + 4 * j)) gh).2.1 = nI (T + 4 * N) ∧ (tw = 0 → (LLa_putPool_129 n (nI N) tw tv j (nI (T + 4 * j)) gh).2.2 = gh) ∧
    (tw = 1 → T + 4 * N ≤ 12800 → (∀ s : Nat, j ≤ s → s < N → pq_sh (LLa_putPool_129 n (nI N) tw tv j (nI (T + 4 * j)) gh).2.2 (T / 2 + 2 * s) = qc_s (tv s) ∧ pq_sh (LLa_putPool_129 n (nI N) tw tv j (nI (T + 4 * j)) gh).2.2 (T / 2 + 2 * s + 1) = qc_s (tv s >>> ((16 : Int32) &&& 31))) ∧ ∀ m : Nat, m < T / 2 + 2 * j → pq_sh (LLa_putPool_129 n (nI N) tw tv j (nI (T + 4 * j)) gh).2.2 m = pq_sh gh m) := by
  intro n
  induction n with
  | zero => intro j gh h1 h3; omega
  | succ n ih =>
    intro j gh h1 h3
    unfold LLa_putPool_129
    by_cases c : N ≤ j
    · rw [if_pos (nI_le c (by omega))]
      have : j = N := by omega
      subst this
      exact ⟨rfl, fun _ => rfl, fun _ _ => ⟨fun s a b => by omega, fun m _ => rfl⟩⟩
    · rw [if_neg (nI_ge (by omega) (by omega)), nI_clamp (by omega)]
      obtain ⟨a1, a2, a3⟩ := qc_h (t := T + 4 * j) (by omega) hw (tv j) gh
      rw [a1]
      obtain ⟨b1, b2, b3⟩ := qc_h (t := T + 4 * j + 2) (by omega) hw (tv j >>> ((16 : Int32) &&& 31)) (FLa_putHalf (tv j) (nI (T + 4 * j)) tw gh).2
      rw [b1, show T + 4 * j + 2 + 2 = T + 4 * (j + 1) by omega]
      obtain ⟨i1, i2, i3⟩ := ih (j + 1) (FLa_putHalf (tv j >>> ((16 : Int32) &&& 31)) (nI (T + 4 * j + 2)) tw (FLa_putHalf (tv j) (nI (T + 4 * j)) tw gh).2).2 (by omega) (by omega)
      refine ⟨i1, fun h => ?_, fun h hb => ?_⟩
      · rw [i2 h, b2 h, a2 h]
      · obtain ⟨k1, k2⟩ := i3 h hb
        have b4 := b3 h (by omega)
        have a4 := a3 h (by omega)
        rw [a4] at b4
        have e1 : (T + 4 * j) / 2 = T / 2 + 2 * j := by omega
        have e2 : (T + 4 * j + 2) / 2 = T / 2 + 2 * j + 1 := by omega
        rw [e1, e2] at b4
        refine ⟨?_, ?_⟩
        · intro s u v
          rcases Nat.lt_or_ge j s with w | w
          · exact k1 s w v
          · have : s = j := by omega
            subst this
            rw [k2 _ (by omega), k2 _ (by omega), b4]
            exact ⟨by rw [pk_un (by omega), pk_us], pk_us⟩
        · intro m hm
          rw [k2 m (by omega), b4, pk_un (by omega), pk_un (by omega)]
theorem qc_83 {k T : Nat} {ts K : Nat → Int32} (hk : k < 2 ^ 20) : ∀ (n i : Nat) (tc : Nat → Int32), i ≤ k → k < n + i →
    (∀ q : Nat, i ≤ q → q < k → K q = 10 → (LLa_putPool_83 n (nI k) (nI T) ts K i tc).2 q = nI T + 4 * ts q) ∧ (∀ q : Nat, ¬ (i ≤ q ∧ q < k ∧ K q = 10) → (LLa_putPool_83 n (nI k) (nI T) ts K i tc).2 q = tc q) := by
  intro n
  induction n with
  | zero => intro i tc h1 h3; omega
  | succ n ih =>
    intro i tc h1 h3
    unfold LLa_putPool_83
    by_cases c : k ≤ i
    · rw [if_pos (nI_le c (by omega))]
      exact ⟨fun q a b => by omega, fun q _ => rfl⟩
    · rw [if_neg (nI_ge (by omega) (by omega)), nI_clamp (by omega)]
      by_cases hK : K i = 10
      · rw [if_pos hK]
        obtain ⟨i1, i2⟩ := ih (i + 1) (upd tc i (nI T + 4 * ts i)) (by omega) (by omega)
        refine ⟨?_, ?_⟩
        · intro q a b d
          rcases Nat.lt_or_ge i q with w | w
          · exact i1 q w b d
          · have : q = i := by omega
            subst this
            rw [i2 q (fun w => by omega), pk_us]
        · intro q d
          rw [i2 q (fun w => d ⟨by omega, w.2⟩), pk_un (fun w => by subst w; exact d ⟨by omega, by omega, hK⟩)]
      · rw [if_neg hK]
        obtain ⟨i1, i2⟩ := ih (i + 1) tc (by omega) (by omega)
        refine ⟨?_, ?_⟩
        · intro q a b d
          rcases Nat.lt_or_ge i q with w | w
          · exact i1 q w b d
          · have : q = i := by omega
            subst this; exact absurd d hK
        · intro q d
          exact i2 q (fun w => d ⟨by omega, w.2⟩)
theorem qc_up {a : Nat} (ha : a < 2 ^ 20) (h2 : a % 2 = 0) : FMo_up (nI a) = nI ((a + 3) / 4 * 4) ∧ FFo_upToFour (nI a) = nI ((a + 3) / 4 * 4) := by
  constructor
  · unfold FMo_up
    rw [show nI a - nI a / 4 * 4 = nI (a % 4) from by
      have := pk_rem (a := a) (d := 4) (by omega) (by omega) (by omega)
      exact this]
    by_cases c : a % 4 = 0
    · rw [if_pos (by rw [c]; rfl)]; congr 1; omega
    · rw [if_neg (c := nI (a % 4) = 0) (fun w => c ((nI_eq (b := 0) (by omega) (by omega)).mp w)), show nI a + 2 = nI (a + 2) from nI_add a 2]
      congr 1; omega
  · unfold FFo_upToFour
    rw [show nI a + 3 = nI (a + 3) from nI_add a 3, pc_m4 (by omega)]
theorem qc_s65535 (v : Int32) : ∃ h : Nat, h < 65536 ∧ v &&& (65535 : Int32) = nI h ∧ qc_s v = (nI h).toInt16.toInt32 := by
  obtain ⟨h, h1, h2⟩ := pk_andE v (m := 65535) 16 (by decide)
  refine ⟨h, h1, h2, ?_⟩
  rw [← h2]
  refine congrArg Int16.toInt32 (Int16.toBitVec_inj.mp ?_)
  rw [Int32.toBitVec_toInt16, Int32.toBitVec_toInt16, Int32.toBitVec_and]
  refine BitVec.eq_of_getLsbD_eq fun i hi => ?_
  rw [BitVec.getLsbD_signExtend, BitVec.getLsbD_signExtend, if_pos (by omega), if_pos (by omega), BitVec.getLsbD_and]
  have := b_65535 i (by omega)
  unfold bt at this
  rw [this]
  simp [hi]

/-- what the class keeps of the waiting constants, beside the lines since the oldest -/
def qd_W (K B ts tv : Nat → Int32) (f i : Nat) : Prop :=
  (∀ q : Nat, f ≤ q → q < i → K q = 10 → ∃ r : Nat, r ≤ q ∧ qa_g K B f r ∧ B r = B q ∧ ts q = nI (qa_c K B f r)) ∧ (∀ r : Nat, r < i → qa_g K B f r → tv (qa_c K B f r) = B r)
def qd_I (gh md : Nat → Int32) (m : Nat) : Prop := ∃ h : Nat, h < 65536 ∧ md m = nI h ∧ pq_sh gh m = (nI h).toInt16.toInt32
def qd_al (v : Int32) : Prop := ∃ y : Nat, v = nI y ∧ y % 4 = 0 ∧ y < 2 ^ 17
def qd_eq (t m : Int32) : Prop := t = m ∧ qd_al m
theorem qd_I_of {gh md : Nat → Int32} {m : Nat} {v : Int32} (h1 : md m = v &&& (65535 : Int32)) (h2 : pq_sh gh m = qc_s v) : qd_I gh md m := by
  obtain ⟨h, a, b, c⟩ := qc_s65535 v
  exact ⟨h, a, h1.trans b, h2.trans c⟩
section
variable {K B ts tv tc mc md gh : Nat → Int32} {tw tk tp mp : Int32} {f k a T N : Nat}
/-- the words of a pool -/
theorem qd_core (hk : k ≤ 160) (hf : f < k) (hT : T < 2 ^ 16) (h2 : T % 4 = 0) (hw : tw = 0 ∨ tw = 1) (hN : N = qa_c K B f k) (hW : qd_W K B ts tv f k) :
    (LLa_putPool_129 (N + 1) (nI N) tw tv 0 (nI T) gh).2.1 = nI (T + 4 * N) ∧ (LMo_pool_89 (k + 1) (nI k) K B f T f mc md).1 = T + 4 * N ∧
    (∀ q : Nat, f ≤ q → q < k → K q = 10 → qd_eq ((LLa_putPool_83 (k + 1) (nI k) (nI T) ts K f tc).2 q) ((LMo_pool_169 (k + 1) (nI k) K B f f (LMo_pool_89 (k + 1) (nI k) K B f T f mc md).2.2.1).2 q)) ∧
    (∀ q : Nat, ¬ (f ≤ q ∧ q < k ∧ K q = 10) → (LLa_putPool_83 (k + 1) (nI k) (nI T) ts K f tc).2 q = tc q ∧ (LMo_pool_169 (k + 1) (nI k) K B f f (LMo_pool_89 (k + 1) (nI k) K B f T f mc md).2.2.1).2 q = mc q) ∧
    (tw = 0 → (LLa_putPool_129 (N + 1) (nI N) tw tv 0 (nI T) gh).2.2 = gh) ∧
    (tw = 1 → T + 4 * N ≤ 12800 → (∀ m : Nat, m < T / 2 → pq_sh (LLa_putPool_129 (N + 1) (nI N) tw tv 0 (nI T) gh).2.2 m = pq_sh gh m ∧ (LMo_pool_89 (k + 1) (nI k) K B f T f mc md).2.2.2 m = md m) ∧
      ∀ m : Nat, T / 2 ≤ m → m < T / 2 + 2 * N → qd_I (LLa_putPool_129 (N + 1) (nI N) tw tv 0 (nI T) gh).2.2 (LMo_pool_89 (k + 1) (nI k) K B f T f mc md).2.2.2 m) := by
  have hc0 : qa_c K B f f = 0 := qa_c0 f (Nat.le_refl f)
  have hcl := qa_le (K := K) (B := B) (f := f) k
  have e89 := qb_89 (K := K) (B := B) (f := f) (k := k) (T := T) (by omega) (by omega) (by omega) (k + 1) f mc md (Nat.le_refl f) (by omega) (by omega)
  rw [hc0, Nat.mul_zero, Nat.add_zero, Nat.add_zero, ← hN] at e89
  obtain ⟨a1, a2, a3, a4, a5⟩ := e89
  have e129 := qc_129 (N := N) (T := T) (tw := tw) (tv := tv) (by omega) (by omega) (by omega) hw (N + 1) 0 gh (by omega) (by omega)
  rw [Nat.mul_zero, Nat.add_zero] at e129
  obtain ⟨b1, b2, b3⟩ := e129
  have e169 := qb_169 (K := K) (B := B) (f := f) (k := k) (T := T) (by omega) (by omega) (k + 1) f (LMo_pool_89 (k + 1) (nI k) K B f T f mc md).2.2.1 (Nat.le_refl f) (by omega) (by omega) (fun r h1 h3 => a2 r h3.1 h1 h3)
  have e83 := qc_83 (k := k) (T := T) (ts := ts) (K := K) (by omega) (k + 1) f tc (by omega) (by omega)
  refine ⟨b1, a1, ?_, ?_, b2, ?_⟩
  · intro q h1 h3 h4
    obtain ⟨r, r1, r2, r3, r4⟩ := hW.1 q h1 h3 h4
    have r7 := qa_lt (q := k) r2 (by omega)
    refine ⟨?_, ⟨T + 4 * qa_c K B f r, e169.1 q r h1 h3 h4 r2 r1 r3, by omega, by omega⟩⟩
    rw [e83.1 q h1 h3 h4, e169.1 q r h1 h3 h4 r2 r1 r3, r4, show (4 : Int32) * nI (qa_c K B f r) = nI (4 * qa_c K B f r) from pk_mul 4 _, nI_add]
  · intro q h1
    refine ⟨e83.2 q h1, ?_⟩
    rw [e169.2 q h1]
    exact a3 q (fun w => h1 ⟨w.1, w.2.1, w.2.2.2.1⟩)
  · intro h1 h3
    obtain ⟨c1, c2⟩ := b3 h1 h3
    refine ⟨fun m hm => ⟨c2 m (by omega), a5 m (by omega)⟩, ?_⟩
    intro m m1 m2
    obtain ⟨s, hs⟩ : ∃ s : Nat, m = T / 2 + 2 * s ∨ m = T / 2 + 2 * s + 1 := ⟨(m - T / 2) / 2, by omega⟩
    obtain ⟨r, r1, r2, r3⟩ := qa_surj (K := K) (B := B) (f := f) k s (by omega)
    have d1 := c1 s (by omega) (by omega)
    have d2 := a4 r r2.1 r1 r2
    have d3 := hW.2 r r1 r2
    rw [r3] at d2 d3
    rw [d3] at d1
    rcases hs with rfl | rfl
    · exact qd_I_of d2.1 d1.1
    · exact qd_I_of d2.2 d1.2
end

/-- where a pool's words begin -/
def qe_T (tk : Int32) (a : Nat) : Nat := if tk = 11 ∨ tk = 15 then (a + 3) / 4 * 4 else (a + 5) / 4 * 4
section
variable {K B ts tv tc mc md gh : Nat → Int32} {tw tk tp mp : Int32} {f k a N : Nat}
theorem qe_pool (hk : k ≤ 160) (hf : f < k) (ha : a < 2 ^ 14) (h2 : a % 2 = 0) (hw : tw = 0 ∨ tw = 1) (hN : N = qa_c K B f k) (hN0 : 0 < N) (hW : qd_W K B ts tv f k) :
    ∃ (gh' tc' mc' md' : Nat → Int32), FLa_putPool (nI k) (nI N) (nI f) (nI a) tp tk tw tc ts tv K gh = (nI (qe_T tk a + 4 * N), gh', tc', 0, tp + 1) ∧
      FMo_pool (nI k) (nI a) (nI f) tk mp K B mc md = (nI (qe_T tk a + 4 * N), -1, 14, mp + 1, mc', md') ∧
      (∀ q : Nat, f ≤ q → q < k → K q = 10 → qd_eq (tc' q) (mc' q)) ∧ (∀ q : Nat, ¬ (f ≤ q ∧ q < k ∧ K q = 10) → tc' q = tc q ∧ mc' q = mc q) ∧ (tw = 0 → gh' = gh) ∧
      (tw = 1 → qe_T tk a + 4 * N ≤ 12800 → (∀ m : Nat, m < a / 2 → pq_sh gh' m = pq_sh gh m ∧ md' m = md m) ∧ ∀ m : Nat, a / 2 ≤ m → m < (qe_T tk a + 4 * N) / 2 → qd_I gh' md' m) := by
  have hcl := qa_le (K := K) (B := B) (f := f) k
  have e1 : (nI k).toInt.toNat = k := by rw [nI_toInt (by omega)]; omega
  have e2 : (nI f).toInt.toNat = f := by rw [nI_toInt (by omega)]; omega
  have e3 : (nI N).toInt.toNat = N := by rw [nI_toInt (by omega)]; omega
  have n0 : ¬ nI N = 0 := nI_ne0 hN0 (by omega)
  have f0 : ¬ nI f = -1 := fun w => absurd (show nI f < 0 by rw [w]; decide) (nI_pos (by omega))
  have r4 : ∀ b : Nat, b < 2 ^ 16 → nI b - nI b / 4 * 4 = nI (b % 4) := fun b hb => pk_rem (a := b) (d := 4) (by omega) (by omega) (by omega)
  have r0 : ∀ b : Nat, b < 2 ^ 16 → b % 4 = 0 → nI (b % 4) = 0 := fun b _ w => by rw [w]; rfl
  have r1 : ∀ b : Nat, b < 2 ^ 16 → ¬ b % 4 = 0 → ¬ nI (b % 4) = 0 := fun b _ w => nI_ne0 (by omega) (by omega)
  have two : nI a + 2 = nI (a + 2) := nI_add a 2
  have ua := qc_up (a := a) (by omega) h2
  have ub := qc_up (a := a + 2) (by omega) (by omega)
  have tT : ∀ b : Nat, b < 2 ^ 16 → (nI b).toInt.toNat = b := fun b hb => by rw [nI_toInt (by omega)]; omega
  by_cases ov : tk = 11 ∨ tk = 15
  · have eT : qe_T tk a = (a + 3) / 4 * 4 := if_pos ov
    rw [eT]
    by_cases al : a % 4 = 0
    · have eT2 : (a + 3) / 4 * 4 = a := by omega
      rw [eT2] at ua ⊢
      obtain ⟨c1, c2, c3, c4, c5, c6⟩ := qd_core (mc := mc) (tc := tc) (gh := gh) (md := md) hk hf (by omega) al hw hN hW
      refine ⟨(LLa_putPool_129 (N + 1) (nI N) tw tv 0 (nI a) gh).2.2, (LLa_putPool_83 (k + 1) (nI k) (nI a) ts K f tc).2, (LMo_pool_169 (k + 1) (nI k) K B f f (LMo_pool_89 (k + 1) (nI k) K B f a f mc md).2.2.1).2, (LMo_pool_89 (k + 1) (nI k) K B f a f mc md).2.2.2, ?_, ?_, c3, c4, c5, fun h1 h3 => ⟨fun m hm => (c6 h1 h3).1 m hm, fun m m1 m2 => (c6 h1 h3).2 m m1 (by omega)⟩⟩
      · unfold FLa_putPool
        rw [if_neg n0, r4 a (by omega), e1, e2, e3]
        rcases ov with o | o
        · rw [if_pos o, if_pos (r0 a (by omega) al), c1]
        · rw [if_neg (by rw [o]; decide), if_pos o, if_pos (r0 a (by omega) al), c1]
      · unfold FMo_pool
        rw [if_neg f0, ua.1, e1, e2, tT a (by omega)]
        rcases ov with o | o
        · rw [if_pos o, if_pos (nI_le (Nat.le_refl a) (by omega)), c2]
        · rw [if_neg (by rw [o]; decide), if_pos o, if_pos (nI_le (Nat.le_refl a) (by omega)), c2]
    · have eT2 : (a + 3) / 4 * 4 = a + 2 := by omega
      rw [eT2] at ua ⊢
      obtain ⟨p1, p2, p3⟩ := qc_h (t := a) (by omega) hw 18112 gh
      obtain ⟨c1, c2, c3, c4, c5, c6⟩ := qd_core (mc := mc) (tc := tc) (gh := (FLa_putHalf 18112 (nI a) tw gh).2) (md := FMo_write (nI a) 18112 md) (T := a + 2) hk hf (by omega) (by omega) hw hN hW
      refine ⟨(LLa_putPool_129 (N + 1) (nI N) tw tv 0 (nI (a + 2)) (FLa_putHalf 18112 (nI a) tw gh).2).2.2, (LLa_putPool_83 (k + 1) (nI k) (nI (a + 2)) ts K f tc).2, (LMo_pool_169 (k + 1) (nI k) K B f f (LMo_pool_89 (k + 1) (nI k) K B f (a + 2) f mc (FMo_write (nI a) 18112 md)).2.2.1).2, (LMo_pool_89 (k + 1) (nI k) K B f (a + 2) f mc (FMo_write (nI a) 18112 md)).2.2.2, ?_, ?_, c3, c4, fun h => (c5 h).trans (p2 h), fun h1 h3 => ?_⟩
      · unfold FLa_putPool
        rw [if_neg n0, r4 a (by omega), e1, e2, e3, p1]
        rcases ov with o | o
        · rw [if_pos o, if_neg (r1 a (by omega) al), c1]
        · rw [if_neg (by rw [o]; decide), if_pos o, if_neg (r1 a (by omega) al), c1]
      · unfold FMo_pool
        rw [if_neg f0, ua.1, e1, e2, tT (a + 2) (by omega)]
        rcases ov with o | o
        · rw [if_pos o, if_neg (nI_ge (by omega) (by omega)), c2]
        · rw [if_neg (by rw [o]; decide), if_pos o, if_neg (nI_ge (by omega) (by omega)), c2]
      · obtain ⟨d1, d2⟩ := c6 h1 h3
        have p4 := p3 h1 (by omega)
        refine ⟨fun m hm => ?_, fun m m1 m2 => ?_⟩
        · obtain ⟨g1, g2⟩ := d1 m (by omega)
          rw [g1, g2, p4, qb_w (by omega)]
          exact ⟨pk_un (by omega), pk_un (by omega)⟩
        · rcases Nat.lt_or_ge (a / 2) m with w | w
          · exact d2 m (by omega) (by omega)
          · have : m = a / 2 := by omega
            subst this
            obtain ⟨g1, g2⟩ := d1 (a / 2) (by omega)
            refine qd_I_of (v := 18112) ?_ ?_
            · rw [g2, qb_w (by omega), pk_us]
            · rw [g1, p4, pk_us]
  · have eT : qe_T tk a = (a + 5) / 4 * 4 := if_neg ov
    rw [eT]
    have o1 : ¬ tk = 11 := fun w => ov (Or.inl w)
    have o2 : ¬ tk = 15 := fun w => ov (Or.inr w)
    have eB : (57344 : Int32) + ((FLa_stepsFrom (nI a) ((FFo_upToFour (nI a + 2)) + (4 * nI N))) &&& (2047 : Int32)) = 57344 + (((((nI ((a + 5) / 4 * 4 + 4 * N)) - nI a) - 4) / 2) &&& (2047 : Int32)) := by
      unfold FLa_stepsFrom
      rw [two, ub.2, show (4 : Int32) * nI N = nI (4 * N) from pk_mul 4 _, nI_add]
    by_cases al : (a + 2) % 4 = 0
    · have eT2 : (a + 5) / 4 * 4 = a + 2 := by omega
      have eT3 : (a + 2 + 3) / 4 * 4 = a + 2 := by omega
      rw [eT3] at ub
      rw [eT2] at eB ⊢
      generalize hbr : (57344 : Int32) + (((((nI (a + 2 + 4 * N)) - nI a) - 4) / 2) &&& (2047 : Int32)) = br at eB
      obtain ⟨p1, p2, p3⟩ := qc_h (t := a) (by omega) hw br gh
      obtain ⟨c1, c2, c3, c4, c5, c6⟩ := qd_core (mc := mc) (tc := tc) (gh := (FLa_putHalf br (nI a) tw gh).2) (md := md) (T := a + 2) hk hf (by omega) (by omega) hw hN hW
      refine ⟨(LLa_putPool_129 (N + 1) (nI N) tw tv 0 (nI (a + 2)) (FLa_putHalf br (nI a) tw gh).2).2.2, (LLa_putPool_83 (k + 1) (nI k) (nI (a + 2)) ts K f tc).2, (LMo_pool_169 (k + 1) (nI k) K B f f (LMo_pool_89 (k + 1) (nI k) K B f (a + 2) f mc md).2.2.1).2, FMo_write (nI a) br (LMo_pool_89 (k + 1) (nI k) K B f (a + 2) f mc md).2.2.2, ?_, ?_, c3, c4, fun h => (c5 h).trans (p2 h), fun h1 h3 => ?_⟩
      · unfold FLa_putPool
        rw [if_neg n0, eB, if_neg o1, if_neg o2, e1, e2, e3, p1, r4 (a + 2) (by omega), if_pos (r0 (a + 2) (by omega) al), c1]
      · unfold FMo_pool
        rw [if_neg f0, if_neg o1, if_neg o2, two, ub.1, e1, e2, tT (a + 2) (by omega), if_pos (nI_le (Nat.le_refl _) (by omega)), c2, hbr]
      · obtain ⟨d1, d2⟩ := c6 h1 h3
        have p4 := p3 h1 (by omega)
        rw [qb_w (by omega)]
        refine ⟨fun m hm => ?_, fun m m1 m2 => ?_⟩
        · obtain ⟨g1, g2⟩ := d1 m (by omega)
          rw [g1, pk_un (by omega), g2, p4]
          exact ⟨pk_un (by omega), rfl⟩
        · rcases Nat.lt_or_ge (a / 2) m with w | w
          · obtain ⟨h, q1, q2, q3⟩ := d2 m (by omega) (by omega)
            exact ⟨h, q1, (pk_un (by omega)).trans q2, q3⟩
          · have : m = a / 2 := by omega
            subst this
            obtain ⟨g1, g2⟩ := d1 (a / 2) (by omega)
            refine qd_I_of (v := br) pk_us ?_
            rw [g1, p4, pk_us]
    · have eT2 : (a + 5) / 4 * 4 = a + 4 := by omega
      have eT3 : (a + 2 + 3) / 4 * 4 = a + 4 := by omega
      rw [eT3] at ub
      rw [eT2] at eB ⊢
      generalize hbr : (57344 : Int32) + (((((nI (a + 4 + 4 * N)) - nI a) - 4) / 2) &&& (2047 : Int32)) = br at eB
      obtain ⟨p1, p2, p3⟩ := qc_h (t := a) (by omega) hw br gh
      obtain ⟨q1, q2, q3⟩ := qc_h (t := a + 2) (by omega) hw 18112 (FLa_putHalf br (nI a) tw gh).2
      obtain ⟨c1, c2, c3, c4, c5, c6⟩ := qd_core (mc := mc) (tc := tc) (gh := (FLa_putHalf 18112 (nI (a + 2)) tw (FLa_putHalf br (nI a) tw gh).2).2) (md := FMo_write (nI (a + 2)) 18112 md) (T := a + 4) hk hf (by omega) (by omega) hw hN hW
      refine ⟨(LLa_putPool_129 (N + 1) (nI N) tw tv 0 (nI (a + 4)) (FLa_putHalf 18112 (nI (a + 2)) tw (FLa_putHalf br (nI a) tw gh).2).2).2.2, (LLa_putPool_83 (k + 1) (nI k) (nI (a + 4)) ts K f tc).2, (LMo_pool_169 (k + 1) (nI k) K B f f (LMo_pool_89 (k + 1) (nI k) K B f (a + 4) f mc (FMo_write (nI (a + 2)) 18112 md)).2.2.1).2, FMo_write (nI a) br (LMo_pool_89 (k + 1) (nI k) K B f (a + 4) f mc (FMo_write (nI (a + 2)) 18112 md)).2.2.2, ?_, ?_, c3, c4, fun h => ((c5 h).trans (q2 h)).trans (p2 h), fun h1 h3 => ?_⟩
      · unfold FLa_putPool
        rw [if_neg n0, eB, if_neg o1, if_neg o2, e1, e2, e3, p1, r4 (a + 2) (by omega), if_neg (r1 (a + 2) (by omega) al), q1, show a + 2 + 2 = a + 4 by omega, c1]
      · unfold FMo_pool
        rw [if_neg f0, if_neg o1, if_neg o2, two, ub.1, e1, e2, tT (a + 4) (by omega), if_neg (nI_ge (by omega) (by omega)), c2, hbr]
      · obtain ⟨d1, d2⟩ := c6 h1 h3
        have p4 := p3 h1 (by omega)
        have q4 := q3 h1 (by omega)
        rw [p4] at q4
        rw [qb_w (t := a) (by omega)]
        refine ⟨fun m hm => ?_, fun m m1 m2 => ?_⟩
        · obtain ⟨g1, g2⟩ := d1 m (by omega)
          rw [g1, pk_un (by omega), g2, q4, qb_w (by omega)]
          exact ⟨by rw [pk_un (by omega), pk_un (by omega)], pk_un (by omega)⟩
        · rcases Nat.lt_or_ge (a / 2) m with w | w
          · rcases Nat.lt_or_ge (a / 2 + 1) m with w2 | w2
            · obtain ⟨h, q1, q2, q3⟩ := d2 m (by omega) (by omega)
              exact ⟨h, q1, (pk_un (by omega)).trans q2, q3⟩
            · have : m = a / 2 + 1 := by omega
              subst this
              obtain ⟨g1, g2⟩ := d1 (a / 2 + 1) (by omega)
              have e9 : (a + 2) / 2 = a / 2 + 1 := by omega
              rw [e9] at q4
              refine qd_I_of (v := 18112) ?_ ?_
              · rw [pk_un (by omega), g2, qb_w (by omega), e9, pk_us]
              · rw [g1, q4, pk_us]
          · have : m = a / 2 := by omega
            subst this
            obtain ⟨g1, g2⟩ := d1 (a / 2) (by omega)
            refine qd_I_of (v := br) pk_us ?_
            rw [g1, q4, pk_un (by omega), pk_us]
end
