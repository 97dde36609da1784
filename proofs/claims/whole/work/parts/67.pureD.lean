def pu_S (sn mn : Int32) (sK mK sA mA sB mB sC mC sL mL : Nat → Int32) (c : Nat) : Prop :=
  c ≤ 160 ∧ sn = nI c ∧ mn = nI c ∧ sK = mK ∧ sA = mA ∧ sB = mB ∧ sC = mC ∧ (∀ j : Nat, j < 16 → sL j = mL j) ∧ (∀ j : Nat, pu_ok (mK j) (mA j) (mB j) (mC j)) ∧ (∀ j : Nat, ¬ mL j = -1 → ∃ i : Nat, i < 160 ∧ mL j = nI i ∧ (j < 16 → i < c ∧ mK i = 0))
def pu_R (rr mr rw mw : Nat → Int32) (rp vp re ve fn vn fz vz fc vc fv vv : Int32) : Prop :=
  rr = mr ∧ rw = mw ∧ rp = vp ∧ re = ve ∧ fn = vn ∧ fz = vz ∧ fc = vc ∧ fv = vv ∧ (∀ j : Nat, 8 ≤ j → mr j = 0) ∧ (∀ j : Nat, 32 ≤ j → mw j = 0) ∧ pn_b vn ∧ pn_b vz ∧ pn_b vc ∧ pn_b vv
def pu_J (x : XS) (y : MS) : Prop :=
  (∃ c : Nat, pu_S x.sn y.mn x.sK y.mK x.sA y.mA x.sB y.mB x.sC y.mC x.sL y.mL c) ∧ (∃ z : Nat, pu_I x.gn y.mz x.gh y.mi z) ∧ x.gp = y.mu ∧ pu_R x.rr y.mr x.rw y.mw x.rp y.vp x.re y.ve x.fn y.vn x.fz y.vz x.fc y.vc x.fv y.vv ∧ x.xr = y.mx ∧ vp_in x.to 160 ∧ (∀ y9 : Nat, vp_in (y.mf y9 / 2) 7200) ∧ (∀ y9 : Nat, vp_in (y.ml y9 / 2) 7200)
theorem pu_in {a n : Nat} (h : a < n) (hn : n < 2 ^ 31) : vp_in (nI a) n := nI_in h hn
theorem pp_bool {x : Int32} (h : pn_b x) : narrow .boolean (.int x) = .int x := by
  obtain ⟨a, ha, rfl⟩ := h
  rcases (by omega : a = 0 ∨ a = 1) with rfl | rfl <;> rfl
theorem pp_mL0 : ∀ j : Nat, pq_mL0 j = if j < 16 then -1 else 0 := by
  intro j
  by_cases h : j < 16
  · rw [if_pos h]
    exact (by decide +kernel : ∀ j : Fin 16, pq_mL0 j.val = -1) ⟨j, h⟩
  · rw [if_neg h]
    have q : ∀ n : Nat, n < 16 → j ≠ (nI n).toNatClampNeg := fun n hn e => by rw [nI_clamp (by omega)] at e; omega
    unfold pq_mL0
    exact (pk_un (q 15 (by omega))).trans <| (pk_un (q 14 (by omega))).trans <| (pk_un (q 13 (by omega))).trans <| (pk_un (q 12 (by omega))).trans <| (pk_un (q 11 (by omega))).trans <| (pk_un (q 10 (by omega))).trans <| (pk_un (q 9 (by omega))).trans <| (pk_un (q 8 (by omega))).trans <| (pk_un (q 7 (by omega))).trans <| (pk_un (q 6 (by omega))).trans <| (pk_un (q 5 (by omega))).trans <| (pk_un (q 4 (by omega))).trans <| (pk_un (q 3 (by omega))).trans <| (pk_un (q 2 (by omega))).trans <| (pk_un (q 1 (by omega))).trans <| pk_un (q 0 (by omega))
theorem pp_00 : vp_in ((0 : Int32) / 2) 7200 := by unfold vp_in; decide
theorem pp_init : pu_J XS.init MS.init := by
  refine ⟨⟨0, by omega, rfl, rfl, rfl, rfl, rfl, rfl, ?_, ?_, ?_⟩, ⟨0, by omega, rfl, rfl, fun k hk => absurd hk (by omega)⟩, rfl, ⟨rfl, rfl, rfl, rfl, rfl, rfl, rfl, rfl, fun _ _ => rfl, fun _ _ => rfl, pn_0, pn_0, pn_0, pn_0⟩, rfl, pu_in (a := 0) (by omega) (by omega), fun _ => pp_00, fun _ => pp_00⟩
  · intro j hj
    show (-1 : Int32) = pq_mL0 j
    rw [pp_mL0, if_pos hj]
  · intro j
    have e : MS.init.mA j = 0 := rfl
    exact Or.inl ⟨rfl, by rw [e]; decide, by rw [e]; decide⟩
  · intro j hj
    have hj : ¬ pq_mL0 j = -1 := hj
    refine ⟨0, by omega, ?_, ?_⟩
    · show pq_mL0 j = 0
      rw [pp_mL0] at hj ⊢
      split at hj
      · exact absurd rfl hj
      · rename_i g; rw [if_neg g]
    · intro g; rw [pp_mL0, if_pos g] at hj; exact absurd rfl hj
theorem pp_pre (x : XS) (y : MS) (h : pu_J x y) : pq_Pre x y := by
  obtain ⟨⟨c, hc, e1, e2, e3, e4, e5, e6, hl, hk, hm⟩, ⟨z, hz, g1, g2, gi⟩, _, ⟨_, _, _, _, _, _, _, _, _, _, b1, b2, b3, _⟩, _, ht, hf, hv⟩ := h
  refine ⟨by rw [e1]; exact nI_pos (by omega), by rw [e1, nI_toInt (by omega)]; omega, ht, ?_, by rw [g1, nI_toInt (by omega)]; omega, by rw [e2]; exact nI_pos (by omega), by rw [e2, nI_toInt (by omega)]; omega, by rw [g2]; exact nI_pos (by omega), by rw [g2, nI_toInt (by omega)]; omega, hf, hv, ?_, ?_, ?_, pp_bool b1, pp_bool b2, pp_bool b3⟩
  · intro j hj hn
    rw [hl j hj] at hn ⊢
    obtain ⟨i, hi, e, _⟩ := hm j hn
    rw [e]; exact pu_in hi (by omega)
  · intro j _ hj
    have := hk j
    unfold pu_ok at this
    rw [hj] at this
    simp at this
    exact this.2
  · intro j _ h0 h13 h14
    have := hk j
    unfold pu_ok at this
    unfold pq_ka
    have hin : 0 ≤ (y.mA j).toInt ∧ (y.mA j).toInt ≤ 15 → vp_in (y.mA j) 16 := by
      intro q
      have p : ¬ y.mA j < 0 := by rw [pu_lt]; simp; exact q.1
      obtain ⟨i, hi, e⟩ := nI_of p
      rw [e] at q ⊢
      rw [nI_toInt hi] at q
      exact pu_in (by omega) (by omega)
    rcases this with q | q | q | q | q | q | q | q | q | q | q
    · exact absurd q.1 h0
    · rcases q.1 with r | r | r | r <;> simp [r]
    · rcases q.1 with r | r <;> simp [r]
    · simp [q.1]
    · rcases q.1 with r | r <;> simp [r]
    · simp [q.1]
    · have := hin q.2; simp [this]
    · have := hin ⟨q.2.1, q.2.2.1⟩; simp [this]
    · exact absurd q.1 h13
    · exact absurd q h14
    · simp [q]
  · intro j hj
    obtain ⟨i, hi, e, _⟩ := hm j hj
    rw [e]; exact nI_pos (by omega)

theorem pp_refused (x : XS) (y : MS) (h : pu_J x y) : x.refused = (y.refused).1 ∧ pu_J x (y.refused).2 := ⟨h.2.2.2.2.1, h⟩
theorem pp_size (x : XS) (y : MS) (h : pu_J x y) : x.size = (y.size).1 ∧ pu_J x (y.size).2 := by
  obtain ⟨z, hz, g1, g2, gi⟩ := h.2.1
  exact ⟨g1.trans g2.symm, h⟩
theorem pp_pools (x : XS) (y : MS) (h : pu_J x y) : x.pools = (y.pools).1 ∧ pu_J x (y.pools).2 := ⟨h.2.2.1, h⟩
theorem pp_ix {k : Int32} {n : Nat} (hn : n < 2 ^ 30) (h : FMo_outside k 0 (nI n - 1) = 0) : ∃ j : Nat, j < n ∧ k = nI j := by
  rw [pu_out] at h
  have h0 : ¬ k < 0 := by rw [pu_lt]; simp; exact h.1
  obtain ⟨p, hp, rfl⟩ := nI_of h0
  refine ⟨p, ?_, rfl⟩
  rw [nI_toInt hp, show (nI n - 1).toInt = (n : Int) - 1 from pk_sub_toInt (a := n) (b := 1) (by omega) (by omega)] at h
  omega
theorem pp_nix {k : Int32} {n : Nat} (hn : n < 2 ^ 30) (h : ¬ FMo_outside k 0 (nI n - 1) = 0) : k < 0 ∨ nI n ≤ k := by
  rw [pu_out, show (nI n - 1).toInt = (n : Int) - 1 from pk_sub_toInt (a := n) (b := 1) (by omega) (by omega), show (0 : Int32).toInt = 0 by decide] at h
  rw [pu_lt, pu_le, nI_toInt (by omega), show (0 : Int32).toInt = 0 by decide]
  omega
theorem pp_half (x : XS) (y : MS) (h : pu_J x y) (k : Int32) : x.half k = (y.half k).1 ∧ pu_J x (y.half k).2 := by
  refine ⟨?_, h⟩
  obtain ⟨z, hz, g1, g2, gi⟩ := h.2.1
  show FIm_at k x.gn x.gh = (FMo_half k y.mz y.mi).1
  unfold FMo_half
  rw [g1, g2]
  by_cases c : FMo_outside k 0 (nI z - 1) = 0
  · rw [if_pos c]
    obtain ⟨j, hj, rfl⟩ := pp_ix (by omega) c
    obtain ⟨a, ha, e1, e2⟩ := gi j hj
    rw [pl_at hz hj, nI_clamp (by omega), e1, e2]
  · rw [if_neg c]
    unfold FIm_at
    rcases pp_nix (by omega) c with q | q
    · rw [if_pos q]
    · by_cases p : k < 0
      · rw [if_pos p]
      · rw [if_neg p, if_pos q]
theorem pp_data (x : XS) (y : MS) (h : pu_J x y) (k : Int32) : x.data k = (y.data k).1 ∧ pu_J x (y.data k).2 := by
  refine ⟨?_, h⟩
  have e : x.rw = y.mw := h.2.2.2.1.2.1
  show FPo_data k x.rw = (FMo_data k y.mw).1
  unfold FMo_data FPo_data
  rw [e]
  by_cases c : FMo_outside k 0 31 = 0
  · rw [if_pos c]
    obtain ⟨j, hj, rfl⟩ := pp_ix (n := 32) (by omega) c
    rw [if_neg (nI_pos (by omega)), if_neg (show ¬ (32 : Int32) ≤ nI j from nI_ge (b := 32) (by omega) (by omega))]
  · rw [if_neg c]
    rcases pp_nix (n := 32) (by omega) c with q | q
    · rw [if_pos q]
    · by_cases p : k < 0
      · rw [if_pos p]
      · rw [if_neg p, if_pos (show (32 : Int32) ≤ k from q)]
theorem pp_flags (vn vz vc vv : Int32) : (if vn = 0 then if vz = 0 then if vc = 0 then if vv = 0 then (((0 + 0) + 0) + 0, 0) else (((0 + 0) + 0) + 1, 0) else if vv = 0 then (((0 + 0) + 2) + 0, 0) else (((0 + 0) + 2) + 1, 0) else if vc = 0 then if vv = 0 then (((0 + 4) + 0) + 0, 0) else (((0 + 4) + 0) + 1, 0) else if vv = 0 then (((0 + 4) + 2) + 0, 0) else (((0 + 4) + 2) + 1, 0) else if vz = 0 then if vc = 0 then if vv = 0 then (((8 + 0) + 0) + 0, 0) else (((8 + 0) + 0) + 1, 0) else if vv = 0 then (((8 + 0) + 2) + 0, 0) else (((8 + 0) + 2) + 1, 0) else if vc = 0 then if vv = 0 then (((8 + 4) + 0) + 0, 0) else (((8 + 4) + 0) + 1, 0) else if vv = 0 then (((8 + 4) + 2) + 0, 0) else (((8 + 4) + 2) + 1, 0)) = (FPr_flags vn vz vc vv, (0 : Int32)) := by
  unfold FPr_flags
  by_cases a : vn = 0 <;> by_cases b : vz = 0 <;> by_cases c : vc = 0 <;> by_cases d : vv = 0 <;> simp only [if_pos, if_neg, a, b, c, d, if_true, if_false]
theorem pp_register (x : XS) (y : MS) (h : pu_J x y) (g : Int32) : (y.register g).2.mq = pq_cd (x.register g).1 ∧ ((x.register g).1 = none → (x.register g).2.1 = (y.register g).1) ∧ pu_J (x.register g).2.2 (y.register g).2 := by
  obtain ⟨e1, e2, e3, e4, e5, e6, e7, e8, _⟩ := h.2.2.2.1
  have k : (FMo_register g y.vn y.vz y.vc y.vv y.vp y.mr).2 = pq_cd (FPo_register g x.rp x.fn x.fz x.fc x.fv x.rr).1 ∧ ((FPo_register g x.rp x.fn x.fz x.fc x.fv x.rr).1 = none → (FPo_register g x.rp x.fn x.fz x.fc x.fv x.rr).2 = (FMo_register g y.vn y.vz y.vc y.vv y.vp y.mr).1) := by
    rw [e1, e3, e5, e6, e7, e8]
    unfold FMo_register FPo_register
    by_cases c : FMo_outside g 0 9 = 0
    · rw [if_pos c]
      obtain ⟨j, hj, rfl⟩ := pp_ix (n := 10) (by omega) c
      rw [if_neg (nI_pos (by omega)), if_pos (show nI j ≤ (9 : Int32) from nI_le (b := 9) (by omega) (by omega))]
      by_cases c8 : nI j = 8
      · have d : (8 : Int32) ≤ nI j := by rw [c8]; decide
        rw [if_pos c8, if_pos d, if_pos c8]
        exact ⟨rfl, fun _ => rfl⟩
      · rw [if_neg c8]
        by_cases d : (8 : Int32) ≤ nI j
        · rw [if_pos d, if_pos d, if_neg c8, pp_flags]
          exact ⟨rfl, fun _ => rfl⟩
        · rw [if_neg d, if_neg d, if_neg c8]
          exact ⟨rfl, fun _ => rfl⟩
    · rw [if_neg c]
      rcases pp_nix (n := 10) (by omega) c with q | q
      · rw [if_pos q]
        exact ⟨rfl, fun w => by cases w⟩
      · have q9 : ¬ g ≤ 9 := by
          rw [pu_le] at q ⊢
          rw [nI_toInt (by omega)] at q
          rw [show (9 : Int32).toInt = 9 by decide]
          omega
        rw [if_neg q9]
        by_cases p : g < 0
        · rw [if_pos p]; exact ⟨rfl, fun w => by cases w⟩
        · rw [if_neg p]; exact ⟨rfl, fun w => by cases w⟩
  exact ⟨k.1, k.2, h⟩
theorem pp_clr : ∀ (n i : Nat) (f : Nat → Int32), i + n = 17 → (∀ j : Nat, j < i → f j = -1) → (∀ j : Nat, j < 16 → (LMo_clear_12 n i f).2 j = -1) ∧ (∀ j : Nat, 16 ≤ j → (LMo_clear_12 n i f).2 j = f j) := by
  intro n
  induction n with
  | zero => intro i f hi hf; exact ⟨fun j hj => hf j (by omega), fun j hj => rfl⟩
  | succ n ih =>
    intro i f hi hf
    unfold LMo_clear_12
    by_cases c : i < 16
    · rw [if_neg (show ¬ (16 : Int32) ≤ nI i from nI_ge (b := 16) c (by omega)), nI_clamp (by omega)]
      have k := ih (i + 1) (upd f i (-1)) (by omega) (fun j hj => by
        by_cases e : j = i
        · subst e; exact pk_us
        · rw [pk_un e]; exact hf j (by omega))
      exact ⟨k.1, fun j hj => (k.2 j hj).trans (pk_un (by omega))⟩
    · rw [if_pos (show (16 : Int32) ≤ nI i from nI_le (a := 16) (by omega) (by omega))]
      exact ⟨fun j hj => hf j (by omega), fun j hj => rfl⟩
theorem pp_clear (x : XS) (y : MS) (h : pu_J x y) : pu_J x.clear y.clear := by
  obtain ⟨⟨c, hc, e1, e2, e3, e4, e5, e6, hl, hk, hm⟩, hr⟩ := h
  have k := pp_clr 17 0 y.mL (by omega) (fun j hj => absurd hj (by omega))
  refine ⟨⟨0, by omega, rfl, rfl, e3, e4, e5, e6, ?_, hk, ?_⟩, hr⟩
  · intro j hj
    exact (k.1 j hj).symm
  · intro j hj
    have hj : ¬ (LMo_clear_12 17 0 y.mL).2 j = -1 := hj
    by_cases g : j < 16
    · exact absurd (k.1 j g) hj
    · have e : y.clear.mL j = y.mL j := k.2 j (by omega)
      rw [k.2 j (by omega)] at hj
      obtain ⟨i, hi, e9, _⟩ := hm j hj
      exact ⟨i, hi, e.trans e9, fun w => absurd w g⟩
theorem pp_b2 : ∀ (n i : Nat) (f : Nat → Int32), i + n = 9 → (∀ j : Nat, j < i → f j = 0) → (∀ j : Nat, 8 ≤ j → f j = 0) → (LMo_begin_2 n i f).2 = fun _ => 0 := by
  intro n
  induction n with
  | zero => intro i f hi hf hg; funext j; exact if h : j < i then hf j h else hg j (by omega)
  | succ n ih =>
    intro i f hi hf hg
    unfold LMo_begin_2
    by_cases c : i < 8
    · rw [if_neg (show ¬ (8 : Int32) ≤ nI i from nI_ge (b := 8) c (by omega)), nI_clamp (by omega)]
      exact ih (i + 1) (upd f i 0) (by omega) (fun j hj => by
        by_cases e : j = i
        · subst e; exact pk_us
        · rw [pk_un e]; exact hf j (by omega)) (fun j hj => (pk_un (by omega)).trans (hg j hj))
    · rw [if_pos (show (8 : Int32) ≤ nI i from nI_le (a := 8) (by omega) (by omega))]
      funext j
      exact if h : j < i then hf j h else hg j (by omega)
theorem pp_b23 : ∀ (n i : Nat) (f : Nat → Int32), i + n = 33 → (∀ j : Nat, j < i → f j = 0) → (∀ j : Nat, 32 ≤ j → f j = 0) → (LMo_begin_23 n i f).2 = fun _ => 0 := by
  intro n
  induction n with
  | zero => intro i f hi hf hg; funext j; exact if h : j < i then hf j h else hg j (by omega)
  | succ n ih =>
    intro i f hi hf hg
    unfold LMo_begin_23
    by_cases c : i < 32
    · rw [if_neg (show ¬ (32 : Int32) ≤ nI i from nI_ge (b := 32) c (by omega)), nI_clamp (by omega)]
      exact ih (i + 1) (upd f i 0) (by omega) (fun j hj => by
        by_cases e : j = i
        · subst e; exact pk_us
        · rw [pk_un e]; exact hf j (by omega)) (fun j hj => (pk_un (by omega)).trans (hg j hj))
    · rw [if_pos (show (32 : Int32) ≤ nI i from nI_le (a := 32) (by omega) (by omega))]
      funext j
      exact if h : j < i then hf j h else hg j (by omega)
theorem pp_R0 {mr mw : Nat → Int32} (h8 : ∀ j : Nat, 8 ≤ j → mr j = 0) (h32 : ∀ j : Nat, 32 ≤ j → mw j = 0) : pu_R (FPr_begin).1 (FMo_begin mr mw).1 (FPr_begin).2.1 (FMo_begin mr mw).2.1 0 0 0 0 0 0 0 0 0 0 0 0 := by
  have a : (FMo_begin mr mw).1 = fun _ => 0 := pp_b2 9 0 mr (by omega) (fun j hj => absurd hj (by omega)) h8
  have b : (FMo_begin mr mw).2.1 = fun _ => 0 := pp_b23 33 0 mw (by omega) (fun j hj => absurd hj (by omega)) h32
  exact ⟨a.symm, b.symm, rfl, rfl, rfl, rfl, rfl, rfl, fun j _ => by rw [a], fun j _ => by rw [b], pn_0, pn_0, pn_0, pn_0⟩
theorem pp_restart (x : XS) (y : MS) (h : pu_J x y) : pu_J x.restart y.restart := by
  obtain ⟨hS, hI, hp, ⟨_, _, _, _, _, _, _, _, h8, h32, _⟩, hr⟩ := h
  exact ⟨hS, hI, hp, pp_R0 h8 h32, hr⟩
theorem pp_run (x : XS) (y : MS) (h : pu_J x y) (f : Int32) : (y.run f).2.mq = pq_cd (x.run f).1 ∧ ((x.run f).1 = none → (x.run f).2.1 = (y.run f).1) ∧ pu_J (x.run f).2.2 (y.run f).2 := by
  obtain ⟨hS, ⟨z, hI⟩, hp, ⟨e1, e2, e3, e4, e5, e6, e7, e8, h8, h32, b1, b2, b3, b4⟩, hr⟩ := h
  have k : (FMo_run f y.mz y.vn y.vz y.vc y.vv y.vp y.ve y.mi y.mr y.mw).2.1 = pq_cd (FPo_run f x.gn x.gh x.rp x.re x.fn x.fz x.fc x.fv x.rr x.rw).1 ∧ ((FPo_run f x.gn x.gh x.rp x.re x.fn x.fz x.fc x.fv x.rr x.rw).1 = none → (FPo_run f x.gn x.gh x.rp x.re x.fn x.fz x.fc x.fv x.rr x.rw).2.1 = (FMo_run f y.mz y.vn y.vz y.vc y.vv y.vp y.ve y.mi y.mr y.mw).1) ∧
      pu_R (FPo_run f x.gn x.gh x.rp x.re x.fn x.fz x.fc x.fv x.rr x.rw).2.2.1 (FMo_run f y.mz y.vn y.vz y.vc y.vv y.vp y.ve y.mi y.mr y.mw).2.2.1 (FPo_run f x.gn x.gh x.rp x.re x.fn x.fz x.fc x.fv x.rr x.rw).2.2.2.1 (FMo_run f y.mz y.vn y.vz y.vc y.vv y.vp y.ve y.mi y.mr y.mw).2.2.2.1
        (FPo_run f x.gn x.gh x.rp x.re x.fn x.fz x.fc x.fv x.rr x.rw).2.2.2.2.1 (FMo_run f y.mz y.vn y.vz y.vc y.vv y.vp y.ve y.mi y.mr y.mw).2.2.2.2.2.2.2.2.1 (FPo_run f x.gn x.gh x.rp x.re x.fn x.fz x.fc x.fv x.rr x.rw).2.2.2.2.2.1 (FMo_run f y.mz y.vn y.vz y.vc y.vv y.vp y.ve y.mi y.mr y.mw).2.2.2.2.2.2.2.2.2
        (FPo_run f x.gn x.gh x.rp x.re x.fn x.fz x.fc x.fv x.rr x.rw).2.2.2.2.2.2.1 (FMo_run f y.mz y.vn y.vz y.vc y.vv y.vp y.ve y.mi y.mr y.mw).2.2.2.2.1 (FPo_run f x.gn x.gh x.rp x.re x.fn x.fz x.fc x.fv x.rr x.rw).2.2.2.2.2.2.2.1 (FMo_run f y.mz y.vn y.vz y.vc y.vv y.vp y.ve y.mi y.mr y.mw).2.2.2.2.2.1
        (FPo_run f x.gn x.gh x.rp x.re x.fn x.fz x.fc x.fv x.rr x.rw).2.2.2.2.2.2.2.2.1 (FMo_run f y.mz y.vn y.vz y.vc y.vv y.vp y.ve y.mi y.mr y.mw).2.2.2.2.2.2.1 (FPo_run f x.gn x.gh x.rp x.re x.fn x.fz x.fc x.fv x.rr x.rw).2.2.2.2.2.2.2.2.2 (FMo_run f y.mz y.vn y.vz y.vc y.vv y.vp y.ve y.mi y.mr y.mw).2.2.2.2.2.2.2.1 := by
    rw [e1, e2, e3, e4, e5, e6, e7, e8]
    unfold FMo_run FPo_run FPr_goOn
    by_cases c : FMo_outside f 1 5000 = 0
    · have c' := c
      rw [pu_out, show (1 : Int32).toInt = 1 by decide, show (5000 : Int32).toInt = 5000 by decide] at c'
      have l := po_loop (xf := f) hI (f.toInt.toNat + 1) 0 y.mr y.mw y.vp y.ve y.vn y.vz y.vc y.vv h8 h32 b1 b2 b3 b4
      rw [if_pos c, if_neg (show ¬ f < 1 by rw [pu_lt, show (1 : Int32).toInt = 1 by decide]; omega), if_pos (show f ≤ 5000 by rw [pu_le, show (5000 : Int32).toInt = 5000 by decide]; omega), l.1]
      have l2 := l.2
      generalize LMo_run_24 (f.toInt.toNat + 1) f y.mz y.mi 0 y.mr y.mw y.vn y.vz y.vc y.vv y.vp y.ve = t at l2
      obtain ⟨t1, t2, t3, t4, t5, t6, t7, t8, t9⟩ := t
      obtain ⟨q1, q2, q3, q4, q5, q6⟩ := l2
      exact ⟨rfl, fun _ => rfl, rfl, rfl, rfl, rfl, rfl, rfl, rfl, rfl, q1, q2, q3, q4, q5, q6⟩
    · have c' := c
      rw [pu_out, show (1 : Int32).toInt = 1 by decide, show (5000 : Int32).toInt = 5000 by decide] at c'
      rw [if_neg c]
      by_cases d : f < 1
      · rw [if_pos d]
        exact ⟨rfl, (fun w => by cases w), rfl, rfl, rfl, rfl, rfl, rfl, rfl, rfl, h8, h32, b1, b2, b3, b4⟩
      · have d2 : ¬ f ≤ 5000 := by
          rw [pu_lt, show (1 : Int32).toInt = 1 by decide] at d
          rw [pu_le, show (5000 : Int32).toInt = 5000 by decide]
          omega
        rw [if_neg d, if_neg d2]
        exact ⟨rfl, (fun w => by cases w), rfl, rfl, rfl, rfl, rfl, rfl, rfl, rfl, h8, h32, b1, b2, b3, b4⟩
  exact ⟨k.1, k.2.1, hS, ⟨z, hI⟩, hp, k.2.2, hr⟩

theorem pr_app {c : Nat} {sK mK sA mA sB mB sC mC sL mL : Nat → Int32} {sn mn k a b d : Int32} (h : pu_S sn mn sK mK sA mA sB mB sC mC sL mL c) (hc : c < 160) (ho : pu_ok k a b d) (hk : ¬ k = 0) :
    pu_S (sn + 1) (mn + 1) (upd sK sn.toNatClampNeg k) (upd mK mn.toNatClampNeg k) (upd sA sn.toNatClampNeg a) (upd mA mn.toNatClampNeg a) (upd sB sn.toNatClampNeg b) (upd mB mn.toNatClampNeg b) (upd sC sn.toNatClampNeg d) (upd mC mn.toNatClampNeg d) sL mL (c + 1) := by
  obtain ⟨h1, rfl, rfl, rfl, rfl, rfl, rfl, hl, hg, hm⟩ := h
  refine ⟨by omega, nI_1 c, nI_1 c, rfl, rfl, rfl, rfl, hl, ?_, ?_⟩
  · intro j
    rw [nI_clamp (by omega)]
    by_cases e : j = c
    · subst e; rw [pk_us, pk_us, pk_us, pk_us]; exact ho
    · rw [pk_un e, pk_un e, pk_un e, pk_un e]; exact hg j
  · intro j hj
    obtain ⟨i, hi, e, w⟩ := hm j hj
    refine ⟨i, hi, e, fun q => ⟨by have := (w q).1; omega, ?_⟩⟩
    rw [nI_clamp (by omega), pk_un (by have := (w q).1; omega)]; exact (w q).2
theorem pr_lab {c : Nat} {sK mK sA mA sB mB sC mC sL mL : Nat → Int32} {sn mn a b d : Int32} (h : pu_S sn mn sK mK sA mA sB mB sC mC sL mL c) (hc : c < 160) (ho : pu_ok 0 a b d) {l : Nat} (ha : l < 16) (ea : a = nI l) (hn : mL l = -1) :
    pu_S (sn + 1) (mn + 1) (upd sK sn.toNatClampNeg 0) (upd mK mn.toNatClampNeg 0) (upd sA sn.toNatClampNeg a) (upd mA mn.toNatClampNeg a) (upd sB sn.toNatClampNeg b) (upd mB mn.toNatClampNeg b) (upd sC sn.toNatClampNeg d) (upd mC mn.toNatClampNeg d) (upd sL a.toNatClampNeg sn) (upd mL a.toNatClampNeg mn) (c + 1) := by
  obtain ⟨h1, rfl, rfl, rfl, rfl, rfl, rfl, hl, hg, hm⟩ := h
  subst ea
  refine ⟨by omega, nI_1 c, nI_1 c, rfl, rfl, rfl, rfl, ?_, ?_, ?_⟩
  · intro j hj
    rw [nI_clamp (by omega)]
    by_cases e : j = l
    · subst e; rw [pk_us, pk_us]
    · rw [pk_un e, pk_un e]; exact hl j hj
  · intro j
    rw [nI_clamp (by omega)]
    by_cases e : j = c
    · subst e; rw [pk_us, pk_us, pk_us, pk_us]; exact ho
    · rw [pk_un e, pk_un e, pk_un e, pk_un e]; exact hg j
  · intro j hj
    rw [nI_clamp (n := l) (by omega)] at hj ⊢
    rw [nI_clamp (by omega)]
    by_cases e : j = l
    · subst e
      exact ⟨c, hc, pk_us, fun _ => ⟨by omega, pk_us⟩⟩
    · rw [pk_un e] at hj
      obtain ⟨i, hi, e9, w⟩ := hm j hj
      refine ⟨i, hi, (pk_un e).trans e9, fun q => ⟨by have := (w q).1; omega, ?_⟩⟩
      rw [pk_un (by have := (w q).1; omega)]; exact (w q).2
theorem pp_line (x : XS) (y : MS) (h : pu_J x y) (k a b c : Int32) : (y.line k a b c).2.mq = pq_cd (x.line k a b c).1 ∧ ((x.line k a b c).1 = none → (x.line k a b c).2.1 = (y.line k a b c).1) ∧ pu_J (x.line k a b c).2.2 (y.line k a b c).2 := by
  obtain ⟨⟨n, hS⟩, hr⟩ := h
  have w : (FMo_line k a b c y.mn y.mK y.mA y.mB y.mC y.mL).2.1 = pq_cd (FPo_line k a b c x.sn x.sK x.sA x.sB x.sC x.sL).1 ∧ ((FPo_line k a b c x.sn x.sK x.sA x.sB x.sC x.sL).1 = none → (FPo_line k a b c x.sn x.sK x.sA x.sB x.sC x.sL).2.1 = (FMo_line k a b c y.mn y.mK y.mA y.mB y.mC y.mL).1) ∧
      ∃ m : Nat, pu_S (FPo_line k a b c x.sn x.sK x.sA x.sB x.sC x.sL).2.2.2.2.2.2.2 (FMo_line k a b c y.mn y.mK y.mA y.mB y.mC y.mL).2.2.1 (FPo_line k a b c x.sn x.sK x.sA x.sB x.sC x.sL).2.2.1 (FMo_line k a b c y.mn y.mK y.mA y.mB y.mC y.mL).2.2.2.1 (FPo_line k a b c x.sn x.sK x.sA x.sB x.sC x.sL).2.2.2.1 (FMo_line k a b c y.mn y.mK y.mA y.mB y.mC y.mL).2.2.2.2.1 (FPo_line k a b c x.sn x.sK x.sA x.sB x.sC x.sL).2.2.2.2.1 (FMo_line k a b c y.mn y.mK y.mA y.mB y.mC y.mL).2.2.2.2.2.1 (FPo_line k a b c x.sn x.sK x.sA x.sB x.sC x.sL).2.2.2.2.2.1 (FMo_line k a b c y.mn y.mK y.mA y.mB y.mC y.mL).2.2.2.2.2.2.1 (FPo_line k a b c x.sn x.sK x.sA x.sB x.sC x.sL).2.2.2.2.2.2.1 (FMo_line k a b c y.mn y.mK y.mA y.mB y.mC y.mL).2.2.2.2.2.2.2 m := by
    clear hr
    generalize x.sn = sn at hS ⊢
    generalize x.sK = sK at hS ⊢
    generalize x.sA = sA at hS ⊢
    generalize x.sB = sB at hS ⊢
    generalize x.sC = sC at hS ⊢
    generalize x.sL = sL at hS ⊢
    generalize y.mn = mn at hS ⊢
    generalize y.mK = mK at hS ⊢
    generalize y.mA = mA at hS ⊢
    generalize y.mB = mB at hS ⊢
    generalize y.mC = mC at hS ⊢
    generalize y.mL = mL at hS ⊢
    have hS' := hS
    obtain ⟨h1, e1, e2, _, _, _, _, hl, hg, hm⟩ := hS'
    unfold FPo_line FMo_line
    by_cases c1 : FMo_fits k a b c = 0
    · rw [if_pos c1, if_pos (pu_lines.mpr c1)]
      exact ⟨rfl, (fun q => by cases q), n, hS⟩
    rw [if_neg c1, if_neg (fun q => c1 (pu_lines.mp q))]
    have hok := pu_fits.mp c1
    by_cases c2 : n = 160
    · rw [if_pos (show mn = 160 by rw [e2, c2]; rfl), if_pos (show FSo_hasRoom sn = 0 by rw [e1, c2]; rfl)]
      exact ⟨rfl, (fun q => by cases q), n, hS⟩
    have c3 : ¬ mn = 160 := by rw [e2]; exact fun q => c2 ((nI_eq (a := n) (b := 160) (by omega) (by omega)).mp q)
    have c4 : ¬ FSo_hasRoom sn = 0 := by
      unfold FSo_hasRoom
      rw [e1, if_neg (show ¬ (160 : Int32) ≤ nI n from nI_ge (b := 160) (by omega) (by omega))]
      decide
    rw [if_neg c3, if_neg c4]
    have e3 : mn + 1 - 1 = sn := by rw [e2, e1, Int32.add_sub_cancel]
    by_cases c5 : k = 0
    · subst c5
      have hl16 : ∃ l : Nat, l < 16 ∧ a = nI l := by
        have q : 0 ≤ a.toInt ∧ a.toInt ≤ 15 := by
          unfold pu_ok at hok
          simp at hok
          exact hok
        have p : ¬ a < 0 := by rw [pu_lt]; simp; exact q.1
        obtain ⟨i, hi, e⟩ := nI_of p
        rw [e, nI_toInt hi] at q
        exact ⟨i, by omega, e⟩
      obtain ⟨l, hl2, ea⟩ := hl16
      have e5 : FSo_lineOfLabel a sL = mL l := by
        unfold FSo_lineOfLabel
        rw [ea, if_neg (nI_pos (by omega)), if_neg (show ¬ (16 : Int32) ≤ nI l from nI_ge (b := 16) (by omega) (by omega)), nI_clamp (by omega), hl l hl2]
      have e6 : mL a.toNatClampNeg = mL l := by rw [ea, nI_clamp (by omega)]
      rw [if_pos rfl, if_pos rfl, e5, e6]
      by_cases c6 : mL l = -1
      · rw [if_pos c6, if_pos c6]
        unfold FSo_append
        rw [if_pos rfl]
        exact ⟨rfl, fun _ => e3.symm, n + 1, pr_lab hS (by omega) hok hl2 ea c6⟩
      · rw [if_neg c6, if_neg c6]
        exact ⟨rfl, (fun q => by cases q), n, hS⟩
    · rw [if_neg c5, if_neg c5]
      unfold FSo_append
      rw [if_neg c5]
      exact ⟨rfl, fun _ => e3.symm, n + 1, pr_app hS (by omega) hok c5⟩
  exact ⟨w.1, w.2.1, w.2.2, hr⟩
