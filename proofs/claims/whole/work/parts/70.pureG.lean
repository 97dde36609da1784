/-- the constants' places that no later line changes -/
def qk_se (mo : Int32) (q i : Nat) : Prop := (mo = -1 ∧ q < i) ∨ ∃ f : Nat, f < i ∧ mo = nI f ∧ q < f
def qk_mk (K : Nat → Int32) (i : Nat) : Prop := ¬ K i = 0 ∧ ¬ K i = 13 ∧ ¬ K i = 14
/-- what one line does -/
def qk_post (K A B C L : Nat → Int32) (tw : Int32) (i a : Nat) (mo : Int32) (tl tc gh mc md mf : Nat → Int32) (a' : Nat) (mo' : Int32) (tl' tc' gh' mc' md' mf' : Nat → Int32) : Prop :=
  a ≤ a' ∧ (∀ q : Nat, q ≠ i → mf' q = mf q ∧ tl' q = tl q) ∧ (¬ (K i = 0 ∨ K i = 14) → (∃ p : Nat, mf' i = nI p ∧ p + 2 ≤ a' ∧ p % 2 = 0) ∧ tl' i = mf' i) ∧ (K i = 0 ∨ K i = 14 → tl' = tl ∧ mf' i = -1) ∧
  (∀ q : Nat, (tc' q = tc q ∧ mc' q = mc q ∧ (q < i → K q = 10 → qk_se mo' q (i + 1) → qk_se mo q i)) ∨ (q < i ∧ K q = 10 ∧ qd_eq (tc' q) (mc' q) ∧ qk_se mo' q (i + 1))) ∧
  (∀ q : Nat, qk_se mo q i → mc' q = mc q ∧ qk_se mo' q (i + 1)) ∧ (K i = 10 → ¬ qk_se mo' i (i + 1)) ∧ (tw = 0 → gh' = gh) ∧
  (tw = 1 → (∀ m : Nat, m < a / 2 → pq_sh gh' m = pq_sh gh m ∧ md' m = md m) ∧
    (∀ m : Nat, a / 2 ≤ m → m < a' / 2 → qd_I gh' md' m ∨ (qk_mk K i ∧ mf' i = nI (2 * m) ∧ pq_sh gh' m = qc_s (FLa_halfOf (nI i) tl' tc' K A B C L))) ∧
    (qk_mk K i → ∃ m : Nat, m < a' / 2 ∧ mf' i = nI (2 * m) ∧ pq_sh gh' m = qc_s (FLa_halfOf (nI i) tl' tc' K A B C L)))
theorem qk_inj {f e : Nat} (hf : f < 2 ^ 20) (he : e < 2 ^ 20) (h : nI f = nI e) : f = e := (nI_eq (by omega) (by omega)).mp h
theorem qk_m1 {f : Nat} (hf : f < 2 ^ 20) : ¬ nI f = -1 := fun w => absurd (show nI f < 0 by rw [w]; decide) (nI_pos (by omega))
/-- the tables of constants over a line, out of what its pool did -/
theorem qk_tab {K : Nat → Int32} {i : Nat} {mo tn mo1 tn1 mo' : Int32} {tc mc tc' mc' : Nat → Int32} (hi : i < 160) (h : qh_P K i mo tn mo1 tn1 tc mc tc' mc') (hm : mo = -1 ∨ ∃ f : Nat, f < i ∧ mo = nI f) (hk : (¬ K i = 10 ∧ mo' = mo1) ∨ (K i = 10 ∧ mo' = if mo1 = -1 then nI i else mo1)) :
    (∀ q : Nat, (tc' q = tc q ∧ mc' q = mc q ∧ (q < i → K q = 10 → qk_se mo' q (i + 1) → qk_se mo q i)) ∨ (q < i ∧ K q = 10 ∧ qd_eq (tc' q) (mc' q) ∧ qk_se mo' q (i + 1))) ∧
    (∀ q : Nat, qk_se mo q i → mc' q = mc q ∧ qk_se mo' q (i + 1)) ∧ (K i = 10 → ¬ qk_se mo' i (i + 1)) := by
  have hse : ∀ q : Nat, q < i → mo1 = -1 → qk_se mo' q (i + 1) := by
    intro q hq e
    rcases hk with ⟨_, k2⟩ | ⟨_, k2⟩
    · exact Or.inl ⟨k2.trans e, by omega⟩
    · rw [if_pos e] at k2
      exact Or.inr ⟨i, by omega, k2, hq⟩
  have hse2 : ∀ f : Nat, f < i → mo1 = nI f → mo' = nI f := by
    intro f hf e
    rcases hk with ⟨_, k2⟩ | ⟨_, k2⟩
    · exact k2.trans e
    · rw [if_neg (by rw [e]; exact qk_m1 (by omega))] at k2
      exact k2.trans e
  have hlast : mo1 = -1 ∨ (∃ f : Nat, f < i ∧ mo1 = nI f) → K i = 10 → ¬ qk_se mo' i (i + 1) := by
    intro hm1 hK
    have hno : ∃ f : Nat, f ≤ i ∧ mo' = nI f := by
      rcases hm1 with e | ⟨f, hf, e⟩
      · rcases hk with ⟨k1, _⟩ | ⟨_, k2⟩
        · exact absurd hK k1
        · rw [if_pos e] at k2; exact ⟨i, Nat.le_refl i, k2⟩
      · exact ⟨f, by omega, hse2 f hf e⟩
    obtain ⟨f, hf, e⟩ := hno
    rintro (⟨s1, _⟩ | ⟨e2, s1, s2, s3⟩)
    · rw [e] at s1; exact qk_m1 (by omega) s1
    · rw [e] at s2
      have := qk_inj (by omega) (by omega) s2
      omega
  rcases h with ⟨rfl, rfl, rfl, rfl⟩ | ⟨f, h1, h2, h3, h4, h5, h6⟩
  · refine ⟨fun q => Or.inl ⟨rfl, rfl, fun q1 q2 q3 => ?_⟩, fun q hq => ⟨rfl, ?_⟩, hlast hm⟩
    · rcases hm with e | ⟨f, hf, e⟩
      · exact Or.inl ⟨e, q1⟩
      · have e2 := hse2 f hf e
        rcases q3 with ⟨s1, _⟩ | ⟨g, s1, s2, s3⟩
        · rw [e2] at s1; exact absurd s1 (qk_m1 (by omega))
        · rw [e2] at s2
          have := qk_inj (by omega) (by omega) s2
          exact Or.inr ⟨f, hf, e, by omega⟩
    · rcases hq with ⟨s1, s2⟩ | ⟨g, s1, s2, s3⟩
      · exact hse q s2 s1
      · exact Or.inr ⟨g, by omega, hse2 g s1 s2, s3⟩
  · refine ⟨fun q => ?_, fun q hq => ?_, hlast (Or.inl h3)⟩
    · by_cases c : f ≤ q ∧ q < i ∧ K q = 10
      · exact Or.inr ⟨c.2.1, c.2.2, h5 q c.1 c.2.1 c.2.2, hse q c.2.1 h3⟩
      · obtain ⟨d1, d2⟩ := h6 q c
        exact Or.inl ⟨d1, d2, fun q1 q2 _ => Or.inr ⟨f, h1, h2, by
          rcases Nat.lt_or_ge q f with w | w
          · exact w
          · exact absurd ⟨w, q1, q2⟩ c⟩⟩
    · have hqf : q < f := by
        rcases hq with ⟨s1, s2⟩ | ⟨g, s1, s2, s3⟩
        · rw [h2] at s1; exact absurd s1 (qk_m1 (by omega))
        · rw [h2] at s2
          have := qk_inj (by omega) (by omega) s2
          omega
      exact ⟨(h6 q (fun w => by omega)).2, hse q (by omega) h3⟩
theorem qk_mo {K B ts tv tl ml : Nat → Int32} {to tn mo tk mt : Int32} {i x : Nat} (hV : qf_V K B ts tv tl ml to tn mo tk mt i x) : mo = -1 ∨ ∃ f : Nat, f < i ∧ mo = nI f := by
  rcases hV with e | ⟨f, N, b, h1, h3, h4, _⟩
  · exact Or.inl e.2.1
  · exact Or.inr ⟨f, h1, h4⟩
theorem qk_ml {K B ts tv tl ml ml' : Nat → Int32} {to tn mo tk mt : Int32} {i x : Nat} (hV : qf_V K B ts tv tl ml to tn mo tk mt i x) (h : ∀ q : Nat, q < i → ml' q = ml q) : qf_V K B ts tv tl ml' to tn mo tk mt i x := by
  rcases hV with e | ⟨f, N, b, h1, h3, h4, h5, h6, h7, h8, h9, h10, h11, h12, h13⟩
  · exact Or.inl e
  · exact Or.inr ⟨f, N, b, h1, h3, h4, h5, h6, h7, h8, h9, h10, h11, (h f h1).trans h12, h13⟩

section
variable {K A B C L ts tv tl tc mc md ml mf gh : Nat → Int32} {tw tk tp to tn mo mt : Int32} {i a x c : Nat}
theorem ql_0 (hi : i < c) (hc : c ≤ 160) (hw : tw = 0 ∨ tw = 1) (h2 : a % 2 = 0) (hb : a + x ≤ 80 * i) (hV : qf_V K B ts tv tl ml to tn mo tk mt i x) (hK : K i = 0) :
    ∃ (a' x' : Nat) (tl' tc' ts' tv' gh' mc' md' ml' mf' : Nat → Int32) (tn' to' tp' tk' mo' mt' : Int32),
      FLa_layLine (nI i) tn to (nI a) tp tk tw tl tc ts tv K A B C L gh = (tl', tc', ts', tv', tn', to', nI a', tp', tk', gh') ∧
      (∀ n : Nat, LMo_reckon_22 (n + 1) (nI c) K A B i (nI a) mo mt tp mc md ml mf = LMo_reckon_22 n (nI c) K A B (i + 1) (nI a') mo' mt' tp' mc' md' ml' mf') ∧ a' % 2 = 0 ∧ a' + x' ≤ 80 * (i + 1) ∧ qf_V K B ts' tv' tl' ml' to' tn' mo' tk' mt' (i + 1) x' ∧ (to' = to ∨ to' = nI i) ∧ qk_post K A B C L tw i a mo tl tc gh mc md mf a' mo' tl' tc' gh' mc' md' mf' := by
  have k10 : ¬ K i = 10 := by rw [hK]; decide
  have k14 : ¬ K i = 14 := by rw [hK]; decide
  have t := qk_tab (K := K) (tn := tn) (tc := tc) (mc := mc) (by omega) (Or.inl ⟨rfl, rfl, rfl, rfl⟩) (qk_mo hV) (Or.inl ⟨k10, rfl⟩)
  refine ⟨a, x, tl, tc, ts, tv, gh, mc, md, upd ml i (-1), upd mf i (-1), tn, to, tp, tk, mo, mt, ?_, ?_, h2, by omega, qj_next (by omega) k10 (qk_ml hV (fun q hq => pk_un (by omega))), Or.inl rfl, Nat.le_refl a, fun q hq => ⟨pk_un hq, rfl⟩, fun w => absurd (Or.inl hK) w, fun _ => ⟨rfl, pk_us⟩, t.1, t.2.1, t.2.2, fun _ => rfl, fun _ => ⟨fun m _ => ⟨rfl, rfl⟩, fun m m1 m2 => by omega, fun w => absurd hK w.1⟩⟩
  · have e : FSo_halvesOf (nI i) K A = 0 := by unfold FSo_halvesOf; rw [nI_clamp (by omega), if_pos hK]
    have e2 : LLa_layLine_22 ((0 : Int32).toInt.toNat + 1) (nI i) to tw ts tv K A B C L (K i) 0 0 tl tc tn tp (nI a) tk gh = (0, tl, tc, tn, tp, nI a, tk, gh) := by
      rw [LLa_layLine_22, if_pos (by decide)]
    unfold FLa_layLine
    rw [e, nI_clamp (by omega), if_neg k10, if_neg k14, e2]
  · intro n
    have e2 : LMo_reckon_108 ((0 : Int32).toInt.toNat + 1) K B i 0 0 (nI a) mo mt tp mc md (upd ml i (-1)) (upd mf i (-1)) = (0, nI a, mo, mt, tp, mc, md, upd ml i (-1), upd mf i (-1)) := by
      rw [LMo_reckon_108, if_pos (by decide)]
    rw [LMo_reckon_22, if_neg (nI_ge hi (by omega)), nI_clamp (by omega), if_pos hK, if_neg k14, if_neg k10, e2]
theorem ql_14 (hi : i < c) (hc : c ≤ 160) (hw : tw = 0 ∨ tw = 1) (h2 : a % 2 = 0) (hb : a + x ≤ 80 * i) (hV : qf_V K B ts tv tl ml to tn mo tk mt i x) (hK : K i = 14) :
    ∃ (a' x' : Nat) (tl' tc' ts' tv' gh' mc' md' ml' mf' : Nat → Int32) (tn' to' tp' tk' mo' mt' : Int32),
      FLa_layLine (nI i) tn to (nI a) tp tk tw tl tc ts tv K A B C L gh = (tl', tc', ts', tv', tn', to', nI a', tp', tk', gh') ∧
      (∀ n : Nat, LMo_reckon_22 (n + 1) (nI c) K A B i (nI a) mo mt tp mc md ml mf = LMo_reckon_22 n (nI c) K A B (i + 1) (nI a') mo' mt' tp' mc' md' ml' mf') ∧ a' % 2 = 0 ∧ a' + x' ≤ 80 * (i + 1) ∧ qf_V K B ts' tv' tl' ml' to' tn' mo' tk' mt' (i + 1) x' ∧ (to' = to ∨ to' = nI i) ∧ qk_post K A B C L tw i a mo tl tc gh mc md mf a' mo' tl' tc' gh' mc' md' mf' := by
  have k10 : ¬ K i = 10 := by rw [hK]; decide
  have k0 : ¬ K i = 0 := by rw [hK]; decide
  have k13 : ¬ K i = 13 := by rw [hK]; decide
  have e : FSo_halvesOf (nI i) K A = 0 := by unfold FSo_halvesOf; rw [nI_clamp (by omega), if_neg k0, if_neg k13, if_pos hK]
  have e2 : LLa_layLine_22 ((0 : Int32).toInt.toNat + 1) (nI i) to tw ts tv K A B C L (K i) 0 0 tl tc tn tp (nI a) tk gh = (0, tl, tc, tn, tp, nI a, tk, gh) := by
    rw [LLa_layLine_22, if_pos (by decide)]
  have e3 : ∀ (e o t p : Int32) (mc md : Nat → Int32), LMo_reckon_108 ((0 : Int32).toInt.toNat + 1) K B i 0 0 e o t p mc md (upd ml i (-1)) (upd mf i (-1)) = (0, e, o, t, p, mc, md, upd ml i (-1), upd mf i (-1)) := by
    intro e o t p mc md
    rw [LMo_reckon_108, if_pos (by decide)]
  have hm := qk_mo hV
  rcases hV with ⟨v1, v2, v3⟩ | ⟨f, N, b, h1, h3, h4, h5, h6, h7, h8, h9, h10, h11, h12, h13⟩
  · have t := qk_tab (K := K) (tn := tn) (tc := tc) (mc := mc) (by omega) (Or.inl ⟨rfl, rfl, rfl, rfl⟩) hm (Or.inl ⟨k10, rfl⟩)
    have p1 : FLa_putPool (nI i) tn to (nI a) tp tk tw tc ts tv K gh = (nI a, gh, tc, tn, tp) := by unfold FLa_putPool; rw [if_pos v1]
    have p2 : FMo_pool (nI i) (nI a) mo mt tp K B mc md = (nI a, mo, mt, tp, mc, md) := by unfold FMo_pool; rw [if_pos v2]
    refine ⟨a, x, tl, tc, ts, tv, gh, mc, md, upd ml i (-1), upd mf i (-1), tn, to, tp, tk, mo, mt, ?_, ?_, h2, by omega, Or.inl ⟨v1, v2, v3⟩, Or.inl rfl, Nat.le_refl a, fun q hq => ⟨pk_un hq, rfl⟩, fun w => absurd (Or.inr hK) w, fun _ => ⟨rfl, pk_us⟩, t.1, t.2.1, t.2.2, fun _ => rfl, fun _ => ⟨fun m _ => ⟨rfl, rfl⟩, fun m m1 m2 => by omega, fun w => absurd hK w.2.2⟩⟩
    · unfold FLa_layLine
      rw [e, nI_clamp (by omega), if_neg k10, if_pos hK, e2, p1]
    · intro n
      rw [LMo_reckon_22, if_neg (nI_ge hi (by omega)), nI_clamp (by omega), if_neg k0, if_pos hK, if_neg k10, p2, e3]
  · have hN0 := qf_g0 (B := B) h1 (by omega) h7
    have hNl := qa_le (K := K) (B := B) (f := f) i
    obtain ⟨gp, tc', mc', md', p1, p2, p3, p4, p5, p6⟩ := qe_pool (K := K) (B := B) (ts := ts) (tv := tv) (tc := tc) (mc := mc) (md := md) (gh := gh) (tw := tw) (tk := tk) (tp := tp) (mp := tp) (f := f) (k := i) (a := a) (N := N) (by omega) h1 (by omega) h2 hw h5 (by omega) h8
    have hT : qe_T tk a ≤ a + 4 ∧ a ≤ qe_T tk a ∧ qe_T tk a % 4 = 0 := by
      unfold qe_T
      split <;> omega
    obtain ⟨t1, t2, t3⟩ := hT
    generalize qe_T tk a = T at p1 p2 p6 t1 t2 t3
    have t := qk_tab (K := K) (tn := tn) (tn1 := 0) (mo1 := -1) (mo' := -1) (tc := tc) (mc := mc) (tc' := tc') (mc' := mc') (by omega) (Or.inr ⟨f, h1, h4, rfl, rfl, p3, p4⟩) hm (Or.inl ⟨k10, rfl⟩)
    refine ⟨T + 4 * N, 0, tl, tc', ts, tv, gp, mc', md', upd ml i (-1), upd mf i (-1), 0, to, tp + 1, tk, -1, 14, ?_, ?_, by omega, by omega, Or.inl ⟨rfl, rfl, rfl⟩, Or.inl rfl, by omega, fun q hq => ⟨pk_un hq, rfl⟩, fun w => absurd (Or.inr hK) w, fun _ => ⟨rfl, pk_us⟩, t.1, t.2.1, t.2.2, p5, fun w => ⟨(p6 w (by omega)).1, fun m m1 m2 => Or.inl ((p6 w (by omega)).2 m m1 m2), fun w => absurd hK w.2.2⟩⟩
    · unfold FLa_layLine
      rw [e, nI_clamp (by omega), if_neg k10, if_pos hK, e2, h6, h3, p1]
    · intro n
      rw [LMo_reckon_22, if_neg (nI_ge hi (by omega)), nI_clamp (by omega), if_neg k0, if_pos hK, if_neg k10, h4, ← h9, p2, e3]
theorem ql_13 (hi : i < c) (hc : c ≤ 160) (hw : tw = 0 ∨ tw = 1) (h2 : a % 2 = 0) (hb : a + x ≤ 80 * i) (hV : qf_V K B ts tv tl ml to tn mo tk mt i x) (hK : K i = 13) {H : Nat} (hH : H ≤ 40) (hH0 : 0 < H) (hA : A i = nI H) :
    ∃ (a' x' : Nat) (tl' tc' ts' tv' gh' mc' md' ml' mf' : Nat → Int32) (tn' to' tp' tk' mo' mt' : Int32),
      FLa_layLine (nI i) tn to (nI a) tp tk tw tl tc ts tv K A B C L gh = (tl', tc', ts', tv', tn', to', nI a', tp', tk', gh') ∧
      (∀ n : Nat, LMo_reckon_22 (n + 1) (nI c) K A B i (nI a) mo mt tp mc md ml mf = LMo_reckon_22 n (nI c) K A B (i + 1) (nI a') mo' mt' tp' mc' md' ml' mf') ∧ a' % 2 = 0 ∧ a' + x' ≤ 80 * (i + 1) ∧ qf_V K B ts' tv' tl' ml' to' tn' mo' tk' mt' (i + 1) x' ∧ (to' = to ∨ to' = nI i) ∧ qk_post K A B C L tw i a mo tl tc gh mc md mf a' mo' tl' tc' gh' mc' md' mf' := by
  have k10 : ¬ K i = 10 := by rw [hK]; decide
  have k0 : ¬ K i = 0 := by rw [hK]; decide
  have k14 : ¬ K i = 14 := by rw [hK]; decide
  have eH : (nI H).toInt.toNat = H := by rw [nI_toInt (by omega)]; omega
  have e : FSo_halvesOf (nI i) K A = nI H := by unfold FSo_halvesOf; rw [nI_clamp (by omega), if_neg k0, if_pos hK, hA]
  obtain ⟨p, b, x1, tc1, gh1, mc1, md1, ml1, tn1, mo1, tp1, tk1, mt1, b1, b2, b3, b4, b5, b6, b7, b8, b9, b10, b11⟩ := qi_gap (A := A) (C := C) (L := L) (B := B) (ts := ts) (tv := tv) (to := to) (tw := tw) (i := i) (H := H) (by omega) hH hw hK (H + 1) 0 a x tl tc mc md (upd ml i (-1)) (upd mf i (-1)) gh tk tp tn mo mt (by omega) (by omega) h2 (by omega) (qk_ml hV (fun q hq => pk_un (by omega))) (Or.inl ⟨rfl, pk_us⟩)
  have q1 : ∀ t : Nat → Int32, (if 0 < H then qg_tl 0 t i (nI p) else t) = upd t i (nI p) := fun t => by rw [if_pos hH0]; exact if_pos rfl
  rw [q1] at b1 b2 b7
  obtain ⟨b6a, b6b, b6c⟩ := b6 hH0
  have t := qk_tab (by omega) b8 (qk_mo hV) (Or.inl ⟨k10, rfl⟩)
  refine ⟨b, x1, upd tl i (nI p), tc1, ts, tv, gh1, mc1, md1, ml1, upd (upd mf i (-1)) i (nI p), tn1, to, tp1, tk1, mo1, mt1, ?_, ?_, b4, by omega, qj_next (by omega) k10 b7, Or.inl rfl, b3, fun q hq => ⟨by rw [pk_un hq, pk_un hq], pk_un hq⟩, fun _ => ⟨⟨p, pk_us, b6b, b6c⟩, by rw [pk_us, pk_us]⟩, fun w => absurd w (by rw [hK]; decide), t.1, t.2.1, t.2.2, b9, fun w => ⟨(b10 w).1, fun m m1 m2 => Or.inl ((b10 w).2 m m1 m2), fun w => absurd hK w.2.1⟩⟩
  · unfold FLa_layLine
    rw [e, eH, nI_clamp (by omega), if_neg k10, if_neg k14, b1]
  · intro n
    rw [LMo_reckon_22, if_neg (nI_ge hi (by omega)), nI_clamp (by omega), if_neg k0, if_neg k14, if_pos hK, if_neg k10, hA, eH, b2]
theorem ql_1 (hi : i < c) (hc : c ≤ 160) (hw : tw = 0 ∨ tw = 1) (h2 : a % 2 = 0) (hb : a + x ≤ 80 * i) (hV : qf_V K B ts tv tl ml to tn mo tk mt i x) (hK : qk_mk K i) :
    ∃ (a' x' : Nat) (tl' tc' ts' tv' gh' mc' md' ml' mf' : Nat → Int32) (tn' to' tp' tk' mo' mt' : Int32),
      FLa_layLine (nI i) tn to (nI a) tp tk tw tl tc ts tv K A B C L gh = (tl', tc', ts', tv', tn', to', nI a', tp', tk', gh') ∧
      (∀ n : Nat, LMo_reckon_22 (n + 1) (nI c) K A B i (nI a) mo mt tp mc md ml mf = LMo_reckon_22 n (nI c) K A B (i + 1) (nI a') mo' mt' tp' mc' md' ml' mf') ∧ a' % 2 = 0 ∧ a' + x' ≤ 80 * (i + 1) ∧ qf_V K B ts' tv' tl' ml' to' tn' mo' tk' mt' (i + 1) x' ∧ (to' = to ∨ to' = nI i) ∧ qk_post K A B C L tw i a mo tl tc gh mc md mf a' mo' tl' tc' gh' mc' md' mf' := by
  obtain ⟨k0, k13, k14⟩ := hK
  have e : FSo_halvesOf (nI i) K A = 1 := by unfold FSo_halvesOf; rw [nI_clamp (by omega), if_neg k0, if_neg k13, if_neg k14]
  have e1 : (1 : Int32).toInt.toNat + 1 = 2 := rfl
  obtain ⟨p, x1, tc1, gh1, mc1, md1, tn1, mo1, tp1, b1, b2, b3, b4, b5, b6, b7, b8, b9⟩ := qi_one (A := A) (C := C) (L := L) (B := B) (tc := tc) (mc := mc) (md := md) (ml := upd ml i (-1)) (mf := upd mf i (-1)) (gh := gh) (tp := tp) (i := i) (by omega) hw h2 hb (qk_ml hV (fun q hq => pk_un (by omega))) pk_us
  have hG : tw = 1 → (∀ m : Nat, m < a / 2 → pq_sh gh1 m = pq_sh gh m ∧ md1 m = md m) ∧ (∀ m : Nat, a / 2 ≤ m → m < (p + 2) / 2 → qd_I gh1 md1 m ∨ (qk_mk K i ∧ upd (upd mf i (-1)) i (nI p) i = nI (2 * m) ∧ pq_sh gh1 m = qc_s (FLa_halfOf (nI i) (upd tl i (nI p)) tc1 K A B C L))) ∧ (qk_mk K i → ∃ m : Nat, m < (p + 2) / 2 ∧ upd (upd mf i (-1)) i (nI p) i = nI (2 * m) ∧ pq_sh gh1 m = qc_s (FLa_halfOf (nI i) (upd tl i (nI p)) tc1 K A B C L)) := by
    intro w
    obtain ⟨c1, c2, c3⟩ := b9 w
    have e2 : 2 * (p / 2) = p := by omega
    refine ⟨c1, fun m m1 m2 => ?_, fun _ => ⟨p / 2, by omega, by rw [pk_us, e2], c3⟩⟩
    rcases Nat.lt_or_ge m (p / 2) with w | w
    · exact Or.inl (c2 m m1 w)
    · have : m = p / 2 := by omega
      subst this
      exact Or.inr ⟨⟨k0, k13, k14⟩, by rw [pk_us, e2], c3⟩
  by_cases k10 : K i = 10
  · obtain ⟨to2, tn2, ts2, tv2, x2, w1, w2, w3, w4⟩ := qj_wait (by omega) k10 b6 (p := p) (by omega) pk_us pk_us rfl
    have t := qk_tab (by omega) b7 (qk_mo hV) (Or.inr ⟨k10, rfl⟩)
    refine ⟨p + 2, x2, upd tl i (nI p), tc1, ts2, tv2, gh1, mc1, md1, upd (upd ml i (-1)) i (nI p), upd (upd mf i (-1)) i (nI p), tn2, to2, tp1, K i, (if mo1 = -1 then nI i else mo1), K i, ?_, ?_, by omega, by omega, w2, w4, by omega, fun q hq => ⟨by rw [pk_un hq, pk_un hq], pk_un hq⟩, fun _ => ⟨⟨p, pk_us, Nat.le_refl _, b4⟩, by rw [pk_us, pk_us]⟩, fun w => absurd w (fun v => v.elim k0 k14), t.1, t.2.1, t.2.2, b8, hG⟩
    · unfold FLa_layLine
      rw [e, e1, nI_clamp (by omega), if_pos k10, b1, w1]
    · intro n
      rw [LMo_reckon_22, if_neg (nI_ge hi (by omega)), nI_clamp (by omega), if_neg k0, if_neg k14, if_neg k13, if_pos k10, e1, b2]
      by_cases m : mo1 = -1
      · rw [if_pos m, if_pos m]
      · rw [if_neg m, if_neg m]
  · have t := qk_tab (by omega) b7 (qk_mo hV) (Or.inl ⟨k10, rfl⟩)
    refine ⟨p + 2, x1, upd tl i (nI p), tc1, ts, tv, gh1, mc1, md1, upd (upd ml i (-1)) i (nI p), upd (upd mf i (-1)) i (nI p), tn1, to, tp1, K i, mo1, K i, ?_, ?_, by omega, by omega, qj_next (by omega) k10 b6, Or.inl rfl, by omega, fun q hq => ⟨by rw [pk_un hq, pk_un hq], pk_un hq⟩, fun _ => ⟨⟨p, pk_us, Nat.le_refl _, b4⟩, by rw [pk_us, pk_us]⟩, fun w => absurd w (fun v => v.elim k0 k14), t.1, t.2.1, t.2.2, b8, hG⟩
    · unfold FLa_layLine
      rw [e, e1, nI_clamp (by omega), if_neg k10, if_neg k14, b1]
    · intro n
      rw [LMo_reckon_22, if_neg (nI_ge hi (by omega)), nI_clamp (by omega), if_neg k0, if_neg k14, if_neg k13, if_neg k10, e1, b2]
/-- one line, of whatever kind -/
theorem ql_line (hi : i < c) (hc : c ≤ 160) (hok : pu_ok (K i) (A i) (B i) (C i)) (hw : tw = 0 ∨ tw = 1) (h2 : a % 2 = 0) (hb : a + x ≤ 80 * i) (hV : qf_V K B ts tv tl ml to tn mo tk mt i x) :
    ∃ (a' x' : Nat) (tl' tc' ts' tv' gh' mc' md' ml' mf' : Nat → Int32) (tn' to' tp' tk' mo' mt' : Int32),
      FLa_layLine (nI i) tn to (nI a) tp tk tw tl tc ts tv K A B C L gh = (tl', tc', ts', tv', tn', to', nI a', tp', tk', gh') ∧
      (∀ n : Nat, LMo_reckon_22 (n + 1) (nI c) K A B i (nI a) mo mt tp mc md ml mf = LMo_reckon_22 n (nI c) K A B (i + 1) (nI a') mo' mt' tp' mc' md' ml' mf') ∧ a' % 2 = 0 ∧ a' + x' ≤ 80 * (i + 1) ∧ qf_V K B ts' tv' tl' ml' to' tn' mo' tk' mt' (i + 1) x' ∧ (to' = to ∨ to' = nI i) ∧ qk_post K A B C L tw i a mo tl tc gh mc md mf a' mo' tl' tc' gh' mc' md' mf' := by
  by_cases k0 : K i = 0
  · exact ql_0 hi hc hw h2 hb hV k0
  by_cases k14 : K i = 14
  · exact ql_14 hi hc hw h2 hb hV k14
  by_cases k13 : K i = 13
  · have q : 1 ≤ (A i).toInt ∧ (A i).toInt ≤ 40 := by
      unfold pu_ok at hok
      rw [k13] at hok
      simp at hok
      exact hok
    have p : ¬ A i < 0 := by rw [pu_lt]; simp; omega
    obtain ⟨H, hH, eH⟩ := nI_of p
    rw [eH, nI_toInt hH] at q
    exact ql_13 hi hc hw h2 hb hV k13 (by omega) (by omega) eH
  · exact ql_1 hi hc hw h2 hb hV ⟨k0, k13, k14⟩
end

abbrev qm_hs (K : Nat → Int32) (q : Nat) : Prop := ¬ (K q = 0 ∨ K q = 14)
section
variable {K A B C L : Nat → Int32} {tw : Int32} {c : Nat}
/-- all lines, in either pass: the same end on both sides, and what stays as it is -/
theorem qm_one (hc : c ≤ 160) (hok : ∀ j : Nat, pu_ok (K j) (A j) (B j) (C j)) (hw : tw = 0 ∨ tw = 1) : ∀ (n i a x : Nat) (tl tc ts tv gh mc md ml mf : Nat → Int32) (tn to tp tk mo mt : Int32), i ≤ c → c < n + i → a % 2 = 0 → a + x ≤ 80 * i → qf_V K B ts tv tl ml to tn mo tk mt i x → vp_in to 160 → (∀ q : Nat, q < i → qm_hs K q → (∃ p : Nat, mf q = nI p ∧ p + 2 ≤ a ∧ p % 2 = 0) ∧ tl q = mf q) → (∀ q : Nat, q < i → ¬ qm_hs K q → mf q = -1) → (∀ q : Nat, q < i → K q = 10 → qk_se mo q i → qd_eq (tc q) (mc q)) →
    ∃ (a' x' : Nat) (tl' tc' ts' tv' gh' mc' md' ml' mf' : Nat → Int32) (tn' to' tp' tk' mo' mt' : Int32),
      LLa_layAll_22 n tw (nI c) K A B C L i tl tc ts tv tn to (nI a) tp tk gh = (c, tl', tc', ts', tv', tn', to', nI a', tp', tk', gh') ∧
      LMo_reckon_22 n (nI c) K A B i (nI a) mo mt tp mc md ml mf = (c, nI a', mo', mt', tp', mc', md', ml', mf') ∧ a' % 2 = 0 ∧ a' + x' ≤ 80 * c ∧ a ≤ a' ∧ qf_V K B ts' tv' tl' ml' to' tn' mo' tk' mt' c x' ∧ vp_in to' 160 ∧
      (∀ q : Nat, q < c → qm_hs K q → (∃ p : Nat, mf' q = nI p ∧ p + 2 ≤ a' ∧ p % 2 = 0) ∧ tl' q = mf' q) ∧ (∀ q : Nat, q < c → ¬ qm_hs K q → mf' q = -1) ∧ (∀ q : Nat, q < c → K q = 10 → qk_se mo' q c → qd_eq (tc' q) (mc' q)) ∧
      (∀ q : Nat, q < i → mf' q = mf q) ∧ (∀ q : Nat, qk_se mo q i → mc' q = mc q ∧ qk_se mo' q c) ∧ (tw = 0 → gh' = gh) := by
  intro n
  induction n with
  | zero => intro i a x tl tc ts tv gh mc md ml mf tn to tp tk mo mt h1 h2; omega
  | succ n ih =>
    intro i a x tl tc ts tv gh mc md ml mf tn to tp tk mo mt h1 h2 h3 h4 hV hto hA hB hT
    by_cases e : i = c
    · subst e
      refine ⟨a, x, tl, tc, ts, tv, gh, mc, md, ml, mf, tn, to, tp, tk, mo, mt, ?_, ?_, h3, h4, Nat.le_refl a, hV, hto, hA, hB, hT, fun q _ => rfl, fun q w => ⟨rfl, w⟩, fun _ => rfl⟩
      · rw [LLa_layAll_22, if_pos (nI_le (Nat.le_refl i) (by omega))]
      · rw [LMo_reckon_22, if_pos (nI_le (Nat.le_refl i) (by omega))]
    · obtain ⟨a1, x1, tl1, tc1, ts1, tv1, gh1, mc1, md1, ml1, mf1, tn1, to1, tp1, tk1, mo1, mt1, l1, l2, l3, l4, l5, l6, p1, p2, p3, p4, p5, p6, p7, p8, _⟩ := ql_line (A := A) (C := C) (L := L) (tc := tc) (mc := mc) (md := md) (mf := mf) (gh := gh) (tp := tp) (c := c) (by omega : i < c) hc (hok i) hw h3 h4 hV
      have hto1 : vp_in to1 160 := by
        rcases l6 with w | w
        · rw [w]; exact hto
        · rw [w]; exact pu_in (by omega) (by omega)
      obtain ⟨a2, x2, tl2, tc2, ts2, tv2, gh2, mc2, md2, ml2, mf2, tn2, to2, tp2, tk2, mo2, mt2, i1, i2, i3, i4, i5, i6, i7, i8, i9, i10, i11, i12, i13⟩ := ih (i + 1) a1 x1 tl1 tc1 ts1 tv1 gh1 mc1 md1 ml1 mf1 tn1 to1 tp1 tk1 mo1 mt1 (by omega) (by omega) l3 l4 l5 hto1 (by
          intro q q1 q2
          by_cases w : q = i
          · subst w; exact p3 q2
          · obtain ⟨⟨p, u1, u2, u4⟩, u3⟩ := hA q (by omega) q2
            obtain ⟨v1, v2⟩ := p2 q w
            exact ⟨⟨p, v1.trans u1, by omega, u4⟩, by rw [v1, v2, u3]⟩) (by
          intro q q1 q2
          by_cases w : q = i
          · subst w; exact (p4 (Classical.not_not.mp q2)).2
          · rw [(p2 q w).1]; exact hB q (by omega) q2) (by
          intro q q1 q2 q3
          by_cases w : q = i
          · subst w; exact absurd q3 (p7 q2)
          · rcases p5 q with ⟨u1, u2, u3⟩ | ⟨_, _, u3, _⟩
            · rw [u1, u2]; exact hT q (by omega) q2 (u3 (by omega) q2 q3)
            · exact u3)
      refine ⟨a2, x2, tl2, tc2, ts2, tv2, gh2, mc2, md2, ml2, mf2, tn2, to2, tp2, tk2, mo2, mt2, ?_, ?_, i3, i4, by omega, i6, i7, i8, i9, i10, fun q hq => ?_, fun q hq => ?_, fun w => (i13 w).trans (p8 w)⟩
      · rw [LLa_layAll_22, if_neg (nI_ge (by omega) (by omega)), l1]; exact i1
      · rw [l2]; exact i2
      · rw [i11 q (by omega), (p2 q (by omega)).1]
      · obtain ⟨u1, u2⟩ := p6 q hq
        obtain ⟨v1, v2⟩ := i12 q u2
        exact ⟨v1.trans u1, v2⟩
def qm_G (K A B C L TL TC gh md mf : Nat → Int32) (a i : Nat) : Prop :=
  (∀ m : Nat, m < a / 2 → qd_I gh md m ∨ ∃ j : Nat, j < i ∧ qk_mk K j ∧ mf j = nI (2 * m) ∧ pq_sh gh m = qc_s (FLa_halfOf (nI j) TL TC K A B C L)) ∧
  (∀ j : Nat, j < i → qk_mk K j → ∃ m : Nat, m < a / 2 ∧ mf j = nI (2 * m) ∧ pq_sh gh m = qc_s (FLa_halfOf (nI j) TL TC K A B C L))
/-- the second pass: the tables stay as the first has left them -/
theorem qm_two (hc : c ≤ 160) (hok : ∀ j : Nat, pu_ok (K j) (A j) (B j) (C j)) {TL TC : Nat → Int32} : ∀ (n i a x : Nat) (ts tv gh mc md ml mf : Nat → Int32) (tn to tp tk mo mt : Int32), i ≤ c → c < n + i → a % 2 = 0 → a + x ≤ 80 * i → qf_V K B ts tv TL ml to tn mo tk mt i x → vp_in to 160 → (∀ q : Nat, q < i → qm_hs K q → (∃ p : Nat, mf q = nI p ∧ p + 2 ≤ a ∧ p % 2 = 0) ∧ TL q = mf q) → (∀ q : Nat, q < i → ¬ qm_hs K q → mf q = -1) → (∀ q : Nat, q < i → K q = 10 → qk_se mo q i → qd_eq (TC q) (mc q)) →
    (∀ q : Nat, q < c → qm_hs K q → TL q = (LMo_reckon_22 n (nI c) K A B i (nI a) mo mt tp mc md ml mf).2.2.2.2.2.2.2.2 q) → (∀ q : Nat, q < c → K q = 10 → qk_se (LMo_reckon_22 n (nI c) K A B i (nI a) mo mt tp mc md ml mf).2.2.1 q c → TC q = (LMo_reckon_22 n (nI c) K A B i (nI a) mo mt tp mc md ml mf).2.2.2.2.2.1 q) →
    qm_G K A B C L TL TC gh md mf a i →
    ∃ (a' x' : Nat) (ts' tv' gh' mc' md' ml' mf' : Nat → Int32) (tn' to' tp' tk' mo' mt' : Int32),
      LLa_layAll_22 n 1 (nI c) K A B C L i TL TC ts tv tn to (nI a) tp tk gh = (c, TL, TC, ts', tv', tn', to', nI a', tp', tk', gh') ∧
      LMo_reckon_22 n (nI c) K A B i (nI a) mo mt tp mc md ml mf = (c, nI a', mo', mt', tp', mc', md', ml', mf') ∧ a' % 2 = 0 ∧ a' + x' ≤ 80 * c ∧ qf_V K B ts' tv' TL ml' to' tn' mo' tk' mt' c x' ∧ vp_in to' 160 ∧ qm_G K A B C L TL TC gh' md' mf' a' c := by
  intro n
  induction n with
  | zero => intro i a x ts tv gh mc md ml mf tn to tp tk mo mt h1 h2; omega
  | succ n ih =>
    intro i a x ts tv gh mc md ml mf tn to tp tk mo mt h1 h2 h3 h4 hV hto hA hB hT hF hC hG
    by_cases e : i = c
    · subst e
      refine ⟨a, x, ts, tv, gh, mc, md, ml, mf, tn, to, tp, tk, mo, mt, ?_, ?_, h3, h4, hV, hto, hG⟩
      · rw [LLa_layAll_22, if_pos (nI_le (Nat.le_refl i) (by omega))]
      · rw [LMo_reckon_22, if_pos (nI_le (Nat.le_refl i) (by omega))]
    · obtain ⟨a1, x1, tl1, tc1, ts1, tv1, gh1, mc1, md1, ml1, mf1, tn1, to1, tp1, tk1, mo1, mt1, l1, l2, l3, l4, l5, l6, p1, p2, p3, p4, p5, p6, p7, p8, p9⟩ := ql_line (A := A) (C := C) (L := L) (tc := TC) (mc := mc) (md := md) (mf := mf) (gh := gh) (tp := tp) (tw := 1) (c := c) (by omega : i < c) hc (hok i) (Or.inr rfl) h3 h4 hV
      have hto1 : vp_in to1 160 := by
        rcases l6 with w | w
        · rw [w]; exact hto
        · rw [w]; exact pu_in (by omega) (by omega)
      have hA1 : ∀ q : Nat, q < i + 1 → qm_hs K q → (∃ p : Nat, mf1 q = nI p ∧ p + 2 ≤ a1 ∧ p % 2 = 0) ∧ tl1 q = mf1 q := by
        intro q q1 q2
        by_cases w : q = i
        · subst w; exact p3 q2
        · obtain ⟨⟨p, u1, u2, u4⟩, u3⟩ := hA q (by omega) q2
          obtain ⟨v1, v2⟩ := p2 q w
          exact ⟨⟨p, v1.trans u1, by omega, u4⟩, by rw [v1, v2, u3]⟩
      have hB1 : ∀ q : Nat, q < i + 1 → ¬ qm_hs K q → mf1 q = -1 := by
        intro q q1 q2
        by_cases w : q = i
        · subst w; exact (p4 (Classical.not_not.mp q2)).2
        · rw [(p2 q w).1]; exact hB q (by omega) q2
      have hT1 : ∀ q : Nat, q < i + 1 → K q = 10 → qk_se mo1 q (i + 1) → qd_eq (tc1 q) (mc1 q) := by
        intro q q1 q2 q3
        by_cases w : q = i
        · subst w; exact absurd q3 (p7 q2)
        · rcases p5 q with ⟨u1, u2, u3⟩ | ⟨_, _, u3, _⟩
          · rw [u1, u2]; exact hT q (by omega) q2 (u3 (by omega) q2 q3)
          · exact u3
      obtain ⟨_, _, _, _, _, _, _, mc2, _, _, mf2, _, _, _, _, mo2, _, _, s2, _, _, _, _, _, _, _, _, s11, s12, _⟩ := qm_one (A := A) (C := C) (L := L) (tw := 1) hc hok (Or.inr rfl) n (i + 1) a1 x1 tl1 tc1 ts1 tv1 gh1 mc1 md1 ml1 mf1 tn1 to1 tp1 tk1 mo1 mt1 (by omega) (by omega) l3 l4 l5 hto1 hA1 hB1 hT1
      rw [l2] at hF hC ⊢
      have hF' := hF
      have hC' := hC
      rw [s2] at hF' hC'
      have etl : tl1 = TL := by
        funext q
        by_cases w : q = i
        · subst w
          by_cases v : qm_hs K q
          · rw [(p3 v).2, ← s11 q (by omega)]; exact (hF' q (by omega) v).symm
          · rw [(p4 (Classical.not_not.mp v)).1]
        · exact (p2 q w).2
      have etc : tc1 = TC := by
        funext q
        rcases p5 q with ⟨u1, _, _⟩ | ⟨u1, u2, u3, u4⟩
        · exact u1
        · obtain ⟨v1, v2⟩ := s12 q u4
          rw [u3.1, ← v1]; exact (hC' q (by omega) u2 v2).symm
      rw [etl, etc] at l1 p9
      rw [etl] at l5 hA1
      rw [etc] at hT1
      obtain ⟨g1, g2, g3⟩ := p9 rfl
      have hG1 : qm_G K A B C L TL TC gh1 md1 mf1 a1 (i + 1) := by
        refine ⟨fun m hm => ?_, fun j hj hk => ?_⟩
        · rcases Nat.lt_or_ge m (a / 2) with w | w
          · obtain ⟨u1, u2⟩ := g1 m w
            rcases hG.1 m w with ⟨h, v1, v2, v3⟩ | ⟨j, v1, v2, v3, v4⟩
            · exact Or.inl ⟨h, v1, u2.trans v2, u1.trans v3⟩
            · exact Or.inr ⟨j, by omega, v2, (p2 j (by omega)).1.trans v3, u1.trans v4⟩
          · rcases g2 m w hm with u | ⟨u1, u2, u3⟩
            · exact Or.inl u
            · exact Or.inr ⟨i, by omega, u1, u2, u3⟩
        · by_cases w : j = i
          · subst w; exact g3 hk
          · obtain ⟨m, u1, u2, u3⟩ := hG.2 j (by omega) hk
            exact ⟨m, by omega, (p2 j w).1.trans u2, (g1 m u1).1.trans u3⟩
      obtain ⟨a2, x2, ts2, tv2, gh2, mc3, md2, ml2, mf3, tn2, to2, tp2, tk2, mo3, mt2, i1, i2, i3, i4, i5, i6, i7⟩ := ih (i + 1) a1 x1 ts1 tv1 gh1 mc1 md1 ml1 mf1 tn1 to1 tp1 tk1 mo1 mt1 (by omega) (by omega) l3 l4 l5 hto1 hA1 hB1 hT1 hF hC hG1
      refine ⟨a2, x2, ts2, tv2, gh2, mc3, md2, ml2, mf3, tn2, to2, tp2, tk2, mo3, mt2, ?_, i2, i3, i4, i5, i6, i7⟩
      rw [LLa_layAll_22, if_neg (nI_ge (by omega) (by omega)), l1]; exact i1
end

section
variable {K A B C L : Nat → Int32} {c : Nat}
/-- the last pool -/
theorem qn_pool {tw tn to tp tk mo mt : Int32} {tl tc ts tv gh mc md ml : Nat → Int32} {a x : Nat} (hc : c ≤ 160) (hw : tw = 0 ∨ tw = 1) (h2 : a % 2 = 0) (hb : a + x ≤ 80 * c) (hV : qf_V K B ts tv tl ml to tn mo tk mt c x) :
    ∃ (E : Nat) (tc' gh' mc' md' : Nat → Int32) (tn' tp' mo' mt' : Int32), FLa_putPool (nI c) tn to (nI a) tp tk tw tc ts tv K gh = (nI E, gh', tc', tn', tp') ∧ FMo_pool (nI c) (nI a) mo mt tp K B mc md = (nI E, mo', mt', tp', mc', md') ∧ E % 2 = 0 ∧ a ≤ E ∧ E ≤ 80 * c ∧
      (∀ q : Nat, (tc' q = tc q ∧ mc' q = mc q ∧ (q < c → K q = 10 → qk_se mo q c)) ∨ (q < c ∧ K q = 10 ∧ qd_eq (tc' q) (mc' q))) ∧ (∀ q : Nat, qk_se mo q c → mc' q = mc q) ∧ (tw = 0 → gh' = gh) ∧
      (tw = 1 → (∀ m : Nat, m < a / 2 → pq_sh gh' m = pq_sh gh m ∧ md' m = md m) ∧ ∀ m : Nat, a / 2 ≤ m → m < E / 2 → qd_I gh' md' m) := by
  rcases hV with ⟨v1, v2, v3⟩ | ⟨f, N, b, h1, h3, h4, h5, h6, h7, h8, h9, h10, h11, h12, h13⟩
  · refine ⟨a, tc, gh, mc, md, tn, tp, mo, mt, ?_, ?_, h2, Nat.le_refl a, by omega, fun q => Or.inl ⟨rfl, rfl, fun q1 _ => Or.inl ⟨v2, q1⟩⟩, fun q _ => rfl, fun _ => rfl, fun _ => ⟨fun m _ => ⟨rfl, rfl⟩, fun m m1 m2 => by omega⟩⟩
    · unfold FLa_putPool; rw [if_pos v1]
    · unfold FMo_pool; rw [if_pos v2]
  · have hN0 := qf_g0 (B := B) h1 (by omega) h7
    have hNl := qa_le (K := K) (B := B) (f := f) c
    obtain ⟨gp, tc', mc', md', p1, p2, p3, p4, p5, p6⟩ := qe_pool (K := K) (B := B) (ts := ts) (tv := tv) (tc := tc) (mc := mc) (md := md) (gh := gh) (tw := tw) (tk := tk) (tp := tp) (mp := tp) (f := f) (k := c) (a := a) (N := N) (by omega) h1 (by omega) h2 hw h5 (by omega) h8
    have hT : qe_T tk a ≤ a + 4 ∧ a ≤ qe_T tk a ∧ qe_T tk a % 4 = 0 := by
      unfold qe_T
      split <;> omega
    obtain ⟨t1, t2, t3⟩ := hT
    generalize qe_T tk a = T at p1 p2 p6 t1 t2 t3
    refine ⟨T + 4 * N, tc', gp, mc', md', 0, tp + 1, -1, 14, ?_, ?_, by omega, by omega, by omega, fun q => ?_, fun q hq => ?_, p5, fun w => p6 w (by omega)⟩
    · rw [h6, h3]; exact p1
    · rw [h4, ← h9]; exact p2
    · by_cases w : f ≤ q ∧ q < c ∧ K q = 10
      · exact Or.inr ⟨w.2.1, w.2.2, p3 q w.1 w.2.1 w.2.2⟩
      · obtain ⟨u1, u2⟩ := p4 q w
        refine Or.inl ⟨u1, u2, fun q1 q2 => Or.inr ⟨f, h1, h4, ?_⟩⟩
        rcases Nat.lt_or_ge q f with v | v
        · exact v
        · exact absurd ⟨v, q1, q2⟩ w
    · have hqf : q < f := by
        rcases hq with ⟨s1, s2⟩ | ⟨g, s1, s2, s3⟩
        · rw [h4] at s1; exact absurd s1 (qk_m1 (by omega))
        · rw [h4] at s2
          have := qk_inj (by omega) (by omega) s2
          omega
      exact (p4 q (fun w => by omega)).2
theorem qn_first (hc : c ≤ 160) (hok : ∀ j : Nat, pu_ok (K j) (A j) (B j) (C j)) (to : Int32) (hto : vp_in to 160) (tl tc ts tv gh mc md ml mf : Nat → Int32) :
    ∃ (E : Nat) (tl1 tc1 ts1 tv1 mcF mdF mlF mfF : Nat → Int32) (tn1 to1 tp1 tk1 moF mtF : Int32),
      FLa_layAll to 0 tl tc ts tv (nI c) K A B C L gh = (tl1, tc1, ts1, tv1, tn1, to1, nI E, tp1, tk1, gh) ∧ FMo_reckon (nI c) K A B mf ml mc md = (nI E, moF, mtF, tp1, mcF, mdF, mlF, mfF) ∧ E % 2 = 0 ∧ E ≤ 80 * c ∧ vp_in to1 160 ∧
      (∀ q : Nat, q < c → qm_hs K q → (∃ p : Nat, mfF q = nI p ∧ p + 2 ≤ E ∧ p % 2 = 0) ∧ tl1 q = mfF q) ∧ (∀ q : Nat, q < c → ¬ qm_hs K q → mfF q = -1) ∧ (∀ q : Nat, q < c → K q = 10 → qd_eq (tc1 q) (mcF q)) := by
  have e1 : (nI c).toInt.toNat = c := by rw [nI_toInt (by omega)]; omega
  obtain ⟨a, x, tl', tc', ts', tv', gh', mc', md', ml', mf', tn', to', tp', tk', mo', mt', i1, i2, i3, i4, i5, i6, i7, i8, i9, i10, i11, i12, i13⟩ := qm_one (A := A) (C := C) (L := L) (K := K) (B := B) (tw := 0) hc hok (Or.inl rfl) (c + 1) 0 0 0 tl tc ts tv gh mc md ml mf 0 to 0 (-1) (-1) (-1) (by omega) (by omega) (by omega) (by omega) (Or.inl ⟨rfl, rfl, rfl⟩) hto (fun q hq => by omega) (fun q hq => by omega) (fun q hq => by omega)
  obtain ⟨E, tc2, gh2, mc2, md2, tn2, tp2, mo2, mt2, j1, j2, j3, j4, j5, j6, j7, j8, j9⟩ := qn_pool (K := K) (B := B) (tc := tc') (mc := mc') (md := md') (gh := gh') (tp := tp') (tw := 0) hc (Or.inl rfl) i3 i4 i6
  have g : gh2 = gh := (j8 rfl).trans (i13 rfl)
  refine ⟨E, tl', tc2, ts', tv', mc2, md2, ml', mf', tn2, to', tp2, tk', mo2, mt2, ?_, ?_, j3, j5, i7, ?_, i9, ?_⟩
  · unfold FLa_layAll
    rw [e1, show (0 : Int32) = nI 0 from rfl] at *
    rw [i1]
    simp only
    rw [j1, g]
  · unfold FMo_reckon
    rw [e1, show (0 : Int32) = nI 0 from rfl] at *
    rw [i2]
    simp only
    rw [j2]
  · intro q q1 q2
    obtain ⟨⟨p, u1, u2, u4⟩, u3⟩ := i8 q q1 q2
    exact ⟨⟨p, u1, by omega, u4⟩, u3⟩
  · intro q q1 q2
    rcases j6 q with ⟨u1, u2, u3⟩ | ⟨_, _, u3⟩
    · rw [u1, u2]; exact i10 q q1 q2 (u3 q1 q2)
    · exact u3
theorem qn_second (hc : c ≤ 160) (hok : ∀ j : Nat, pu_ok (K j) (A j) (B j) (C j)) (to : Int32) (hto : vp_in to 160) (TL TC ts tv gh mc md ml mf : Nat → Int32) {E : Nat} {mcF mdF mlF mfF : Nat → Int32} {tpF moF mtF : Int32} (hR : FMo_reckon (nI c) K A B mf ml mc md = (nI E, moF, mtF, tpF, mcF, mdF, mlF, mfF)) (hE : E < 2 ^ 20)
    (hF : ∀ q : Nat, q < c → qm_hs K q → TL q = mfF q) (hC : ∀ q : Nat, q < c → K q = 10 → TC q = mcF q) :
    ∃ (ts2 tv2 gh2 : Nat → Int32) (tn2 to2 tk2 : Int32), FLa_layAll to 1 TL TC ts tv (nI c) K A B C L gh = (TL, TC, ts2, tv2, tn2, to2, nI E, tpF, tk2, gh2) ∧ vp_in to2 160 ∧ qm_G K A B C L TL TC gh2 mdF mfF E c := by
  have e1 : (nI c).toInt.toNat = c := by rw [nI_toInt (by omega)]; omega
  unfold FMo_reckon at hR
  rw [e1, show (0 : Int32) = nI 0 from rfl] at hR
  obtain ⟨a, x, tl', tc', ts', tv', gh', mc', md', ml', mf', tn', to', tp', tk', mo', mt', i1, i2, i3, i4, i5, i6, i7, i8, i9, i10, i11, i12, i13⟩ := qm_one (A := A) (C := C) (L := L) (K := K) (B := B) (tw := 0) hc hok (Or.inl rfl) (c + 1) 0 0 0 TL TC ts tv gh mc md ml mf 0 to 0 (-1) (-1) (-1) (by omega) (by omega) (by omega) (by omega) (Or.inl ⟨rfl, rfl, rfl⟩) hto (fun q hq => by omega) (fun q hq => by omega) (fun q hq => by omega)
  obtain ⟨E1, tc1, gh1, mc1, md1, tn1, tp1, mo1, mt1, j1, j2, j3, j4, j5, j6, j7, j8, j9⟩ := qn_pool (K := K) (B := B) (tc := tc') (mc := mc') (md := md') (gh := gh') (tp := tp') (tw := 0) hc (Or.inl rfl) i3 i4 i6
  have hR2 : (nI E1, mo1, mt1, tp1, mc1, md1, ml', mf') = (nI E, moF, mtF, tpF, mcF, mdF, mlF, mfF) := by
    rw [← hR]
    rw [show (0 : Int32) = nI 0 from rfl] at i2
    rw [i2]
    simp only
    rw [j2]
  injection hR2 with r1 r2
  injection r2 with r2 r3
  injection r3 with r3 r4
  injection r4 with r4 r5
  injection r5 with r5 r6
  injection r6 with r6 r7
  injection r7 with r7 r8
  have r1 : E1 = E := qk_inj (by omega) hE r1
  subst r1 r2 r3 r4 r5 r6 r7 r8
  obtain ⟨a2, x2, ts2, tv2, gh2, mc2, md2, ml2, mf2, tn2, to2, tp2, tk2, mo2, mt2, k1, k2, k3, k4, k5, k6, k7⟩ := qm_two (A := A) (C := C) (L := L) (K := K) (B := B) (TL := TL) (TC := TC) hc hok (c + 1) 0 0 0 ts tv gh mc md ml mf 0 to 0 (-1) (-1) (-1) (by omega) (by omega) (by omega) (by omega) (Or.inl ⟨rfl, rfl, rfl⟩) hto (fun q hq => by omega) (fun q hq => by omega) (fun q hq => by omega)
    (by rw [i2]; exact hF) (by
      rw [i2]
      intro q q1 q2 q3
      rw [hC q q1 q2]; exact j7 q q3) ⟨fun m hm => by omega, fun j hj => by omega⟩
  rw [i2] at k2
  injection k2 with _ k2
  injection k2 with y1 k2
  injection k2 with y2 k2
  injection k2 with y3 k2
  injection k2 with y4 k2
  injection k2 with y5 k2
  injection k2 with y6 k2
  injection k2 with y7 y8
  have y1 : a = a2 := qk_inj (by omega) (by omega) y1
  subst y1 y2 y3 y4 y5 y6 y7 y8
  obtain ⟨E2, tc3, gh3, mc3, md3, tn3, tp3, mo3, mt3, l1, l2, l3, l4, l5, l6, l7, l8, l9⟩ := qn_pool (K := K) (B := B) (tc := TC) (mc := mc') (md := md') (gh := gh2) (tp := tp') (tw := 1) hc (Or.inr rfl) k3 k4 k5
  rw [j2] at l2
  injection l2 with z1 l2
  injection l2 with z2 l2
  injection l2 with z3 l2
  injection l2 with z4 l2
  injection l2 with z5 z6
  have z1 : E1 = E2 := qk_inj (by omega) (by omega) z1
  subst z1 z2 z3 z4 z5 z6
  have etc : tc3 = TC := by
    funext q
    rcases l6 q with ⟨u1, _, _⟩ | ⟨u1, u2, u3⟩
    · exact u1
    · rw [u3.1]; exact (hC q u1 u2).symm
  rw [etc] at l1
  obtain ⟨g1, g2⟩ := l9 rfl
  refine ⟨ts2, tv2, gh3, tn3, to2, tk2, ?_, k6, fun m hm => ?_, fun j hj hk => ?_⟩
  · unfold FLa_layAll
    rw [e1, show (0 : Int32) = nI 0 from rfl] at *
    rw [k1]
    simp only
    rw [l1]
  · rcases Nat.lt_or_ge m (a / 2) with w | w
    · obtain ⟨u1, u2⟩ := g1 m w
      rcases k7.1 m w with ⟨h, v1, v2, v3⟩ | ⟨j, v1, v2, v3, v4⟩
      · exact Or.inl ⟨h, v1, u2.trans v2, u1.trans v3⟩
      · exact Or.inr ⟨j, v1, v2, v3, u1.trans v4⟩
    · exact Or.inl (g2 m w hm)
  · obtain ⟨m, u1, u2, u3⟩ := k7.2 j hj hk
    exact ⟨m, by omega, u2, (g1 m u1).1.trans u3⟩
end
