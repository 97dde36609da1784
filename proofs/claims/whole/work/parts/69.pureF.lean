/-- what waits: nothing, or the constants since line f; x is the room that their pool may still take -/
def qf_V (K B ts tv tl ml : Nat → Int32) (to tn mo tk mt : Int32) (i x : Nat) : Prop :=
  (tn = 0 ∧ mo = -1 ∧ x = 0) ∨ ∃ f N b : Nat, f < i ∧ to = nI f ∧ mo = nI f ∧ N = qa_c K B f i ∧ tn = nI N ∧ K f = 10 ∧ qd_W K B ts tv f i ∧ tk = mt ∧ b < 2 ^ 14 ∧ tl f = nI b ∧ ml f = nI b ∧ x = 4 + 4 * N
theorem qf_g0 {K B : Nat → Int32} {f i : Nat} (hf : f < i) (hi : i < 2 ^ 20) (hK : K f = 10) : 0 < qa_c K B f i := by
  have g : qa_g K B f f := ⟨Nat.le_refl f, hK, fun w => by
    obtain ⟨r, a, b, _⟩ := (qa_fresh (by omega) (by omega)).mp w
    omega⟩
  have := qa_lt g hf
  omega
section
variable {K A B C L ts tv tl tc mc md ml mf gh : Nat → Int32} {tw tk tp to tn mo mt mp : Int32} {i a x j H : Nat}
/-- is a pool due: both ask the same -/
theorem qf_due (hi : i ≤ 160) (ha : a < 2 ^ 14) (h2 : a % 2 = 0) (hV : qf_V K B ts tv tl ml to tn mo tk mt i x) :
    (FLa_isPoolDue tn to (nI a) tl = 0 ∧ (mo = -1 ∨ (¬ mo = -1 ∧ (FMo_up (nI a + 4)) - (FMo_base (ml mo.toNatClampNeg)) ≤ 1020))) ∨
    (¬ FLa_isPoolDue tn to (nI a) tl = 0 ∧ ¬ mo = -1 ∧ ¬ (FMo_up (nI a + 4)) - (FMo_base (ml mo.toNatClampNeg)) ≤ 1020 ∧ ∃ f N : Nat, f < i ∧ to = nI f ∧ mo = nI f ∧ N = qa_c K B f i ∧ 0 < N ∧ tn = nI N ∧ qd_W K B ts tv f i ∧ tk = mt ∧ x = 4 + 4 * N) := by
  rcases hV with ⟨e1, e2, e3⟩ | ⟨f, N, b, h1, h3, h4, h5, h6, h7, h8, h9, h10, h11, h12, h13⟩
  · refine Or.inl ⟨?_, Or.inl e2⟩
    unfold FLa_isPoolDue
    rw [e1, if_pos (by decide)]
  · have hN := qf_g0 (B := B) h1 (by omega) h7
    have hNl := qa_le (K := K) (B := B) (f := f) i
    have f0 : ¬ nI f = -1 := fun w => absurd (show nI f < 0 by rw [w]; decide) (nI_pos (by omega))
    have u := qc_up (a := a + 4) (by omega) (by omega)
    have q4 : nI a + 4 = nI (a + 4) := nI_add a 4
    unfold FLa_isPoolDue
    rw [h6, if_neg (nI_nle (by omega) (by omega)), h3, h4, nI_clamp (by omega), h11, h12, q4, u.1, u.2, pl_base (by omega), pl_mbase (by omega)]
    by_cases c : nI ((a + 4 + 3) / 4 * 4) - nI ((b + 4) / 4 * 4) ≤ 1020
    · rw [if_pos c]
      exact Or.inl ⟨rfl, Or.inr ⟨f0, c⟩⟩
    · rw [if_neg c]
      exact Or.inr ⟨by decide, f0, c, f, N, h1, rfl, rfl, h5, by omega, rfl, h8, h9, h13⟩
end

abbrev qg_tl (j : Nat) (tl : Nat → Int32) (i : Nat) (v : Int32) : Nat → Int32 := if j = 0 then upd tl i v else tl
abbrev qg_v (tw h : Int32) : Int32 := if tw = 0 then 0 else h
section
variable {K A B C L ts tv tl tc mc md ml mf gh : Nat → Int32} {tw tk tp to tn mo mt mp ta me v w : Int32} {i a x j H : Nat}
theorem qg_c0 (hi : i < 2 ^ 20) (hj : j < 2 ^ 20) (h1 : ¬ w ≤ nI j) (hd : FLa_isPoolDue tn to ta tl = 0) (n : Nat) :
    LLa_layLine_22 (n + 1) (nI i) to tw ts tv K A B C L v w j tl tc tn tp ta tk gh = LLa_layLine_22 n (nI i) to tw ts tv K A B C L v w (j + 1) (qg_tl j tl i ta) tc tn tp (FLa_putHalf (qg_v tw (FLa_halfOf (nI i) (qg_tl j tl i ta) tc K A B C L)) ta tw gh).1 v (FLa_putHalf (qg_v tw (FLa_halfOf (nI i) (qg_tl j tl i ta) tc K A B C L)) ta tw gh).2 := by
  rw [LLa_layLine_22, if_neg h1, if_pos hd]
  by_cases c : j = 0
  · subst c
    rw [if_pos (show nI 0 = 0 from rfl)]
    unfold qg_tl qg_v
    rw [if_pos rfl, nI_clamp (by omega)]
    by_cases d : tw = 0
    · rw [if_pos d, if_pos d]
    · rw [if_neg d, if_neg d]
  · rw [if_neg (nI_ne0 (by omega) (by omega))]
    unfold qg_tl qg_v
    rw [if_neg c]
    by_cases d : tw = 0
    · rw [if_pos d, if_pos d]
    · rw [if_neg d, if_neg d]
theorem qg_c1 (hi : i < 2 ^ 20) (hj : j < 2 ^ 20) (h1 : ¬ w ≤ nI j) (hd : ¬ FLa_isPoolDue tn to ta tl = 0) {pa pn pp : Int32} {pg pc : Nat → Int32} (hP : FLa_putPool (nI i) tn to ta tp tk tw tc ts tv K gh = (pa, pg, pc, pn, pp)) (n : Nat) :
    LLa_layLine_22 (n + 1) (nI i) to tw ts tv K A B C L v w j tl tc tn tp ta tk gh = LLa_layLine_22 n (nI i) to tw ts tv K A B C L v w (j + 1) (qg_tl j tl i pa) pc pn pp (FLa_putHalf (qg_v tw (FLa_halfOf (nI i) (qg_tl j tl i pa) pc K A B C L)) pa tw pg).1 v (FLa_putHalf (qg_v tw (FLa_halfOf (nI i) (qg_tl j tl i pa) pc K A B C L)) pa tw pg).2 := by
  rw [LLa_layLine_22, if_neg h1, if_neg hd, hP]
  by_cases c : j = 0
  · subst c
    rw [if_pos (show nI 0 = 0 from rfl)]
    unfold qg_tl qg_v
    rw [if_pos rfl, nI_clamp (by omega)]
    by_cases d : tw = 0
    · rw [if_pos d, if_pos d]
    · rw [if_neg d, if_neg d]
  · rw [if_neg (nI_ne0 (by omega) (by omega))]
    unfold qg_tl qg_v
    rw [if_neg c]
    by_cases d : tw = 0
    · rw [if_pos d, if_pos d]
    · rw [if_neg d, if_neg d]
theorem qg_self (f : Nat → Int32) (k : Nat) : upd f k (f k) = f := by
  funext q
  by_cases e : q = k
  · subst e; exact pk_us
  · exact pk_un e
theorem qg_p0 (hi : i < 2 ^ 20) (hc : (j = 0 ∧ mf i = -1) ∨ (¬ j = 0 ∧ ¬ mf i = -1)) (hd : mo = -1 ∨ (¬ mo = -1 ∧ (FMo_up (me + 4)) - (FMo_base (ml mo.toNatClampNeg)) ≤ 1020)) :
    FMo_place (nI i) me mo mt mp K B mf ml mc md = (me + 2, mo, K i, mp, mc, md, upd ml i me, qg_tl j mf i me) := by
  unfold FMo_place qg_tl
  rw [nI_clamp (by omega), qg_self]
  rcases hc with ⟨c1, c2⟩ | ⟨c1, c2⟩
  · rw [if_pos c2, if_pos c1]
    rcases hd with d | ⟨d1, d2⟩
    · rw [if_pos d]
    · rw [if_neg d1, if_pos d2]
  · rw [if_neg c2, if_neg c1]
    rcases hd with d | ⟨d1, d2⟩
    · rw [if_pos d]
    · rw [if_neg d1, if_pos d2]
theorem qg_p1 (hi : i < 2 ^ 20) (hc : (j = 0 ∧ mf i = -1) ∨ (¬ j = 0 ∧ ¬ mf i = -1)) (d1 : ¬ mo = -1) (d2 : ¬ (FMo_up (me + 4)) - (FMo_base (ml mo.toNatClampNeg)) ≤ 1020) {pe po pt pp : Int32} {pc pd : Nat → Int32} (hP : FMo_pool (nI i) me mo mt mp K B mc md = (pe, po, pt, pp, pc, pd)) :
    FMo_place (nI i) me mo mt mp K B mf ml mc md = (pe + 2, po, K i, pp, pc, pd, upd ml i pe, qg_tl j mf i pe) := by
  unfold FMo_place qg_tl
  rw [nI_clamp (by omega), qg_self, if_neg d1, if_neg d2, hP]
  rcases hc with ⟨c1, c2⟩ | ⟨c1, c2⟩
  · rw [if_pos c2, if_pos c1]
  · rw [if_neg c2, if_neg c1]
abbrev qg_md (K : Nat → Int32) (i : Nat) (md : Nat → Int32) (p : Int32) : Nat → Int32 := if K i = 13 then FMo_write p 18112 md else md
theorem qg_r (hi : i < 2 ^ 20) (h1 : ¬ w ≤ nI j) {pe po pt pp p : Int32} {pc pd pf : Nat → Int32} (hP : FMo_place (nI i) me mo mt mp K B mf ml mc md = (pe, po, pt, pp, pc, pd, upd ml i p, pf)) (n : Nat) :
    LMo_reckon_108 (n + 1) K B i w j me mo mt mp mc md ml mf = LMo_reckon_108 n K B i w (j + 1) pe po pt pp pc (qg_md K i pd p) (upd ml i p) pf := by
  rw [LMo_reckon_108, if_neg h1, hP, nI_clamp (by omega)]
  unfold qg_md
  by_cases c : K i = 13
  · rw [if_pos c, if_pos c]; simp only [pk_us]
  · rw [if_neg c, if_neg c]
end

/-- what a pool, or none, does to the two tables of constants -/
def qh_P (K : Nat → Int32) (i : Nat) (mo tn mo' tn' : Int32) (tc mc tc' mc' : Nat → Int32) : Prop :=
  (tc' = tc ∧ mc' = mc ∧ mo' = mo ∧ tn' = tn) ∨ ∃ f : Nat, f < i ∧ mo = nI f ∧ mo' = -1 ∧ tn' = 0 ∧ (∀ q : Nat, f ≤ q → q < i → K q = 10 → qd_eq (tc' q) (mc' q)) ∧ ∀ q : Nat, ¬ (f ≤ q ∧ q < i ∧ K q = 10) → tc' q = tc q ∧ mc' q = mc q
section
variable {K A B C L ts tv tl tc mc md ml mf gh : Nat → Int32} {tw tk tp to tn mo mt : Int32} {i a x j H : Nat}
theorem qh_it (hi : i < 160) (hH : H ≤ 40) (hj : j < H) (hw : tw = 0 ∨ tw = 1) (h2 : a % 2 = 0) (hb : a + x ≤ 80 * i + 2 * j) (hV : qf_V K B ts tv tl ml to tn mo tk mt i x) (hc : (j = 0 ∧ mf i = -1) ∨ (¬ j = 0 ∧ ¬ mf i = -1)) (n : Nat) :
    ∃ (p x' : Nat) (tc' gh' mc' md' : Nat → Int32) (tn' mo' tp' : Int32),
      LLa_layLine_22 (n + 1) (nI i) to tw ts tv K A B C L (K i) (nI H) j tl tc tn tp (nI a) tk gh = LLa_layLine_22 n (nI i) to tw ts tv K A B C L (K i) (nI H) (j + 1) (qg_tl j tl i (nI p)) tc' tn' tp' (nI (p + 2)) (K i) gh' ∧
      LMo_reckon_108 (n + 1) K B i (nI H) j (nI a) mo mt tp mc md ml mf = LMo_reckon_108 n K B i (nI H) (j + 1) (nI (p + 2)) mo' (K i) tp' mc' md' (upd ml i (nI p)) (qg_tl j mf i (nI p)) ∧
      a ≤ p ∧ p % 2 = 0 ∧ p + 2 + x' ≤ 80 * i + 2 * (j + 1) ∧ qf_V K B ts tv (qg_tl j tl i (nI p)) (upd ml i (nI p)) to tn' mo' (K i) (K i) i x' ∧ qh_P K i mo tn mo' tn' tc mc tc' mc' ∧
      (tw = 0 → gh' = gh) ∧ (tw = 1 → (∀ m : Nat, m < a / 2 → pq_sh gh' m = pq_sh gh m ∧ md' m = md m) ∧ (∀ m : Nat, a / 2 ≤ m → m < p / 2 → qd_I gh' md' m) ∧ pq_sh gh' (p / 2) = qc_s (FLa_halfOf (nI i) (qg_tl j tl i (nI p)) tc' K A B C L) ∧ (K i = 13 → md' (p / 2) = (18112 : Int32) &&& 65535)) := by
  have h1 : ¬ nI H ≤ nI j := nI_ge hj (by omega)
  have hmd : ∀ (p : Nat) (d : Nat → Int32), p < 2 ^ 20 → (∀ m : Nat, m ≠ p / 2 → qg_md K i d (nI p) m = d m) ∧ (K i = 13 → qg_md K i d (nI p) (p / 2) = (18112 : Int32) &&& 65535) := by
    intro p d hp
    unfold qg_md
    by_cases c : K i = 13
    · rw [if_pos c, qb_w (by omega)]
      exact ⟨fun m hm => pk_un hm, fun _ => pk_us⟩
    · rw [if_neg c]
      exact ⟨fun m _ => rfl, fun w => absurd w c⟩
  have htl : ∀ (p f : Nat), f < i → qg_tl j tl i (nI p) f = tl f := by
    intro p f hf
    unfold qg_tl
    by_cases c : j = 0
    · rw [if_pos c, pk_un (by omega)]
    · rw [if_neg c]
  rcases qf_due (by omega) (by omega) h2 hV with ⟨d1, d2⟩ | ⟨d1, d2, d3, f, N, f1, f2, f3, f4, f5, f6, f7, f8, f9⟩
  · obtain ⟨g1, g2, g3⟩ := qc_h (t := a) (by omega) hw (qg_v tw (FLa_halfOf (nI i) (qg_tl j tl i (nI a)) tc K A B C L)) gh
    obtain ⟨m1, m2⟩ := hmd a md (by omega)
    refine ⟨a, x, tc, (FLa_putHalf (qg_v tw (FLa_halfOf (nI i) (qg_tl j tl i (nI a)) tc K A B C L)) (nI a) tw gh).2, mc, qg_md K i md (nI a), tn, mo, tp, ?_, ?_, Nat.le_refl a, h2, by omega, ?_, Or.inl ⟨rfl, rfl, rfl, rfl⟩, g2, fun hw1 => ?_⟩
    · rw [qg_c0 (by omega) (by omega) h1 d1 n, g1]
    · rw [qg_r (by omega) h1 (qg_p0 (by omega) hc d2) n, show nI a + 2 = nI (a + 2) from nI_add a 2]
    · rcases hV with e | ⟨f, N, b, q1, q2, q3, q4, q5, q6, q7, q8, q9, q10, q11, q12⟩
      · exact Or.inl e
      · exact Or.inr ⟨f, N, b, q1, q2, q3, q4, q5, q6, q7, rfl, q9, (htl a f q1).trans q10, (pk_un (by omega)).trans q11, q12⟩
    · have g4 := g3 hw1 (by omega)
      rw [g4]
      refine ⟨fun m hm => ⟨pk_un (by omega), m1 m (by omega)⟩, fun m a1 a2 => by omega, ?_, m2⟩
      rw [pk_us]
      unfold qg_v
      rw [if_neg (by rw [hw1]; decide)]
  · obtain ⟨gp, tc', mc', md', p1, p2, p3, p4, p5, p6⟩ := qe_pool (K := K) (B := B) (ts := ts) (tv := tv) (tc := tc) (mc := mc) (md := md) (gh := gh) (tw := tw) (tk := tk) (tp := tp) (mp := tp) (f := f) (k := i) (a := a) (N := N) (by omega) f1 (by omega) h2 hw f4 f5 f7
    have hNl := qa_le (K := K) (B := B) (f := f) i
    have hT : qe_T tk a ≤ a + 4 ∧ a ≤ qe_T tk a ∧ qe_T tk a % 4 = 0 := by
      unfold qe_T
      split <;> omega
    obtain ⟨t1, t2, t3⟩ := hT
    generalize qe_T tk a = T at p1 p2 p6 t1 t2 t3
    obtain ⟨g1, g2, g3⟩ := qc_h (t := T + 4 * N) (by omega) hw (qg_v tw (FLa_halfOf (nI i) (qg_tl j tl i (nI (T + 4 * N))) tc' K A B C L)) gp
    obtain ⟨m1, m2⟩ := hmd (T + 4 * N) md' (by omega)
    refine ⟨T + 4 * N, 0, tc', (FLa_putHalf (qg_v tw (FLa_halfOf (nI i) (qg_tl j tl i (nI (T + 4 * N))) tc' K A B C L)) (nI (T + 4 * N)) tw gp).2, mc', qg_md K i md' (nI (T + 4 * N)), 0, -1, tp + 1, ?_, ?_, by omega, by omega, by omega, Or.inl ⟨rfl, rfl, rfl⟩, Or.inr ⟨f, f1, f3, rfl, rfl, p3, p4⟩, fun h => (g2 h).trans (p5 h), fun hw1 => ?_⟩
    · rw [f6, f2] at d1 ⊢
      rw [qg_c1 (by omega) (by omega) h1 d1 p1 n, g1]
    · rw [← f8] at *
      rw [f3] at d2 d3 ⊢
      rw [qg_r (by omega) h1 (qg_p1 (by omega) hc d2 d3 p2) n, show nI (T + 4 * N) + 2 = nI (T + 4 * N + 2) from nI_add _ 2]
    · have g4 := g3 hw1 (by omega)
      obtain ⟨q1, q2⟩ := p6 hw1 (by omega)
      have e2 : (T + 4 * N) / 2 = T / 2 + 2 * N := by omega
      refine ⟨fun m hm => ?_, fun m a1 a2 => ?_, ?_, m2⟩
      · rw [g4, pk_un (by omega), m1 m (by omega)]; exact q1 m hm
      · obtain ⟨h, b1, b2, b3⟩ := q2 m a1 a2
        exact ⟨h, b1, (m1 m (by omega)).trans b2, by rw [g4, pk_un (by omega)]; exact b3⟩
      · rw [g4, pk_us]
        unfold qg_v
        rw [if_neg (by rw [hw1]; decide)]
end

theorem qi_trans {K : Nat → Int32} {i : Nat} {mo tn mo1 tn1 mo2 tn2 : Int32} {tc mc tc1 mc1 tc2 mc2 : Nat → Int32} (hi : i < 2 ^ 20) (h : qh_P K i mo tn mo1 tn1 tc mc tc1 mc1) (g : qh_P K i mo1 tn1 mo2 tn2 tc1 mc1 tc2 mc2) : qh_P K i mo tn mo2 tn2 tc mc tc2 mc2 := by
  rcases h with ⟨rfl, rfl, rfl, rfl⟩ | ⟨f, h1, h2, h3, h4, h5, h6⟩
  · exact g
  · rcases g with ⟨rfl, rfl, rfl, rfl⟩ | ⟨e, g1, g2, _⟩
    · exact Or.inr ⟨f, h1, h2, h3, h4, h5, h6⟩
    · rw [h3] at g2
      exact absurd (show nI e < 0 by rw [← g2]; decide) (nI_pos (by omega))
theorem qi_h13 {K A B C L tl tc : Nat → Int32} {i : Nat} (hi : i < 2 ^ 20) (h : K i = 13) : FLa_halfOf (nI i) tl tc K A B C L = 18112 := by
  unfold FLa_halfOf
  rw [nI_clamp (by omega), h]
  rfl
section
variable {K A B C L ts tv : Nat → Int32} {tw to : Int32} {i H : Nat}
/-- the halves of a gap -/
theorem qi_gap (hi : i < 160) (hH : H ≤ 40) (hw : tw = 0 ∨ tw = 1) (hK : K i = 13) : ∀ (n j a x : Nat) (tl tc mc md ml mf gh : Nat → Int32) (tk tp tn mo mt : Int32), j ≤ H → H < n + j → a % 2 = 0 → a + x ≤ 80 * i + 2 * j → qf_V K B ts tv tl ml to tn mo tk mt i x → ((j = 0 ∧ mf i = -1) ∨ (¬ j = 0 ∧ ¬ mf i = -1)) →
    ∃ (p b x' : Nat) (tc' gh' mc' md' ml' : Nat → Int32) (tn' mo' tp' tk' mt' : Int32),
      LLa_layLine_22 n (nI i) to tw ts tv K A B C L (K i) (nI H) j tl tc tn tp (nI a) tk gh = (H, (if j < H then qg_tl j tl i (nI p) else tl), tc', tn', tp', nI b, tk', gh') ∧
      LMo_reckon_108 n K B i (nI H) j (nI a) mo mt tp mc md ml mf = (H, nI b, mo', mt', tp', mc', md', ml', (if j < H then qg_tl j mf i (nI p) else mf)) ∧
      a ≤ b ∧ b % 2 = 0 ∧ b + x' ≤ 80 * i + 2 * H ∧ (j < H → a ≤ p ∧ p + 2 ≤ b ∧ p % 2 = 0) ∧ qf_V K B ts tv (if j < H then qg_tl j tl i (nI p) else tl) ml' to tn' mo' tk' mt' i x' ∧ qh_P K i mo tn mo' tn' tc mc tc' mc' ∧
      (tw = 0 → gh' = gh) ∧ (tw = 1 → (∀ m : Nat, m < a / 2 → pq_sh gh' m = pq_sh gh m ∧ md' m = md m) ∧ (∀ m : Nat, a / 2 ≤ m → m < b / 2 → qd_I gh' md' m)) ∧ (∀ q : Nat, q ≠ i → ml' q = ml q) := by
  intro n
  induction n with
  | zero => intro j a x tl tc mc md ml mf gh tk tp tn mo mt h1 h3; omega
  | succ n ih =>
    intro j a x tl tc mc md ml mf gh tk tp tn mo mt h1 h3 h4 h5 hV hc
    by_cases e : j = H
    · subst e
      refine ⟨0, a, x, tc, gh, mc, md, ml, tn, mo, tp, tk, mt, ?_, ?_, Nat.le_refl a, h4, h5, fun w => by omega, ?_, Or.inl ⟨rfl, rfl, rfl, rfl⟩, fun _ => rfl, fun _ => ⟨fun m _ => ⟨rfl, rfl⟩, fun m m1 m2 => by omega⟩, fun q _ => rfl⟩
      · rw [LLa_layLine_22, if_pos (nI_le (Nat.le_refl j) (by omega)), if_neg (by omega)]
      · rw [LMo_reckon_108, if_pos (nI_le (Nat.le_refl j) (by omega)), if_neg (by omega)]
      · rw [if_neg (by omega)]; exact hV
    · obtain ⟨p, x1, tc1, gh1, mc1, md1, tn1, mo1, tp1, a1, a2, a3, a4, a5, a6, a7, a8, a9⟩ := qh_it (A := A) (C := C) (L := L) (tc := tc) (mc := mc) (md := md) (mf := mf) (gh := gh) (tp := tp) hi hH (by omega : j < H) hw h4 h5 hV hc n
      have hc1 : (j + 1 = 0 ∧ qg_tl j mf i (nI p) i = -1) ∨ (¬ j + 1 = 0 ∧ ¬ qg_tl j mf i (nI p) i = -1) := by
        refine Or.inr ⟨by omega, ?_⟩
        unfold qg_tl
        rcases hc with ⟨c1, c2⟩ | ⟨c1, c2⟩
        · rw [if_pos c1, pk_us]
          exact fun w => absurd (show nI p < 0 by rw [w]; decide) (nI_pos (by omega))
        · rw [if_neg c1]; exact c2
      obtain ⟨p2, b, x2, tc2, gh2, mc2, md2, ml2, tn2, mo2, tp2, tk2, mt2, b1, b2, b3, b4, b5, b6, b7, b8, b9, b10, b11⟩ := ih (j + 1) (p + 2) x1 (qg_tl j tl i (nI p)) tc1 mc1 md1 (upd ml i (nI p)) (qg_tl j mf i (nI p)) gh1 (K i) tp1 tn1 mo1 (K i) (by omega) (by omega) (by omega) (by omega) a6 hc1
      have q1 : ∀ t : Nat → Int32, (if j + 1 < H then qg_tl (j + 1) t i (nI p2) else t) = t := by
        intro t
        by_cases w : j + 1 < H
        · rw [if_pos w]; exact if_neg (by omega)
        · rw [if_neg w]
      rw [q1] at b1 b2 b7
      refine ⟨p, b, x2, tc2, gh2, mc2, md2, ml2, tn2, mo2, tp2, tk2, mt2, ?_, ?_, by omega, b4, b5, fun _ => ⟨a3, by omega, a4⟩, ?_, qi_trans (by omega) a7 b8, fun h => (b9 h).trans (a8 h), fun h => ?_, fun q hq => (b11 q hq).trans (pk_un hq)⟩
      · rw [a1, b1, if_pos (by omega)]
      · rw [a2, b2, if_pos (by omega)]
      · rw [if_pos (by omega)]; exact b7
      · obtain ⟨c1, c2, c3, c4⟩ := a9 h
        obtain ⟨d1, d2⟩ := b10 h
        refine ⟨fun m hm => ?_, fun m m1 m2 => ?_⟩
        · obtain ⟨u1, u2⟩ := d1 m (by omega)
          obtain ⟨v1, v2⟩ := c1 m hm
          exact ⟨u1.trans v1, u2.trans v2⟩
        · rcases Nat.lt_or_ge m (p / 2) with w | w
          · obtain ⟨u1, u2⟩ := d1 m (by omega)
            obtain ⟨y, y1, y2, y3⟩ := c2 m m1 w
            exact ⟨y, y1, u2.trans y2, u1.trans y3⟩
          · rcases Nat.lt_or_ge (p / 2) m with w2 | w2
            · exact d2 m (by omega) m2
            · have : m = p / 2 := by omega
              subst this
              obtain ⟨u1, u2⟩ := d1 (p / 2) (by omega)
              refine qd_I_of (v := 18112) (u2.trans (c4 hK)) ?_
              rw [u1, c3, qi_h13 (by omega) hK]
/-- the one half of a line that makes one -/
theorem qi_one {a x : Nat} {tl tc mc md ml mf gh : Nat → Int32} {tk tp tn mo mt : Int32} (hi : i < 160) (hw : tw = 0 ∨ tw = 1) (h4 : a % 2 = 0) (h5 : a + x ≤ 80 * i) (hV : qf_V K B ts tv tl ml to tn mo tk mt i x) (hc : mf i = -1) :
    ∃ (p x' : Nat) (tc' gh' mc' md' : Nat → Int32) (tn' mo' tp' : Int32),
      LLa_layLine_22 2 (nI i) to tw ts tv K A B C L (K i) 1 0 tl tc tn tp (nI a) tk gh = (1, upd tl i (nI p), tc', tn', tp', nI (p + 2), K i, gh') ∧
      LMo_reckon_108 2 K B i 1 0 (nI a) mo mt tp mc md ml mf = (1, nI (p + 2), mo', K i, tp', mc', md', upd ml i (nI p), upd mf i (nI p)) ∧
      a ≤ p ∧ p % 2 = 0 ∧ p + 2 + x' ≤ 80 * i + 2 ∧ qf_V K B ts tv (upd tl i (nI p)) (upd ml i (nI p)) to tn' mo' (K i) (K i) i x' ∧ qh_P K i mo tn mo' tn' tc mc tc' mc' ∧
      (tw = 0 → gh' = gh) ∧ (tw = 1 → (∀ m : Nat, m < a / 2 → pq_sh gh' m = pq_sh gh m ∧ md' m = md m) ∧ (∀ m : Nat, a / 2 ≤ m → m < p / 2 → qd_I gh' md' m) ∧ pq_sh gh' (p / 2) = qc_s (FLa_halfOf (nI i) (upd tl i (nI p)) tc' K A B C L)) := by
  obtain ⟨p, x1, tc1, gh1, mc1, md1, tn1, mo1, tp1, a1, a2, a3, a4, a5, a6, a7, a8, a9⟩ := qh_it (A := A) (C := C) (L := L) (tc := tc) (mc := mc) (md := md) (mf := mf) (gh := gh) (tp := tp) (H := 1) (j := 0) hi (by omega) (by omega) hw h4 (by omega) hV (Or.inl ⟨rfl, hc⟩) 1
  have q1 : ∀ t : Nat → Int32, qg_tl 0 t i (nI p) = upd t i (nI p) := fun t => if_pos rfl
  simp only [q1] at a1 a2 a6 a9
  refine ⟨p, x1, tc1, gh1, mc1, md1, tn1, mo1, tp1, ?_, ?_, a3, a4, by omega, a6, a7, a8, fun h => ⟨(a9 h).1, (a9 h).2.1, (a9 h).2.2.1⟩⟩
  · refine Eq.trans a1 ?_
    rw [LLa_layLine_22, if_pos (nI_le (Nat.le_refl 1) (by omega))]
  · refine Eq.trans a2 ?_
    rw [LMo_reckon_108, if_pos (nI_le (Nat.le_refl 1) (by omega))]
end

theorem qj_find {N : Nat} {tv : Nat → Int32} {v : Int32} (hN : N < 2 ^ 20) : ∀ (n j : Nat), j ≤ N → N < n + j → j ≤ LLa_letWait_24 n (nI N) tv v j ∧ LLa_letWait_24 n (nI N) tv v j ≤ N ∧ (LLa_letWait_24 n (nI N) tv v j < N → tv (LLa_letWait_24 n (nI N) tv v j) = v) ∧ ∀ t : Nat, j ≤ t → t < LLa_letWait_24 n (nI N) tv v j → ¬ tv t = v := by
  intro n
  induction n with
  | zero => intro j h1 h3; omega
  | succ n ih =>
    intro j h1 h3
    rw [LLa_letWait_24]
    by_cases c : N ≤ j
    · rw [if_pos (nI_le c (by omega))]
      exact ⟨Nat.le_refl j, by omega, fun w => by omega, fun t a b => by omega⟩
    · rw [if_neg (nI_ge (by omega) (by omega)), nI_clamp (by omega)]
      by_cases d : tv j = v
      · rw [if_pos d]
        exact ⟨Nat.le_refl j, by omega, fun _ => d, fun t a b => by omega⟩
      · rw [if_neg d]
        obtain ⟨i1, i2, i3, i4⟩ := ih (j + 1) (by omega) (by omega)
        refine ⟨by omega, i2, i3, fun t a b => ?_⟩
        rcases Nat.lt_or_ge j t with w | w
        · exact i4 t w b
        · have : t = j := by omega
          subst this; exact d
section
variable {K B ts tv tl ml : Nat → Int32} {to tn mo tk mt : Int32} {i x : Nat}
/-- a constant's line waits -/
theorem qj_wait (hi : i < 160) (hK : K i = 10) (hV : qf_V K B ts tv tl ml to tn mo tk mt i x) {p : Nat} (hp : p < 2 ^ 14) (htl : tl i = nI p) (hml : ml i = nI p) (hkt : tk = mt) :
    ∃ (to' tn' : Int32) (ts' tv' : Nat → Int32) (x' : Nat), FLa_letWait (nI i) tn to ts tv B = (to', ts', tv', tn') ∧ qf_V K B ts' tv' tl ml to' tn' (if mo = -1 then nI i else mo) tk mt (i + 1) x' ∧ x' ≤ x + 8 ∧ (to' = to ∨ to' = nI i) := by
  rcases hV with ⟨e1, e2, e3⟩ | ⟨f, N, b, h1, h3, h4, h5, h6, h7, h8, h9, h10, h11, h12, h13⟩
  · have e0 : (tn.toInt.toNat + 1) = 1 := by rw [e1]; rfl
    have el : LLa_letWait_24 1 tn tv (B i) 0 = 0 := by
      rw [e1, LLa_letWait_24, if_pos (by decide)]
    have g : qa_g K B i i := ⟨Nat.le_refl i, hK, fun w => by
      obtain ⟨r, a, b, _⟩ := (qa_fresh (by omega) (by omega)).mp w
      omega⟩
    have c0 : qa_c K B i i = 0 := qa_c0 i (Nat.le_refl i)
    have c1 : qa_c K B i (i + 1) = 1 := by rw [qa_cs g, c0]
    refine ⟨nI i, tn + 1, upd ts i (nI 0), upd tv 0 (B i), 8, ?_, ?_, by omega, Or.inr rfl⟩
    · unfold FLa_letWait
      rw [if_pos e1, nI_clamp (by omega), e0, el, if_pos (show nI 0 = tn from e1.symm), if_neg (by rw [e1]; decide), nI_clamp (by omega)]
    · rw [if_pos e2]
      refine Or.inr ⟨i, 1, p, by omega, rfl, rfl, c1.symm, by rw [e1]; rfl, hK, ⟨?_, ?_⟩, hkt, hp, htl, hml, by omega⟩
      · intro q a1 a2 a3
        have : q = i := by omega
        subst this
        exact ⟨q, Nat.le_refl q, g, rfl, by rw [pk_us, c0]⟩
      · intro r a1 a2
        have : r = i := by have := a2.1; omega
        subst this
        rw [c0, pk_us]
  · have hNl := qa_le (K := K) (B := B) (f := f) i
    have hN0 := qf_g0 (B := B) h1 (by omega) h7
    have f0 : ¬ nI f = -1 := fun w => absurd (show nI f < 0 by rw [w]; decide) (nI_pos (by omega))
    have e3 : (nI N).toInt.toNat = N := by rw [nI_toInt (by omega)]; omega
    obtain ⟨w1, w2, w3, w4⟩ := qj_find (N := N) (tv := tv) (v := B i) (by omega) (N + 1) 0 (by omega) (by omega)
    rw [h4, if_neg f0]
    by_cases g : qa_g K B f i
    · have es : LLa_letWait_24 (N + 1) (nI N) tv (B i) 0 = N := by
        rcases Nat.lt_or_ge (LLa_letWait_24 (N + 1) (nI N) tv (B i) 0) N with w | w
        · have a1 := w3 w
          obtain ⟨r, r1, r2, r3⟩ := qa_surj (K := K) (B := B) (f := f) i _ (by rw [← h5]; exact w)
          rw [← r3, h8.2 r r1 r2] at a1
          exact absurd ((qa_fresh (by omega) (by omega)).mpr ⟨r, r2.1, r1, r2.2.1, a1⟩) g.2.2
        · omega
      refine ⟨nI f, nI N + 1, upd ts i (nI N), upd tv N (B i), 4 + 4 * (N + 1), ?_, ?_, by omega, Or.inl h3.symm⟩
      · unfold FLa_letWait
        rw [h6, if_neg (nI_ne0 (by omega) (by omega)), nI_clamp (by omega), e3, es, if_pos rfl, if_neg (show ¬ (160 : Int32) ≤ nI N from nI_ge (b := 160) (by omega) (by omega)), nI_clamp (by omega), h3]
      · refine Or.inr ⟨f, N + 1, b, by omega, rfl, rfl, by rw [qa_cs g, ← h5], nI_1 N, h7, ⟨?_, ?_⟩, h9, h10, h11, h12, rfl⟩
        · intro q a1 a2 a3
          by_cases e : q = i
          · subst e
            exact ⟨q, Nat.le_refl q, g, rfl, by rw [pk_us, ← h5]⟩
          · obtain ⟨r, r1, r2, r3, r4⟩ := h8.1 q a1 (by omega) a3
            exact ⟨r, r1, r2, r3, by rw [pk_un e]; exact r4⟩
        · intro r a1 a2
          by_cases e : r = i
          · subst e; rw [← h5, pk_us]
          · have := qa_lt (q := i) a2 (by omega)
            rw [pk_un (by omega)]; exact h8.2 r (by omega) a2
    · obtain ⟨r, r1, r2, r3⟩ := qa_rep (K := K) (B := B) (f := f) (by omega) (i + 1) i (by omega) (by omega) (by omega) hK
      have r5 : r < i := by
        rcases Nat.lt_or_ge r i with w | w
        · exact w
        · have : r = i := by omega
          subst this; exact absurd r2 g
      have r6 := qa_lt r2 r5
      have es : LLa_letWait_24 (N + 1) (nI N) tv (B i) 0 = qa_c K B f r := by
        have lt : LLa_letWait_24 (N + 1) (nI N) tv (B i) 0 < N := by
          rcases Nat.lt_or_ge (LLa_letWait_24 (N + 1) (nI N) tv (B i) 0) N with w | w
          · exact w
          · exact absurd ((h8.2 r r5 r2).trans r3) (w4 (qa_c K B f r) (by omega) (by omega))
        have a1 := w3 lt
        obtain ⟨s, s1, s2, s3⟩ := qa_surj (K := K) (B := B) (f := f) i _ (by rw [← h5]; exact lt)
        rw [← s3, h8.2 s s1 s2] at a1
        have : s = r := qa_uniq (by omega) (by omega) (by omega) s2 r2 (a1.trans r3.symm)
        rw [← s3, this]
      refine ⟨nI f, nI N, upd ts i (nI (qa_c K B f r)), tv, 4 + 4 * N, ?_, ?_, by omega, Or.inl h3.symm⟩
      · unfold FLa_letWait
        rw [h6, if_neg (nI_ne0 (by omega) (by omega)), nI_clamp (by omega), e3, es, if_neg (fun w => by have := (nI_eq (by omega) (by omega)).mp w; omega), h3]
      · refine Or.inr ⟨f, N, b, by omega, rfl, rfl, by rw [qa_cn g, ← h5], rfl, h7, ⟨?_, ?_⟩, h9, h10, h11, h12, rfl⟩
        · intro q a1 a2 a3
          by_cases e : q = i
          · subst e
            exact ⟨r, by omega, r2, r3, pk_us⟩
          · obtain ⟨s, s1, s2, s3, s4⟩ := h8.1 q a1 (by omega) a3
            exact ⟨s, s1, s2, s3, by rw [pk_un e]; exact s4⟩
        · intro s a1 a2
          by_cases e : s = i
          · subst e; exact absurd a2 g
          · exact h8.2 s (by omega) a2
/-- a line of another kind lets the waiting be -/
theorem qj_next (hi : i < 160) (hK : ¬ K i = 10) (hV : qf_V K B ts tv tl ml to tn mo tk mt i x) : qf_V K B ts tv tl ml to tn mo tk mt (i + 1) x := by
  rcases hV with e | ⟨f, N, b, h1, h3, h4, h5, h6, h7, h8, h9⟩
  · exact Or.inl e
  · have g : ¬ qa_g K B f i := fun w => hK w.2.1
    refine Or.inr ⟨f, N, b, by omega, h3, h4, by rw [qa_cn g, h5], h6, h7, ⟨fun q a1 a2 a3 => ?_, fun r a1 a2 => ?_⟩, h9⟩
    · by_cases e : q = i
      · subst e; exact absurd a3 hK
      · exact h8.1 q a1 (by omega) a3
    · by_cases e : r = i
      · subst e; exact absurd a2 g
      · exact h8.2 r (by omega) a2
end
