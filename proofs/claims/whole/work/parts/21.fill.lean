/-! Arrays.fill of an int array: every place holds the value. Rows about places and loops. -/
theorem pq_vcell {cA : ClassId} {n : Nat} {f g : Nat → Int32} (h : ∀ j, j < n → f j = g j) : vp_cell cA (n, .inl f) = vp_cell cA (n, .inl g) := by
  rw [vp_cell_i, vp_cell_i]
  unfold arrV
  congr 1
  apply Array.ext
  · simp
  · intro i h1 h2
    simp only [Array.getElem_ofFn]
    rw [h i (by simpa using h1)]
theorem pq_arr1 {D : va_G} {q : Nat} {cA : ClassId} {n : Nat} {f g : Nat → Int32} {H : Heap} (hP : va_P D vwCl [(q, .inl (cA, n, .inl f))] H) (h : ∀ j, j < n → f j = g j) : va_P D vwCl [(q, .inl (cA, n, .inl g))] H := by
  intro k e hk
  cases k with
  | zero =>
    cases Option.some.inj hk
    have h1 := hP 0 _ rfl
    show H[q]? = some (vp_cell cA (n, .inl g))
    rw [← pq_vcell h]
    exact h1
  | succ k => cases hk
theorem pq_lt {y : Int32} {c j : Nat} (hc : y = nI c) (hb : c < 2 ^ 31) (hj : j < 2 ^ 31) (h : ¬ y ≤ nI j) : j < c := by
  rw [hc, nI_leI hb hj] at h
  omega
theorem pq_ix {y : Int32} {c j N : Nat} (hc : y = nI c) (hN : c ≤ N) (hb : N < 2 ^ 31) (hj : j < 2 ^ 31) (h : ¬ y ≤ nI j) : vp_in (nI j) N := by
  have h1 := pq_lt hc (by omega) hj h
  exact vp_in_nI (by omega) hb
theorem pq_in0 {x : Int32} {n : Nat} (h : vp_in x n) : ¬ x < 0 := fun q => h (Or.inl q)
theorem pq_in1 {x : Int32} {n : Nat} (h : vp_in x n) : x.toInt ≤ n := by
  have := (vp_in_iff.mp h).2
  omega
theorem pq_nat {x : Int32} (h : ¬ x < 0) : x = nI x.toInt.toNat := by
  obtain ⟨j, hj, rfl⟩ := nI_of h
  rw [nI_toInt hj]
  rfl
theorem pq_nat_le {x : Int32} {n : Nat} (h : x.toInt ≤ n) : x.toInt.toNat ≤ n := by omega
theorem pq_nat_lt (x : Int32) : x.toInt.toNat < 2 ^ 31 := by
  have := Int32.toInt_lt x
  omega
theorem pq_slot {x y : Int32} (h0 : ¬ y < 0) (h : x = y) (h1 : ¬ 160 ≤ y) : vp_in x 160 := by
  rw [h]
  exact pq_inB (y := 160) h0 h1 (by decide)
theorem pq_inc {y : Int32} (h0 : ¬ y < 0) (h1 : ¬ 160 ≤ y) : ¬ y + 1 < 0 ∧ (y + 1).toInt ≤ 160 := by
  obtain ⟨j, hj, rfl⟩ := nI_of h0
  have h2 : ¬ nI 160 ≤ nI j := h1
  rw [nI_leI (by omega) hj] at h2
  rw [nI_1]
  refine ⟨nI_pos (by omega), ?_⟩
  rw [nI_toInt (by omega)]
  omega
theorem pq_inc0 {y : Int32} (h0 : ¬ y < 0) (h1 : ¬ 160 ≤ y) : ¬ y + 1 < 0 := (pq_inc h0 h1).1
theorem pq_inc1 {y : Int32} (h0 : ¬ y < 0) (h1 : ¬ 160 ≤ y) : (y + 1).toInt ≤ 160 := (pq_inc h0 h1).2
theorem pq_up {y : Int32} {j : Nat} (hj : j < 2 ^ 31) (h : ¬ y ≤ nI j) : (j : Int) < y.toInt := by
  rw [Int32.le_iff_toInt_le, nI_toInt hj] at h
  omega
theorem pq_dn {j : Nat} (hj : j ≤ 160) (h : ¬ nI j - 1 < 0) : 0 < j ∧ nI j - 1 = nI (j - 1) := by
  cases j with
  | zero => exact absurd (by decide) h
  | succ k => exact ⟨Nat.succ_pos k, nI_pred k⟩
theorem pq_dn_in {j : Nat} (hj : j ≤ 160) (h : ¬ nI j - 1 < 0) : vp_in (nI j - 1) 160 := by
  obtain ⟨h1, h2⟩ := pq_dn hj h
  rw [h2]
  exact vp_in_nI (by omega) (by omega)
theorem pq_dn_next {j : Nat} (hj : j ≤ 160) (h : ¬ nI j - 1 < 0) : nI j - 1 + (-1) = nI (j - 1) - 1 := by
  obtain ⟨h1, h2⟩ := pq_dn hj h
  rw [h2]
  exact (Int32.sub_eq_add_neg _ _).symm
set_option maxHeartbeats 4000000 in
set_option maxRecDepth 100000 in
theorem q_Ar_fill {p : Program} {l : Launch} {e : Env} {R : Room} {s : State} {m : MethodId} {args : Array Value} {below : List Frame} {meth : Method} {c : Code} {cells slots : Nat} {Q : State → Prop} {A : Nat → Prop} (D : va_G) (cI cS : ClassId)
    (hx : p.tables.exec = Jvm.exec) (hb : c.code = cAr_fill) (hE : pq_E D cI cS s) (q N : Nat) (v : Int32) (hN : N < 2 ^ 31) :
    ∀ (n i : Nat) (f : Nat → Int32) (ls : Array Slot) (H : Heap) (locs : List Loc), (∀ j, j < i → f j = v) → i ≤ N → N - i < n → lv_has ls 4 [(0, .ref q), (1, .int v), (2, .int (nI i)), (3, .int (nI N))] →
      va_P D vwCl [(q, .inl (cI, N, .inl f))] H → va_D A [(q, .inl (cI, N, .inl f))] → va_S A s.heap H locs →
      (∀ (ls : Array Slot) (H : Heap) (locs : List Loc), va_P D vwCl [(q, .inl (cI, N, .inl (fun _ => v)))] H → va_D A [(q, .inl (cI, N, .inl (fun _ => v)))] → va_S A s.heap H locs → W p l e R s m args below meth c H locs cells slots Q (F0 m 20 ls [])) →
      W p l e R s m args below meth c H locs cells slots Q (F0 m 5 ls []) := by
  intro n
  induction n with
  | zero => intro i f ls H locs hf hi hm; exact absurd hm (Nat.not_lt_zero _)
  | succ n ih =>
    intro i f ls H locs hf hi hm hl hP hD hS kk
    refine lv_iload_n hx hb dAr_fill_5 rfl (lv_at hl 2 rfl) ?_
    refine lv_iload_n hx hb dAr_fill_6 rfl (lv_at hl 3 rfl) ?_
    refine lv_icmp_ge (tgt := 20) hx hb dAr_fill_7 (by decide) (fun h1 => ?_) (fun h1 => ?_)
    · rw [nI_leI hN (by omega)] at h1
      have hD' : va_D A [(q, .inl (cI, N, .inl (fun _ => v)))] := hD.set (p := 0) rfl
      exact kk ls H locs (pq_arr1 hP (fun j hj => hf j (by omega))) hD' hS
    · rw [nI_leI hN (by omega)] at h1
      refine lv_aload_n hx hb dAr_fill_10 rfl (lv_at hl 0 rfl) ?_
      refine lv_iload_n hx hb dAr_fill_11 rfl (lv_at hl 2 rfl) ?_
      refine lv_iload_n hx hb dAr_fill_12 rfl (lv_at hl 1 rfl) ?_
      refine va_iast hx hb hE.1 hP hD hS 0 0 rfl rfl (vp_in_nI (by omega) hN) dAr_fill_13 (fun H locs hP hD hS => ?_)
      refine lv_iinc (k := 2) (v := nI i + 1) (lv' := [(2, .int (nI i + 1)), (0, .ref q), (1, .int v), (3, .int (nI N))]) hx hb dAr_fill_14 hl rfl (by first | rfl | decide) (by decide) rfl (fun ls hl => ?_)
      refine lv_goto (tgt := 5) hx hb dAr_fill_17 (by decide) ?_
      rw [nI_1] at hl
      rw [nI_clamp (by omega)] at hP hD
      exact ih (i + 1) _ ls H locs (fun j hj => by
        unfold upd
        split
        · rfl
        · exact hf j (by omega)) (by omega) (by omega) (lv_sub hl [1, 2, 0, 3] rfl) hP hD hS kk
set_option maxHeartbeats 4000000 in
set_option maxRecDepth 100000 in
theorem k_Ar_fill (l : Launch) (D : va_G) (cI cS : ClassId) (q N : Nat) (f : Nat → Int32) (v : Int32) (hN : N < 2 ^ 31) : pq_V l yAr_fill (.code yAr_fill cAr_fill 4 none :: pq_ws) { frames := 0, cells := 0, slots := 0, locals := 0 } D cI cS [.ref q, .int v] [(q, .inl (cI, N, .inl f))] [(q, .inl (cI, N, .inl (fun _ => v)))] := by
  intro sz
  refine Met.ofW (cc := cAr_fill) (maxL := 4) (ret := none) (by decide) rfl ?_
  intro p e s m args below meth c s₁ B hml hv
  obtain ⟨rfl, hsz, hP, hD0, hE⟩ := hv
  have hx := B.exec
  have hb := B.bytes
  have hr := B.returns
  have hlocks := B.notSynchronized
  subst hsz
  have hD := hD0.self (sz := s.heap.size)
  have hS : va_S (va_A [(q, .inl (cI, N, .inl f))] s.heap.size) s.heap s.heap [] := va_S.rf
  have hl := lv_entry ([.ref q, .int v] : List Value) (n := 4) (Nat.le_of_ble_eq_true rfl)
  rw [lg_entry_eq]
  generalize (lg_sl ([.ref q, .int v] : List Value) ++ List.replicate (4 - (lg_sl ([.ref q, .int v] : List Value)).length) Slot.unset).toArray = ls at hl ⊢
  have hl : lv_has ls 4 [(0, .ref q), (1, .int v)] := hl
  refine lv_iconst (v := 0) hx hb dAr_fill_0 (by first | rfl | decide) ?_
  refine lv_istore_n (lv' := [(2, .int 0), (0, .ref q), (1, .int v)]) hx hb dAr_fill_1 rfl hl (by decide) rfl (fun ls hl => ?_)
  refine lv_aload_n hx hb dAr_fill_2 rfl (lv_at hl 1 rfl) ?_
  refine va_alen (v := nI N) hx hb hE.1 hP 0 0 rfl rfl rfl dAr_fill_3 ?_
  refine lv_istore_n (lv' := [(3, .int (nI N)), (2, .int 0), (0, .ref q), (1, .int v)]) hx hb dAr_fill_4 rfl hl (by decide) rfl (fun ls hl => ?_)
  refine q_Ar_fill D cI cS hx hb hE q N v hN (N + 1) 0 f ls s.heap [] (fun j hj => absurd hj (Nat.not_lt_zero _)) (Nat.zero_le _) (by omega) (lv_sub hl [2, 3, 1, 0] rfl) hP hD hS (fun ls H locs hP hD hS => ?_)
  exact W.vret hx hb hr (fun t ht hW => ⟨⟨(), rfl, trivial, by rw [ht]; exact hP, hD⟩, hS.F ht⟩) hS.2.2 dAr_fill_20
/-- a void method that says something of the numbers behind it -/
def pq_VP (l : Launch) (y : MethodName) (ws : List Cond) (rm : Room) (D : va_G) (cI cS : ClassId) (av : List Value) (win : va_W) (P : Prop) (wout : va_W) : Prop :=
  ∀ sz : Nat, Met l y ws rm (pq_P D cI cS av win sz) (va_Qv (fun (_ : Unit) => P) (pq_B D win sz (fun _ => wout)) (va_A win sz)) 0 0 (va_A win sz)
section PQD
variable {p : Program} {l : Launch} {e : Env} {R : Room} {s : State} {m : MethodId} {args : Array Value} {below : List Frame} {meth : Method} {c : Code} {H : Heap} {locs : List Loc} {cells slots : Nat} {Q : State → Prop}
theorem pq_callvp {D : va_G} {ws wc wr w1 : va_W} {P : Prop} {A : Nat → Prop} {H0 : Heap} {mc ms pc : Nat} {ls : Array Slot} {st0 rest : List Value} {a : Array Value}
    (hP : va_P D vwCl ws H) (hD : va_D A ws) (hS : va_S A H0 H locs) (hA : ∀ q, H0.size ≤ q → A q)
    (isC isR : List Nat) (hC : isC.map (fun i => ws[i]?) = wc.map some) (hR : isR.map (fun i => ws[i]?) = wr.map some) (hn : va_nd isR = true) (hdis : ∀ i ∈ isR, i ∉ isC)
    (hr : va_Run p l e R s m args below meth c H locs cells slots mc ms (F0 m pc ls st0) rest (va_Qv (fun (_ : Unit) => P) (pq_B D wc H.size (fun _ => w1)) (va_A wc H.size) a) (va_A wc H.size))
    (kk : P → ∀ (H1 : Heap) (locs1 : List Loc), va_P D vwCl (wr ++ w1) H1 → va_D A (wr ++ w1) → va_S A H0 H1 locs1 → W p l e R s m args below meth c H1 locs1 (cells + mc) (slots + ms) Q (F0 m (pc + 3) ls rest)) :
    W p l e R s m args below meth c H locs cells slots Q (F0 m pc ls st0) := by
  have hFc := va_free (wc := wc) hD hS hA isC hC
  refine va_callv hr hS (fun q _ h => hFc q h) hFc (fun u t H1 locs1 ht hvm hp hB hz hk hS1 => ?_)
  obtain ⟨hP1, hD1⟩ := hB
  rw [ht] at hP1
  obtain ⟨hP2, hD2⟩ := va_join hP hD isC isR hC hR hn hdis hk hFc hP1 hD1
  exact kk hp H1 locs1 hP2 hD2 hS1
end PQD
