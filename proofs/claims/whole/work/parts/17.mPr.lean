theorem wd_27 : Cond.fieldLink RPr 35 RPr "negative" "Z" ∈ pq_ws := pq_memT 138 (by decide +kernel) (by decide +kernel)
theorem wd_28 : Cond.fieldLink RPr 39 RPr "zero" "Z" ∈ pq_ws := pq_memT 139 (by decide +kernel) (by decide +kernel)
theorem wd_29 : Cond.fieldLink RPr 42 RPr "carry" "Z" ∈ pq_ws := pq_memT 140 (by decide +kernel) (by decide +kernel)
theorem wd_30 : Cond.fieldLink RPr 45 RPr "overflow" "Z" ∈ pq_ws := pq_memT 141 (by decide +kernel) (by decide +kernel)
theorem wd_31 : Cond.fieldLink RPr 28 RPr "place" "I" ∈ pq_ws := pq_memT 135 (by decide +kernel) (by decide +kernel)
theorem wd_32 : Cond.code yPr_holds cPr_holds 3 (some .boolean) ∈ pq_ws := pq_memT 516 (by decide +kernel) (by decide +kernel)
theorem wd_33 : Cond.initialized RPr ∈ pq_ws := pq_memT 6 (by decide +kernel) (by decide +kernel)
theorem wd_34 : Cond.methodLink RPr 94 yPr_holds ∈ pq_ws := pq_memT 513 (by decide +kernel) (by decide +kernel)
theorem wd_35 : Cond.instanceMethod yPr_holds ∈ pq_ws := pq_memT 515 (by decide +kernel) (by decide +kernel)
theorem wd_36 : Cond.selects RPr yPr_holds yPr_holds ∈ pq_ws := pq_mem (by decide +kernel) (by decide +kernel)
theorem wd_37 : Cond.code yPr_next cPr_next 1 (some .int) ∈ pq_ws := pq_memT 483 (by decide +kernel) (by decide +kernel)
theorem wd_38 : Cond.methodLink RPr 69 yPr_next ∈ pq_ws := pq_memT 480 (by decide +kernel) (by decide +kernel)
theorem wd_39 : Cond.instanceMethod yPr_next ∈ pq_ws := pq_memT 482 (by decide +kernel) (by decide +kernel)
theorem wd_40 : Cond.selects RPr yPr_next yPr_next ∈ pq_ws := pq_mem (by decide +kernel) (by decide +kernel)
theorem wd_41 : Cond.code yPr_branch cPr_branch 2 (some .int) ∈ pq_ws := pq_memT 520 (by decide +kernel) (by decide +kernel)
theorem wd_42 : Cond.methodLink RPr 86 yPr_branch ∈ pq_ws := pq_memT 517 (by decide +kernel) (by decide +kernel)
theorem wd_43 : Cond.instanceMethod yPr_branch ∈ pq_ws := pq_memT 519 (by decide +kernel) (by decide +kernel)
theorem wd_44 : Cond.selects RPr yPr_branch yPr_branch ∈ pq_ws := pq_mem (by decide +kernel) (by decide +kernel)
theorem nw_0 : Cond.methodLinkNest RPr 89 yFo_isCondition "PoolAssembler" ∈ pq_nws := pq_nmem 512 (by decide +kernel) rfl
theorem wd_45 : Cond.constantLong RPr 105 4294967295 ∈ pq_ws := pq_memT 471 (by decide +kernel) (by decide +kernel)
theorem wd_46 : Cond.code yPr_noted cPr_noted 2 (some .int) ∈ pq_ws := pq_memT 475 (by decide +kernel) (by decide +kernel)
theorem wd_47 : Cond.methodLink RPr 102 yPr_noted ∈ pq_ws := pq_memT 472 (by decide +kernel) (by decide +kernel)
theorem wd_48 : Cond.instanceMethod yPr_noted ∈ pq_ws := pq_memT 474 (by decide +kernel) (by decide +kernel)
theorem wd_49 : Cond.selects RPr yPr_noted yPr_noted ∈ pq_ws := pq_mem (by decide +kernel) (by decide +kernel)
theorem wd_50 : Cond.fieldLink RPr 9 RPr "registers" "[I" ∈ pq_ws := pq_memT 131 (by decide +kernel) (by decide +kernel)
theorem wd_51 : Cond.code yPr_difference cPr_difference 4 (some .int) ∈ pq_ws := pq_memT 479 (by decide +kernel) (by decide +kernel)
theorem wd_52 : Cond.methodLink RPr 99 yPr_difference ∈ pq_ws := pq_memT 476 (by decide +kernel) (by decide +kernel)
theorem wd_53 : Cond.instanceMethod yPr_difference ∈ pq_ws := pq_memT 478 (by decide +kernel) (by decide +kernel)
theorem wd_54 : Cond.selects RPr yPr_difference yPr_difference ∈ pq_ws := pq_mem (by decide +kernel) (by decide +kernel)
theorem wd_55 : Cond.code yPr_sum cPr_sum 4 (some .int) ∈ pq_ws := pq_memT 470 (by decide +kernel) (by decide +kernel)
theorem wd_56 : Cond.methodLink RPr 95 yPr_sum ∈ pq_ws := pq_memT 467 (by decide +kernel) (by decide +kernel)
theorem wd_57 : Cond.instanceMethod yPr_sum ∈ pq_ws := pq_memT 469 (by decide +kernel) (by decide +kernel)
theorem wd_58 : Cond.selects RPr yPr_sum yPr_sum ∈ pq_ws := pq_mem (by decide +kernel) (by decide +kernel)
theorem wd_59 : Cond.code yFo_baseOf cFo_baseOf 1 (some .int) ∈ pq_ws := pq_memT 369 (by decide +kernel) (by decide +kernel)
theorem wd_60 : Cond.static yFo_baseOf ∈ pq_ws := pq_memT 368 (by decide +kernel) (by decide +kernel)
theorem wd_61 : Cond.fieldLink RPr 18 RPr "image" "LPoolAssembler$Image;" ∈ pq_ws := pq_memT 130 (by decide +kernel) (by decide +kernel)
theorem wd_62 : Cond.code yIm_holds cIm_holds 2 (some .boolean) ∈ pq_ws := pq_memT 456 (by decide +kernel) (by decide +kernel)
theorem wd_63 : Cond.instanceMethod yIm_holds ∈ pq_ws := pq_memT 455 (by decide +kernel) (by decide +kernel)
theorem wd_64 : Cond.selects RIm yIm_holds yIm_holds ∈ pq_ws := pq_mem (by decide +kernel) (by decide +kernel)
theorem wd_65 : Cond.code yIm_wordAt cIm_wordAt 3 (some .int) ∈ pq_ws := pq_memT 500 (by decide +kernel) (by decide +kernel)
theorem wd_66 : Cond.instanceMethod yIm_wordAt ∈ pq_ws := pq_memT 499 (by decide +kernel) (by decide +kernel)
theorem wd_67 : Cond.selects RIm yIm_wordAt yIm_wordAt ∈ pq_ws := pq_mem (by decide +kernel) (by decide +kernel)
theorem nw_1 : Cond.methodLinkNest RPr 107 yFo_baseOf "PoolAssembler" ∈ pq_nws := pq_nmem 496 (by decide +kernel) rfl
theorem nw_2 : Cond.methodLinkNest RPr 48 yIm_holds "PoolAssembler" ∈ pq_nws := pq_nmem 453 (by decide +kernel) rfl
theorem nw_3 : Cond.methodLinkNest RPr 110 yIm_wordAt "PoolAssembler" ∈ pq_nws := pq_nmem 497 (by decide +kernel) rfl
theorem wd_68 : Cond.fieldLink RPr 15 RPr "words" "[I" ∈ pq_ws := pq_memT 133 (by decide +kernel) (by decide +kernel)
theorem wd_69 : Cond.code yPr_addOrTake cPr_addOrTake 4 (some .int) ∈ pq_ws := pq_memT 466 (by decide +kernel) (by decide +kernel)
theorem wd_70 : Cond.methodLink RPr 63 yPr_addOrTake ∈ pq_ws := pq_memT 463 (by decide +kernel) (by decide +kernel)
theorem wd_71 : Cond.instanceMethod yPr_addOrTake ∈ pq_ws := pq_memT 465 (by decide +kernel) (by decide +kernel)
theorem wd_72 : Cond.selects RPr yPr_addOrTake yPr_addOrTake ∈ pq_ws := pq_mem (by decide +kernel) (by decide +kernel)
theorem wd_73 : Cond.code yPr_workWithSmall cPr_workWithSmall 4 (some .int) ∈ pq_ws := pq_memT 487 (by decide +kernel) (by decide +kernel)
theorem wd_74 : Cond.methodLink RPr 66 yPr_workWithSmall ∈ pq_ws := pq_memT 484 (by decide +kernel) (by decide +kernel)
theorem wd_75 : Cond.instanceMethod yPr_workWithSmall ∈ pq_ws := pq_memT 486 (by decide +kernel) (by decide +kernel)
theorem wd_76 : Cond.selects RPr yPr_workWithSmall yPr_workWithSmall ∈ pq_ws := pq_mem (by decide +kernel) (by decide +kernel)
theorem wd_77 : Cond.code yPr_work cPr_work 5 (some .int) ∈ pq_ws := pq_memT 491 (by decide +kernel) (by decide +kernel)
theorem wd_78 : Cond.methodLink RPr 73 yPr_work ∈ pq_ws := pq_memT 488 (by decide +kernel) (by decide +kernel)
theorem wd_79 : Cond.instanceMethod yPr_work ∈ pq_ws := pq_memT 490 (by decide +kernel) (by decide +kernel)
theorem wd_80 : Cond.selects RPr yPr_work yPr_work ∈ pq_ws := pq_mem (by decide +kernel) (by decide +kernel)
theorem wd_81 : Cond.code yPr_loadConstant cPr_loadConstant 3 (some .int) ∈ pq_ws := pq_memT 495 (by decide +kernel) (by decide +kernel)
theorem wd_82 : Cond.methodLink RPr 76 yPr_loadConstant ∈ pq_ws := pq_memT 492 (by decide +kernel) (by decide +kernel)
theorem wd_83 : Cond.instanceMethod yPr_loadConstant ∈ pq_ws := pq_memT 494 (by decide +kernel) (by decide +kernel)
theorem wd_84 : Cond.selects RPr yPr_loadConstant yPr_loadConstant ∈ pq_ws := pq_mem (by decide +kernel) (by decide +kernel)
theorem wd_85 : Cond.code yPr_storeOrLoad cPr_storeOrLoad 3 (some .int) ∈ pq_ws := pq_memT 506 (by decide +kernel) (by decide +kernel)
theorem wd_86 : Cond.methodLink RPr 79 yPr_storeOrLoad ∈ pq_ws := pq_memT 503 (by decide +kernel) (by decide +kernel)
theorem wd_87 : Cond.instanceMethod yPr_storeOrLoad ∈ pq_ws := pq_memT 505 (by decide +kernel) (by decide +kernel)
theorem wd_88 : Cond.selects RPr yPr_storeOrLoad yPr_storeOrLoad ∈ pq_ws := pq_mem (by decide +kernel) (by decide +kernel)
theorem wd_89 : Cond.constant RPr 82 48640 ∈ pq_ws := pq_memT 507 (by decide +kernel) (by decide +kernel)
theorem wd_90 : Cond.code yPr_branchIf cPr_branchIf 3 (some .int) ∈ pq_ws := pq_memT 511 (by decide +kernel) (by decide +kernel)
theorem wd_91 : Cond.methodLink RPr 83 yPr_branchIf ∈ pq_ws := pq_memT 508 (by decide +kernel) (by decide +kernel)
theorem wd_92 : Cond.instanceMethod yPr_branchIf ∈ pq_ws := pq_memT 510 (by decide +kernel) (by decide +kernel)
theorem wd_93 : Cond.selects RPr yPr_branchIf yPr_branchIf ∈ pq_ws := pq_mem (by decide +kernel) (by decide +kernel)
def FPr_flags (fn : Int32) (fz : Int32) (fc : Int32) (fv : Int32) : Int32 := if fn = 0 then if fz = 0 then if fc = 0 then if fv = 0 then ((0 + 0) + 0) + 0 else ((0 + 0) + 0) + 1 else if fv = 0 then ((0 + 0) + 2) + 0 else ((0 + 0) + 2) + 1 else if fc = 0 then if fv = 0 then ((0 + 4) + 0) + 0 else ((0 + 4) + 0) + 1 else if fv = 0 then ((0 + 4) + 2) + 0 else ((0 + 4) + 2) + 1 else if fz = 0 then if fc = 0 then if fv = 0 then ((8 + 0) + 0) + 0 else ((8 + 0) + 0) + 1 else if fv = 0 then ((8 + 0) + 2) + 0 else ((8 + 0) + 2) + 1 else if fc = 0 then if fv = 0 then ((8 + 4) + 0) + 0 else ((8 + 4) + 0) + 1 else if fv = 0 then ((8 + 4) + 2) + 0 else ((8 + 4) + 2) + 1
set_option maxHeartbeats 4000000 in
set_option maxRecDepth 100000 in
theorem k_Pr_flags (l : Launch) (D : va_G) (ad : Nat → Nat) (cI cS : ClassId) (rp : Int32) (re : Int32) (fn : Int32) (fz : Int32) (fc : Int32) (fv : Int32) (rr : Nat → Int32) (rw : Nat → Int32) (gn : Int32) (gp : Int32) (gh : Nat → Int32) : pq_I l yPr_flags (.code yPr_flags cPr_flags 1 (some .int) :: pq_ws) { frames := 0, cells := 0, slots := 0, locals := 0 } D cI cS [.ref (ad 4)] (wP ad cI cS rp re fn fz fc fv rr rw gn gp gh) (FPr_flags fn fz fc fv) (wP ad cI cS rp re fn fz fc fv rr rw gn gp gh) := by
  intro sz
  refine Met.ofW (cc := cPr_flags) (maxL := 1) (ret := (some .int)) (by decide) rfl ?_
  intro p e s m args below meth c s₁ B hml hv
  obtain ⟨rfl, hsz, hP, hD0, hE⟩ := hv
  have hx := B.exec
  have hb := B.bytes
  have hr := B.returns
  have hts := atoms_spec (ws := (.code yPr_flags cPr_flags 1 (some .int) :: pq_ws : List Cond)) B.pre
  have hw : ∀ w ∈ pq_ws, w.before _ s = true := fun w h => hts w (List.mem_cons_of_mem _ h)
  have hown : s.vm.findClass RPr = some m.cls := findClass_of_methodNamed B.named
  have hlocks := B.notSynchronized
  subst hsz
  have hD := hD0.self (sz := s.heap.size)
  have hA : ∀ q : Nat, s.heap.size ≤ q → va_A (wP ad cI cS rp re fn fz fc fv rr rw gn gp gh) s.heap.size q := fun q h => Or.inr h
  have hS : va_S (va_A (wP ad cI cS rp re fn fz fc fv rr rw gn gp gh) s.heap.size) s.heap s.heap [] := va_S.rf
  have hl := lv_entry ([.ref (ad 4)] : List Value) (n := 1) (Nat.le_of_ble_eq_true rfl)
  rw [lg_entry_eq]
  generalize (lg_sl ([.ref (ad 4)] : List Value) ++ List.replicate (1 - (lg_sl ([.ref (ad 4)] : List Value)).length) Slot.unset).toArray = ls at hl ⊢
  have hl : lv_has ls 1 [(0, .ref (ad 4))] := hl
  refine lv_aload_n hx hb dPr_flags_0 rfl (lv_at hl 0 rfl) ?_
  refine va_get (D := D) (ci := 2) (v := .int fn) (C := RPr) (T := TPr) (N := 9) hx hb hw pinPr hown hE.1 hP 0 rfl rfl 5 (by decide) (hw _ wd_27) (fun _ h9 => h9) rfl dPr_flags_1 ?_
  refine lv_if_eq (tgt := 12) hx hb dPr_flags_4 (by decide) (fun h1 => ?_) (fun h1 => ?_)
  · refine lv_iconst (v := 0) hx hb dPr_flags_12 (by first | rfl | decide) ?_
    refine lv_aload_n hx hb dPr_flags_13 rfl (lv_at hl 0 rfl) ?_
    refine va_get (D := D) (ci := 2) (v := .int fz) (C := RPr) (T := TPr) (N := 9) hx hb hw pinPr hown hE.1 hP 0 rfl rfl 6 (by decide) (hw _ wd_28) (fun _ h9 => h9) rfl dPr_flags_14 ?_
    refine lv_if_eq (tgt := 24) hx hb dPr_flags_17 (by decide) (fun h2 => ?_) (fun h2 => ?_)
    · refine lv_iconst (v := 0) hx hb dPr_flags_24 (by first | rfl | decide) ?_
      refine lv_iadd hx hb dPr_flags_25 ?_
      refine lv_aload_n hx hb dPr_flags_26 rfl (lv_at hl 0 rfl) ?_
      refine va_get (D := D) (ci := 2) (v := .int fc) (C := RPr) (T := TPr) (N := 9) hx hb hw pinPr hown hE.1 hP 0 rfl rfl 7 (by decide) (hw _ wd_29) (fun _ h9 => h9) rfl dPr_flags_27 ?_
      refine lv_if_eq (tgt := 37) hx hb dPr_flags_30 (by decide) (fun h3 => ?_) (fun h3 => ?_)
      · refine lv_iconst (v := 0) hx hb dPr_flags_37 (by first | rfl | decide) ?_
        refine lv_iadd hx hb dPr_flags_38 ?_
        refine lv_aload_n hx hb dPr_flags_39 rfl (lv_at hl 0 rfl) ?_
        refine va_get (D := D) (ci := 2) (v := .int fv) (C := RPr) (T := TPr) (N := 9) hx hb hw pinPr hown hE.1 hP 0 rfl rfl 8 (by decide) (hw _ wd_30) (fun _ h9 => h9) rfl dPr_flags_40 ?_
        refine lv_if_eq (tgt := 50) hx hb dPr_flags_43 (by decide) (fun h4 => ?_) (fun h4 => ?_)
        · refine lv_iconst (v := 0) hx hb dPr_flags_50 (by first | rfl | decide) ?_
          refine lv_iadd hx hb dPr_flags_51 ?_
          have e9 : FPr_flags fn fz fc fv = ((0 + 0) + 0) + 0 := by simp only [FPr_flags, if_pos h1, if_pos h2, if_pos h3, if_pos h4]
          exact W.iret (v := ((0 + 0) + 0) + 0) hx hb hr (fun t ht hW => ⟨⟨((0 + 0) + 0) + 0, (), rfl, (by show _ = _; rw [e9]), by rw [ht]; exact hP, hD⟩, hS.F ht⟩) hS.2.2 dPr_flags_52
        · refine lv_iconst (v := 1) hx hb dPr_flags_46 (by first | rfl | decide) ?_
          refine lv_goto (tgt := 51) hx hb dPr_flags_47 (by decide) ?_
          refine lv_iadd hx hb dPr_flags_51 ?_
          have e9 : FPr_flags fn fz fc fv = ((0 + 0) + 0) + 1 := by simp only [FPr_flags, if_pos h1, if_pos h2, if_pos h3, if_neg h4]
          exact W.iret (v := ((0 + 0) + 0) + 1) hx hb hr (fun t ht hW => ⟨⟨((0 + 0) + 0) + 1, (), rfl, (by show _ = _; rw [e9]), by rw [ht]; exact hP, hD⟩, hS.F ht⟩) hS.2.2 dPr_flags_52
      · refine lv_iconst (v := 2) hx hb dPr_flags_33 (by first | rfl | decide) ?_
        refine lv_goto (tgt := 38) hx hb dPr_flags_34 (by decide) ?_
        refine lv_iadd hx hb dPr_flags_38 ?_
        refine lv_aload_n hx hb dPr_flags_39 rfl (lv_at hl 0 rfl) ?_
        refine va_get (D := D) (ci := 2) (v := .int fv) (C := RPr) (T := TPr) (N := 9) hx hb hw pinPr hown hE.1 hP 0 rfl rfl 8 (by decide) (hw _ wd_30) (fun _ h9 => h9) rfl dPr_flags_40 ?_
        refine lv_if_eq (tgt := 50) hx hb dPr_flags_43 (by decide) (fun h5 => ?_) (fun h5 => ?_)
        · refine lv_iconst (v := 0) hx hb dPr_flags_50 (by first | rfl | decide) ?_
          refine lv_iadd hx hb dPr_flags_51 ?_
          have e9 : FPr_flags fn fz fc fv = ((0 + 0) + 2) + 0 := by simp only [FPr_flags, if_pos h1, if_pos h2, if_neg h3, if_pos h5]
          exact W.iret (v := ((0 + 0) + 2) + 0) hx hb hr (fun t ht hW => ⟨⟨((0 + 0) + 2) + 0, (), rfl, (by show _ = _; rw [e9]), by rw [ht]; exact hP, hD⟩, hS.F ht⟩) hS.2.2 dPr_flags_52
        · refine lv_iconst (v := 1) hx hb dPr_flags_46 (by first | rfl | decide) ?_
          refine lv_goto (tgt := 51) hx hb dPr_flags_47 (by decide) ?_
          refine lv_iadd hx hb dPr_flags_51 ?_
          have e9 : FPr_flags fn fz fc fv = ((0 + 0) + 2) + 1 := by simp only [FPr_flags, if_pos h1, if_pos h2, if_neg h3, if_neg h5]
          exact W.iret (v := ((0 + 0) + 2) + 1) hx hb hr (fun t ht hW => ⟨⟨((0 + 0) + 2) + 1, (), rfl, (by show _ = _; rw [e9]), by rw [ht]; exact hP, hD⟩, hS.F ht⟩) hS.2.2 dPr_flags_52
    · refine lv_iconst (v := 4) hx hb dPr_flags_20 (by first | rfl | decide) ?_
      refine lv_goto (tgt := 25) hx hb dPr_flags_21 (by decide) ?_
      refine lv_iadd hx hb dPr_flags_25 ?_
      refine lv_aload_n hx hb dPr_flags_26 rfl (lv_at hl 0 rfl) ?_
      refine va_get (D := D) (ci := 2) (v := .int fc) (C := RPr) (T := TPr) (N := 9) hx hb hw pinPr hown hE.1 hP 0 rfl rfl 7 (by decide) (hw _ wd_29) (fun _ h9 => h9) rfl dPr_flags_27 ?_
      refine lv_if_eq (tgt := 37) hx hb dPr_flags_30 (by decide) (fun h6 => ?_) (fun h6 => ?_)
      · refine lv_iconst (v := 0) hx hb dPr_flags_37 (by first | rfl | decide) ?_
        refine lv_iadd hx hb dPr_flags_38 ?_
        refine lv_aload_n hx hb dPr_flags_39 rfl (lv_at hl 0 rfl) ?_
        refine va_get (D := D) (ci := 2) (v := .int fv) (C := RPr) (T := TPr) (N := 9) hx hb hw pinPr hown hE.1 hP 0 rfl rfl 8 (by decide) (hw _ wd_30) (fun _ h9 => h9) rfl dPr_flags_40 ?_
        refine lv_if_eq (tgt := 50) hx hb dPr_flags_43 (by decide) (fun h7 => ?_) (fun h7 => ?_)
        · refine lv_iconst (v := 0) hx hb dPr_flags_50 (by first | rfl | decide) ?_
          refine lv_iadd hx hb dPr_flags_51 ?_
          have e9 : FPr_flags fn fz fc fv = ((0 + 4) + 0) + 0 := by simp only [FPr_flags, if_pos h1, if_neg h2, if_pos h6, if_pos h7]
          exact W.iret (v := ((0 + 4) + 0) + 0) hx hb hr (fun t ht hW => ⟨⟨((0 + 4) + 0) + 0, (), rfl, (by show _ = _; rw [e9]), by rw [ht]; exact hP, hD⟩, hS.F ht⟩) hS.2.2 dPr_flags_52
        · refine lv_iconst (v := 1) hx hb dPr_flags_46 (by first | rfl | decide) ?_
          refine lv_goto (tgt := 51) hx hb dPr_flags_47 (by decide) ?_
          refine lv_iadd hx hb dPr_flags_51 ?_
          have e9 : FPr_flags fn fz fc fv = ((0 + 4) + 0) + 1 := by simp only [FPr_flags, if_pos h1, if_neg h2, if_pos h6, if_neg h7]
          exact W.iret (v := ((0 + 4) + 0) + 1) hx hb hr (fun t ht hW => ⟨⟨((0 + 4) + 0) + 1, (), rfl, (by show _ = _; rw [e9]), by rw [ht]; exact hP, hD⟩, hS.F ht⟩) hS.2.2 dPr_flags_52
      · refine lv_iconst (v := 2) hx hb dPr_flags_33 (by first | rfl | decide) ?_
        refine lv_goto (tgt := 38) hx hb dPr_flags_34 (by decide) ?_
        refine lv_iadd hx hb dPr_flags_38 ?_
        refine lv_aload_n hx hb dPr_flags_39 rfl (lv_at hl 0 rfl) ?_
        refine va_get (D := D) (ci := 2) (v := .int fv) (C := RPr) (T := TPr) (N := 9) hx hb hw pinPr hown hE.1 hP 0 rfl rfl 8 (by decide) (hw _ wd_30) (fun _ h9 => h9) rfl dPr_flags_40 ?_
        refine lv_if_eq (tgt := 50) hx hb dPr_flags_43 (by decide) (fun h8 => ?_) (fun h8 => ?_)
        · refine lv_iconst (v := 0) hx hb dPr_flags_50 (by first | rfl | decide) ?_
          refine lv_iadd hx hb dPr_flags_51 ?_
          have e9 : FPr_flags fn fz fc fv = ((0 + 4) + 2) + 0 := by simp only [FPr_flags, if_pos h1, if_neg h2, if_neg h6, if_pos h8]
          exact W.iret (v := ((0 + 4) + 2) + 0) hx hb hr (fun t ht hW => ⟨⟨((0 + 4) + 2) + 0, (), rfl, (by show _ = _; rw [e9]), by rw [ht]; exact hP, hD⟩, hS.F ht⟩) hS.2.2 dPr_flags_52
        · refine lv_iconst (v := 1) hx hb dPr_flags_46 (by first | rfl | decide) ?_
          refine lv_goto (tgt := 51) hx hb dPr_flags_47 (by decide) ?_
          refine lv_iadd hx hb dPr_flags_51 ?_
          have e9 : FPr_flags fn fz fc fv = ((0 + 4) + 2) + 1 := by simp only [FPr_flags, if_pos h1, if_neg h2, if_neg h6, if_neg h8]
          exact W.iret (v := ((0 + 4) + 2) + 1) hx hb hr (fun t ht hW => ⟨⟨((0 + 4) + 2) + 1, (), rfl, (by show _ = _; rw [e9]), by rw [ht]; exact hP, hD⟩, hS.F ht⟩) hS.2.2 dPr_flags_52
  · refine lv_bipush (v := 8) hx hb dPr_flags_7 (by first | rfl | decide) ?_
    refine lv_goto (tgt := 13) hx hb dPr_flags_9 (by decide) ?_
    refine lv_aload_n hx hb dPr_flags_13 rfl (lv_at hl 0 rfl) ?_
    refine va_get (D := D) (ci := 2) (v := .int fz) (C := RPr) (T := TPr) (N := 9) hx hb hw pinPr hown hE.1 hP 0 rfl rfl 6 (by decide) (hw _ wd_28) (fun _ h9 => h9) rfl dPr_flags_14 ?_
    refine lv_if_eq (tgt := 24) hx hb dPr_flags_17 (by decide) (fun h9 => ?_) (fun h9 => ?_)
    · refine lv_iconst (v := 0) hx hb dPr_flags_24 (by first | rfl | decide) ?_
      refine lv_iadd hx hb dPr_flags_25 ?_
      refine lv_aload_n hx hb dPr_flags_26 rfl (lv_at hl 0 rfl) ?_
      refine va_get (D := D) (ci := 2) (v := .int fc) (C := RPr) (T := TPr) (N := 9) hx hb hw pinPr hown hE.1 hP 0 rfl rfl 7 (by decide) (hw _ wd_29) (fun _ h9 => h9) rfl dPr_flags_27 ?_
      refine lv_if_eq (tgt := 37) hx hb dPr_flags_30 (by decide) (fun h10 => ?_) (fun h10 => ?_)
      · refine lv_iconst (v := 0) hx hb dPr_flags_37 (by first | rfl | decide) ?_
        refine lv_iadd hx hb dPr_flags_38 ?_
        refine lv_aload_n hx hb dPr_flags_39 rfl (lv_at hl 0 rfl) ?_
        refine va_get (D := D) (ci := 2) (v := .int fv) (C := RPr) (T := TPr) (N := 9) hx hb hw pinPr hown hE.1 hP 0 rfl rfl 8 (by decide) (hw _ wd_30) (fun _ h9 => h9) rfl dPr_flags_40 ?_
        refine lv_if_eq (tgt := 50) hx hb dPr_flags_43 (by decide) (fun h11 => ?_) (fun h11 => ?_)
        · refine lv_iconst (v := 0) hx hb dPr_flags_50 (by first | rfl | decide) ?_
          refine lv_iadd hx hb dPr_flags_51 ?_
          have e9 : FPr_flags fn fz fc fv = ((8 + 0) + 0) + 0 := by simp only [FPr_flags, if_neg h1, if_pos h9, if_pos h10, if_pos h11]
          exact W.iret (v := ((8 + 0) + 0) + 0) hx hb hr (fun t ht hW => ⟨⟨((8 + 0) + 0) + 0, (), rfl, (by show _ = _; rw [e9]), by rw [ht]; exact hP, hD⟩, hS.F ht⟩) hS.2.2 dPr_flags_52
        · refine lv_iconst (v := 1) hx hb dPr_flags_46 (by first | rfl | decide) ?_
          refine lv_goto (tgt := 51) hx hb dPr_flags_47 (by decide) ?_
          refine lv_iadd hx hb dPr_flags_51 ?_
          have e9 : FPr_flags fn fz fc fv = ((8 + 0) + 0) + 1 := by simp only [FPr_flags, if_neg h1, if_pos h9, if_pos h10, if_neg h11]
          exact W.iret (v := ((8 + 0) + 0) + 1) hx hb hr (fun t ht hW => ⟨⟨((8 + 0) + 0) + 1, (), rfl, (by show _ = _; rw [e9]), by rw [ht]; exact hP, hD⟩, hS.F ht⟩) hS.2.2 dPr_flags_52
      · refine lv_iconst (v := 2) hx hb dPr_flags_33 (by first | rfl | decide) ?_
        refine lv_goto (tgt := 38) hx hb dPr_flags_34 (by decide) ?_
        refine lv_iadd hx hb dPr_flags_38 ?_
        refine lv_aload_n hx hb dPr_flags_39 rfl (lv_at hl 0 rfl) ?_
        refine va_get (D := D) (ci := 2) (v := .int fv) (C := RPr) (T := TPr) (N := 9) hx hb hw pinPr hown hE.1 hP 0 rfl rfl 8 (by decide) (hw _ wd_30) (fun _ h9 => h9) rfl dPr_flags_40 ?_
        refine lv_if_eq (tgt := 50) hx hb dPr_flags_43 (by decide) (fun h12 => ?_) (fun h12 => ?_)
        · refine lv_iconst (v := 0) hx hb dPr_flags_50 (by first | rfl | decide) ?_
          refine lv_iadd hx hb dPr_flags_51 ?_
          have e9 : FPr_flags fn fz fc fv = ((8 + 0) + 2) + 0 := by simp only [FPr_flags, if_neg h1, if_pos h9, if_neg h10, if_pos h12]
          exact W.iret (v := ((8 + 0) + 2) + 0) hx hb hr (fun t ht hW => ⟨⟨((8 + 0) + 2) + 0, (), rfl, (by show _ = _; rw [e9]), by rw [ht]; exact hP, hD⟩, hS.F ht⟩) hS.2.2 dPr_flags_52
        · refine lv_iconst (v := 1) hx hb dPr_flags_46 (by first | rfl | decide) ?_
          refine lv_goto (tgt := 51) hx hb dPr_flags_47 (by decide) ?_
          refine lv_iadd hx hb dPr_flags_51 ?_
          have e9 : FPr_flags fn fz fc fv = ((8 + 0) + 2) + 1 := by simp only [FPr_flags, if_neg h1, if_pos h9, if_neg h10, if_neg h12]
          exact W.iret (v := ((8 + 0) + 2) + 1) hx hb hr (fun t ht hW => ⟨⟨((8 + 0) + 2) + 1, (), rfl, (by show _ = _; rw [e9]), by rw [ht]; exact hP, hD⟩, hS.F ht⟩) hS.2.2 dPr_flags_52
    · refine lv_iconst (v := 4) hx hb dPr_flags_20 (by first | rfl | decide) ?_
      refine lv_goto (tgt := 25) hx hb dPr_flags_21 (by decide) ?_
      refine lv_iadd hx hb dPr_flags_25 ?_
      refine lv_aload_n hx hb dPr_flags_26 rfl (lv_at hl 0 rfl) ?_
      refine va_get (D := D) (ci := 2) (v := .int fc) (C := RPr) (T := TPr) (N := 9) hx hb hw pinPr hown hE.1 hP 0 rfl rfl 7 (by decide) (hw _ wd_29) (fun _ h9 => h9) rfl dPr_flags_27 ?_
      refine lv_if_eq (tgt := 37) hx hb dPr_flags_30 (by decide) (fun h13 => ?_) (fun h13 => ?_)
      · refine lv_iconst (v := 0) hx hb dPr_flags_37 (by first | rfl | decide) ?_
        refine lv_iadd hx hb dPr_flags_38 ?_
        refine lv_aload_n hx hb dPr_flags_39 rfl (lv_at hl 0 rfl) ?_
        refine va_get (D := D) (ci := 2) (v := .int fv) (C := RPr) (T := TPr) (N := 9) hx hb hw pinPr hown hE.1 hP 0 rfl rfl 8 (by decide) (hw _ wd_30) (fun _ h9 => h9) rfl dPr_flags_40 ?_
        refine lv_if_eq (tgt := 50) hx hb dPr_flags_43 (by decide) (fun h14 => ?_) (fun h14 => ?_)
        · refine lv_iconst (v := 0) hx hb dPr_flags_50 (by first | rfl | decide) ?_
          refine lv_iadd hx hb dPr_flags_51 ?_
          have e9 : FPr_flags fn fz fc fv = ((8 + 4) + 0) + 0 := by simp only [FPr_flags, if_neg h1, if_neg h9, if_pos h13, if_pos h14]
          exact W.iret (v := ((8 + 4) + 0) + 0) hx hb hr (fun t ht hW => ⟨⟨((8 + 4) + 0) + 0, (), rfl, (by show _ = _; rw [e9]), by rw [ht]; exact hP, hD⟩, hS.F ht⟩) hS.2.2 dPr_flags_52
        · refine lv_iconst (v := 1) hx hb dPr_flags_46 (by first | rfl | decide) ?_
          refine lv_goto (tgt := 51) hx hb dPr_flags_47 (by decide) ?_
          refine lv_iadd hx hb dPr_flags_51 ?_
          have e9 : FPr_flags fn fz fc fv = ((8 + 4) + 0) + 1 := by simp only [FPr_flags, if_neg h1, if_neg h9, if_pos h13, if_neg h14]
          exact W.iret (v := ((8 + 4) + 0) + 1) hx hb hr (fun t ht hW => ⟨⟨((8 + 4) + 0) + 1, (), rfl, (by show _ = _; rw [e9]), by rw [ht]; exact hP, hD⟩, hS.F ht⟩) hS.2.2 dPr_flags_52
      · refine lv_iconst (v := 2) hx hb dPr_flags_33 (by first | rfl | decide) ?_
        refine lv_goto (tgt := 38) hx hb dPr_flags_34 (by decide) ?_
        refine lv_iadd hx hb dPr_flags_38 ?_
        refine lv_aload_n hx hb dPr_flags_39 rfl (lv_at hl 0 rfl) ?_
        refine va_get (D := D) (ci := 2) (v := .int fv) (C := RPr) (T := TPr) (N := 9) hx hb hw pinPr hown hE.1 hP 0 rfl rfl 8 (by decide) (hw _ wd_30) (fun _ h9 => h9) rfl dPr_flags_40 ?_
        refine lv_if_eq (tgt := 50) hx hb dPr_flags_43 (by decide) (fun h15 => ?_) (fun h15 => ?_)
        · refine lv_iconst (v := 0) hx hb dPr_flags_50 (by first | rfl | decide) ?_
          refine lv_iadd hx hb dPr_flags_51 ?_
          have e9 : FPr_flags fn fz fc fv = ((8 + 4) + 2) + 0 := by simp only [FPr_flags, if_neg h1, if_neg h9, if_neg h13, if_pos h15]
          exact W.iret (v := ((8 + 4) + 2) + 0) hx hb hr (fun t ht hW => ⟨⟨((8 + 4) + 2) + 0, (), rfl, (by show _ = _; rw [e9]), by rw [ht]; exact hP, hD⟩, hS.F ht⟩) hS.2.2 dPr_flags_52
        · refine lv_iconst (v := 1) hx hb dPr_flags_46 (by first | rfl | decide) ?_
          refine lv_goto (tgt := 51) hx hb dPr_flags_47 (by decide) ?_
          refine lv_iadd hx hb dPr_flags_51 ?_
          have e9 : FPr_flags fn fz fc fv = ((8 + 4) + 2) + 1 := by simp only [FPr_flags, if_neg h1, if_neg h9, if_neg h13, if_neg h15]
          exact W.iret (v := ((8 + 4) + 2) + 1) hx hb hr (fun t ht hW => ⟨⟨((8 + 4) + 2) + 1, (), rfl, (by show _ = _; rw [e9]), by rw [ht]; exact hP, hD⟩, hS.F ht⟩) hS.2.2 dPr_flags_52
def FPr_next (rp : Int32) : Int32 × Int32 := (0, rp + 2)
set_option maxHeartbeats 4000000 in
set_option maxRecDepth 100000 in
theorem k_Pr_next (l : Launch) (D : va_G) (ad : Nat → Nat) (cI cS : ClassId) (rp : Int32) (re : Int32) (fn : Int32) (fz : Int32) (fc : Int32) (fv : Int32) (rr : Nat → Int32) (rw : Nat → Int32) (gn : Int32) (gp : Int32) (gh : Nat → Int32) : pq_I l yPr_next (.code yPr_next cPr_next 1 (some .int) :: pq_ws) { frames := 0, cells := 0, slots := 0, locals := 0 } D cI cS [.ref (ad 4)] (wP ad cI cS rp re fn fz fc fv rr rw gn gp gh) ((FPr_next rp).1) (wP ad cI cS ((FPr_next rp).2) re fn fz fc fv rr rw gn gp gh) := by
  intro sz
  refine Met.ofW (cc := cPr_next) (maxL := 1) (ret := (some .int)) (by decide) rfl ?_
  intro p e s m args below meth c s₁ B hml hv
  obtain ⟨rfl, hsz, hP, hD0, hE⟩ := hv
  have hx := B.exec
  have hb := B.bytes
  have hr := B.returns
  have hts := atoms_spec (ws := (.code yPr_next cPr_next 1 (some .int) :: pq_ws : List Cond)) B.pre
  have hw : ∀ w ∈ pq_ws, w.before _ s = true := fun w h => hts w (List.mem_cons_of_mem _ h)
  have hown : s.vm.findClass RPr = some m.cls := findClass_of_methodNamed B.named
  have hlocks := B.notSynchronized
  subst hsz
  have hD := hD0.self (sz := s.heap.size)
  have hA : ∀ q : Nat, s.heap.size ≤ q → va_A (wP ad cI cS rp re fn fz fc fv rr rw gn gp gh) s.heap.size q := fun q h => Or.inr h
  have hS : va_S (va_A (wP ad cI cS rp re fn fz fc fv rr rw gn gp gh) s.heap.size) s.heap s.heap [] := va_S.rf
  have hl := lv_entry ([.ref (ad 4)] : List Value) (n := 1) (Nat.le_of_ble_eq_true rfl)
  rw [lg_entry_eq]
  generalize (lg_sl ([.ref (ad 4)] : List Value) ++ List.replicate (1 - (lg_sl ([.ref (ad 4)] : List Value)).length) Slot.unset).toArray = ls at hl ⊢
  have hl : lv_has ls 1 [(0, .ref (ad 4))] := hl
  refine lv_aload_n hx hb dPr_next_0 rfl (lv_at hl 0 rfl) ?_
  refine lv_dup hx hb dPr_next_1 rfl ?_
  refine va_get (D := D) (ci := 2) (v := .int rp) (C := RPr) (T := TPr) (N := 9) hx hb hw pinPr hown hE.1 hP 0 rfl rfl 3 (by decide) (hw _ wd_31) (fun _ h9 => h9) rfl dPr_next_2 ?_
  refine lv_iconst (v := 2) hx hb dPr_next_5 (by first | rfl | decide) ?_
  refine lv_iadd hx hb dPr_next_6 ?_
  refine va_put (D := D) (ci := 2) (v := .int (rp + 2)) (ty := .int) (C := RPr) (T := TPr) (N := 9) hx hb hw pinPr tyPr tyPr_ok nmPr hown hE.1 hP hD hS 0 rfl rfl 3 (by decide) (hw _ wd_31) (fun _ h9 => h9) rfl (by decide +kernel) rfl rfl (Nat.le_of_ble_eq_true rfl) dPr_next_7 (fun H locs hP hD hS => ?_)
  have hP : va_P D vwCl (wP ad cI cS (rp + 2) re fn fz fc fv rr rw gn gp gh) H := hP
  have hD : va_D _ (wP ad cI cS (rp + 2) re fn fz fc fv rr rw gn gp gh) := hD
  refine lv_iconst (v := 0) hx hb dPr_next_10 (by first | rfl | decide) ?_
  have e9 : FPr_next rp = (0, rp + 2) := rfl
  exact W.iret (v := 0) hx hb hr (fun t ht hW => ⟨⟨0, (), rfl, (by show _ = _; rw [e9]), by rw [e9, ht]; exact hP, by rw [e9]; exact hD⟩, hS.F ht⟩) hS.2.2 dPr_next_11
def FPr_branch (xs : Int32) (rp : Int32) : Int32 × Int32 := (0, rp + (4 + (2 * xs)))
set_option maxHeartbeats 4000000 in
set_option maxRecDepth 100000 in
theorem k_Pr_branch (l : Launch) (D : va_G) (ad : Nat → Nat) (cI cS : ClassId) (xs : Int32) (rp : Int32) (re : Int32) (fn : Int32) (fz : Int32) (fc : Int32) (fv : Int32) (rr : Nat → Int32) (rw : Nat → Int32) (gn : Int32) (gp : Int32) (gh : Nat → Int32) : pq_I l yPr_branch (.code yPr_branch cPr_branch 2 (some .int) :: pq_ws) { frames := 0, cells := 0, slots := 0, locals := 0 } D cI cS [.ref (ad 4), .int xs] (wP ad cI cS rp re fn fz fc fv rr rw gn gp gh) ((FPr_branch xs rp).1) (wP ad cI cS ((FPr_branch xs rp).2) re fn fz fc fv rr rw gn gp gh) := by
  intro sz
  refine Met.ofW (cc := cPr_branch) (maxL := 2) (ret := (some .int)) (by decide) rfl ?_
  intro p e s m args below meth c s₁ B hml hv
  obtain ⟨rfl, hsz, hP, hD0, hE⟩ := hv
  have hx := B.exec
  have hb := B.bytes
  have hr := B.returns
  have hts := atoms_spec (ws := (.code yPr_branch cPr_branch 2 (some .int) :: pq_ws : List Cond)) B.pre
  have hw : ∀ w ∈ pq_ws, w.before _ s = true := fun w h => hts w (List.mem_cons_of_mem _ h)
  have hown : s.vm.findClass RPr = some m.cls := findClass_of_methodNamed B.named
  have hlocks := B.notSynchronized
  subst hsz
  have hD := hD0.self (sz := s.heap.size)
  have hA : ∀ q : Nat, s.heap.size ≤ q → va_A (wP ad cI cS rp re fn fz fc fv rr rw gn gp gh) s.heap.size q := fun q h => Or.inr h
  have hS : va_S (va_A (wP ad cI cS rp re fn fz fc fv rr rw gn gp gh) s.heap.size) s.heap s.heap [] := va_S.rf
  have hl := lv_entry ([.ref (ad 4), .int xs] : List Value) (n := 2) (Nat.le_of_ble_eq_true rfl)
  rw [lg_entry_eq]
  generalize (lg_sl ([.ref (ad 4), .int xs] : List Value) ++ List.replicate (2 - (lg_sl ([.ref (ad 4), .int xs] : List Value)).length) Slot.unset).toArray = ls at hl ⊢
  have hl : lv_has ls 2 [(0, .ref (ad 4)), (1, .int xs)] := hl
  refine lv_aload_n hx hb dPr_branch_0 rfl (lv_at hl 0 rfl) ?_
  refine lv_dup hx hb dPr_branch_1 rfl ?_
  refine va_get (D := D) (ci := 2) (v := .int rp) (C := RPr) (T := TPr) (N := 9) hx hb hw pinPr hown hE.1 hP 0 rfl rfl 3 (by decide) (hw _ wd_31) (fun _ h9 => h9) rfl dPr_branch_2 ?_
  refine lv_iconst (v := 4) hx hb dPr_branch_5 (by first | rfl | decide) ?_
  refine lv_iconst (v := 2) hx hb dPr_branch_6 (by first | rfl | decide) ?_
  refine lv_iload_n hx hb dPr_branch_7 rfl (lv_at hl 1 rfl) ?_
  refine lv_imul hx hb dPr_branch_8 ?_
  refine lv_iadd hx hb dPr_branch_9 ?_
  refine lv_iadd hx hb dPr_branch_10 ?_
  refine va_put (D := D) (ci := 2) (v := .int (rp + (4 + (2 * xs)))) (ty := .int) (C := RPr) (T := TPr) (N := 9) hx hb hw pinPr tyPr tyPr_ok nmPr hown hE.1 hP hD hS 0 rfl rfl 3 (by decide) (hw _ wd_31) (fun _ h9 => h9) rfl (by decide +kernel) rfl rfl (Nat.le_of_ble_eq_true rfl) dPr_branch_11 (fun H locs hP hD hS => ?_)
  have hP : va_P D vwCl (wP ad cI cS (rp + (4 + (2 * xs))) re fn fz fc fv rr rw gn gp gh) H := hP
  have hD : va_D _ (wP ad cI cS (rp + (4 + (2 * xs))) re fn fz fc fv rr rw gn gp gh) := hD
  refine lv_iconst (v := 0) hx hb dPr_branch_14 (by first | rfl | decide) ?_
  have e9 : FPr_branch xs rp = (0, rp + (4 + (2 * xs))) := rfl
  exact W.iret (v := 0) hx hb hr (fun t ht hW => ⟨⟨0, (), rfl, (by show _ = _; rw [e9]), by rw [e9, ht]; exact hP, by rw [e9]; exact hD⟩, hS.F ht⟩) hS.2.2 dPr_branch_15
def FPr_holds (xq : Int32) (fn : Int32) (fz : Int32) (fc : Int32) (fv : Int32) : Int32 := if (xq - xq / 2 * 2) = 1 then if (xq / 2) = 0 then if fz = 1 then 0 else 1 else if (xq / 2) = 1 then if fc = 1 then 0 else 1 else if (xq / 2) = 2 then if fn = 1 then 0 else 1 else if (xq / 2) = 3 then if fz = 0 then if fn = fv then 0 else 1 else 1 else if (xq / 2) = 4 then if fz = 0 then if fn = fv then 0 else 1 else 1 else if (xq / 2) = 5 then if fn = fv then 0 else 1 else if fz = 0 then if fn = fv then 0 else 1 else 1 else if (xq / 2) = 0 then if fz = 0 then 0 else 1 else if (xq / 2) = 1 then if fc = 0 then 0 else 1 else if (xq / 2) = 2 then if fn = 0 then 0 else 1 else if (xq / 2) = 3 then if fz = 0 then if fn = fv then 1 else 0 else 0 else if (xq / 2) = 4 then if fz = 0 then if fn = fv then 1 else 0 else 0 else if (xq / 2) = 5 then if fn = fv then 1 else 0 else if fz = 0 then if fn = fv then 1 else 0 else 0
set_option maxRecDepth 20000 in
theorem b_Pr_holds (xq : Int32) (fn : Int32) (fz : Int32) (fc : Int32) (fv : Int32) : narrow .boolean (.int (FPr_holds xq fn fz fc fv)) = .int (FPr_holds xq fn fz fc fv) := by
  unfold FPr_holds
  repeat' (first | apply pq_bif | exact pq_b0 | exact pq_b1)
set_option maxHeartbeats 4000000 in
set_option maxRecDepth 100000 in
theorem k_Pr_holds (l : Launch) (D : va_G) (ad : Nat → Nat) (cI cS : ClassId) (xq : Int32) (rp : Int32) (re : Int32) (fn : Int32) (fz : Int32) (fc : Int32) (fv : Int32) (rr : Nat → Int32) (rw : Nat → Int32) (gn : Int32) (gp : Int32) (gh : Nat → Int32) : pq_I l yPr_holds (.code yPr_holds cPr_holds 3 (some .boolean) :: pq_ws) { frames := 0, cells := 0, slots := 0, locals := 0 } D cI cS [.ref (ad 4), .int xq] (wP ad cI cS rp re fn fz fc fv rr rw gn gp gh) (FPr_holds xq fn fz fc fv) (wP ad cI cS rp re fn fz fc fv rr rw gn gp gh) := by
  intro sz
  refine Met.ofW (cc := cPr_holds) (maxL := 3) (ret := (some .boolean)) (by decide) rfl ?_
  intro p e s m args below meth c s₁ B hml hv
  obtain ⟨rfl, hsz, hP, hD0, hE⟩ := hv
  have hx := B.exec
  have hb := B.bytes
  have hr := B.returns
  have hts := atoms_spec (ws := (.code yPr_holds cPr_holds 3 (some .boolean) :: pq_ws : List Cond)) B.pre
  have hw : ∀ w ∈ pq_ws, w.before _ s = true := fun w h => hts w (List.mem_cons_of_mem _ h)
  have hown : s.vm.findClass RPr = some m.cls := findClass_of_methodNamed B.named
  have hlocks := B.notSynchronized
  subst hsz
  have hD := hD0.self (sz := s.heap.size)
  have hA : ∀ q : Nat, s.heap.size ≤ q → va_A (wP ad cI cS rp re fn fz fc fv rr rw gn gp gh) s.heap.size q := fun q h => Or.inr h
  have hS : va_S (va_A (wP ad cI cS rp re fn fz fc fv rr rw gn gp gh) s.heap.size) s.heap s.heap [] := va_S.rf
  have hl := lv_entry ([.ref (ad 4), .int xq] : List Value) (n := 3) (Nat.le_of_ble_eq_true rfl)
  rw [lg_entry_eq]
  generalize (lg_sl ([.ref (ad 4), .int xq] : List Value) ++ List.replicate (3 - (lg_sl ([.ref (ad 4), .int xq] : List Value)).length) Slot.unset).toArray = ls at hl ⊢
  have hl : lv_has ls 3 [(0, .ref (ad 4)), (1, .int xq)] := hl
  refine lv_iload_n hx hb dPr_holds_0 rfl (lv_at hl 1 rfl) ?_
  refine lv_iconst (v := 2) hx hb dPr_holds_1 (by first | rfl | decide) ?_
  refine lv_irem hx hb dPr_holds_2 (by decide) ?_
  refine lv_iconst (v := 1) hx hb dPr_holds_3 (by first | rfl | decide) ?_
  refine lv_icmp_ne (tgt := 11) hx hb dPr_holds_4 (by decide) (fun h1 => ?_) (fun h1 => ?_)
  · refine lv_iconst (v := 0) hx hb dPr_holds_11 (by first | rfl | decide) ?_
    refine lv_istore_n (lv' := [(2, .int 0), (0, .ref (ad 4)), (1, .int xq)]) hx hb dPr_holds_12 rfl hl (by decide) rfl (fun ls hl => ?_)
    refine lv_iload_n hx hb dPr_holds_13 rfl (lv_at hl 2 rfl) ?_
    refine lv_iconst (v := 2) hx hb dPr_holds_14 (by first | rfl | decide) ?_
    refine lv_idiv hx hb dPr_holds_15 (by decide) ?_
    by_cases h2 : (xq / 2) = 0
    · refine lv_tableIn (off := 40) (tgt := 56) hx hb dPr_holds_16 (by rw [h2]; decide) (by rw [h2]; decide) (by rw [h2]; rfl) (by decide) ?_
      refine lv_aload_n hx hb dPr_holds_56 rfl (lv_at hl 1 rfl) ?_
      refine va_get (D := D) (ci := 2) (v := .int fz) (C := RPr) (T := TPr) (N := 9) hx hb hw pinPr hown hE.1 hP 0 rfl rfl 6 (by decide) (hw _ wd_28) (fun _ h9 => h9) rfl dPr_holds_57 ?_
      refine lv_iload_n hx hb dPr_holds_60 rfl (lv_at hl 0 rfl) ?_
      refine lv_icmp_eq (tgt := 68) hx hb dPr_holds_61 (by decide) (fun h3 => ?_) (fun h3 => ?_)
      · refine lv_iconst (v := 0) hx hb dPr_holds_68 (by first | rfl | decide) ?_
        have e9 : FPr_holds xq fn fz fc fv = 0 := by simp only [FPr_holds, if_neg h1, if_pos h2, if_pos h3]
        exact W.zret (v := 0) hx hb hr rfl (fun t ht hW => ⟨⟨0, (), rfl, (by show _ = _; rw [e9]), by rw [ht]; exact hP, hD⟩, hS.F ht⟩) hS.2.2 dPr_holds_69
      · refine lv_iconst (v := 1) hx hb dPr_holds_64 (by first | rfl | decide) ?_
        refine lv_goto (tgt := 69) hx hb dPr_holds_65 (by decide) ?_
        have e9 : FPr_holds xq fn fz fc fv = 1 := by simp only [FPr_holds, if_neg h1, if_pos h2, if_neg h3]
        exact W.zret (v := 1) hx hb hr rfl (fun t ht hW => ⟨⟨1, (), rfl, (by show _ = _; rw [e9]), by rw [ht]; exact hP, hD⟩, hS.F ht⟩) hS.2.2 dPr_holds_69
    by_cases h4 : (xq / 2) = 1
    · refine lv_tableIn (off := 54) (tgt := 70) hx hb dPr_holds_16 (by rw [h4]; decide) (by rw [h4]; decide) (by rw [h4]; rfl) (by decide) ?_
      refine lv_aload_n hx hb dPr_holds_70 rfl (lv_at hl 1 rfl) ?_
      refine va_get (D := D) (ci := 2) (v := .int fc) (C := RPr) (T := TPr) (N := 9) hx hb hw pinPr hown hE.1 hP 0 rfl rfl 7 (by decide) (hw _ wd_29) (fun _ h9 => h9) rfl dPr_holds_71 ?_
      refine lv_iload_n hx hb dPr_holds_74 rfl (lv_at hl 0 rfl) ?_
      refine lv_icmp_eq (tgt := 82) hx hb dPr_holds_75 (by decide) (fun h5 => ?_) (fun h5 => ?_)
      · refine lv_iconst (v := 0) hx hb dPr_holds_82 (by first | rfl | decide) ?_
        have e9 : FPr_holds xq fn fz fc fv = 0 := by simp only [FPr_holds, if_neg h1, if_neg h2, if_pos h4, if_pos h5]
        exact W.zret (v := 0) hx hb hr rfl (fun t ht hW => ⟨⟨0, (), rfl, (by show _ = _; rw [e9]), by rw [ht]; exact hP, hD⟩, hS.F ht⟩) hS.2.2 dPr_holds_83
      · refine lv_iconst (v := 1) hx hb dPr_holds_78 (by first | rfl | decide) ?_
        refine lv_goto (tgt := 83) hx hb dPr_holds_79 (by decide) ?_
        have e9 : FPr_holds xq fn fz fc fv = 1 := by simp only [FPr_holds, if_neg h1, if_neg h2, if_pos h4, if_neg h5]
        exact W.zret (v := 1) hx hb hr rfl (fun t ht hW => ⟨⟨1, (), rfl, (by show _ = _; rw [e9]), by rw [ht]; exact hP, hD⟩, hS.F ht⟩) hS.2.2 dPr_holds_83
    by_cases h6 : (xq / 2) = 2
    · refine lv_tableIn (off := 68) (tgt := 84) hx hb dPr_holds_16 (by rw [h6]; decide) (by rw [h6]; decide) (by rw [h6]; rfl) (by decide) ?_
      refine lv_aload_n hx hb dPr_holds_84 rfl (lv_at hl 1 rfl) ?_
      refine va_get (D := D) (ci := 2) (v := .int fn) (C := RPr) (T := TPr) (N := 9) hx hb hw pinPr hown hE.1 hP 0 rfl rfl 5 (by decide) (hw _ wd_27) (fun _ h9 => h9) rfl dPr_holds_85 ?_
      refine lv_iload_n hx hb dPr_holds_88 rfl (lv_at hl 0 rfl) ?_
      refine lv_icmp_eq (tgt := 96) hx hb dPr_holds_89 (by decide) (fun h7 => ?_) (fun h7 => ?_)
      · refine lv_iconst (v := 0) hx hb dPr_holds_96 (by first | rfl | decide) ?_
        have e9 : FPr_holds xq fn fz fc fv = 0 := by simp only [FPr_holds, if_neg h1, if_neg h2, if_neg h4, if_pos h6, if_pos h7]
        exact W.zret (v := 0) hx hb hr rfl (fun t ht hW => ⟨⟨0, (), rfl, (by show _ = _; rw [e9]), by rw [ht]; exact hP, hD⟩, hS.F ht⟩) hS.2.2 dPr_holds_97
      · refine lv_iconst (v := 1) hx hb dPr_holds_92 (by first | rfl | decide) ?_
        refine lv_goto (tgt := 97) hx hb dPr_holds_93 (by decide) ?_
        have e9 : FPr_holds xq fn fz fc fv = 1 := by simp only [FPr_holds, if_neg h1, if_neg h2, if_neg h4, if_pos h6, if_neg h7]
        exact W.zret (v := 1) hx hb hr rfl (fun t ht hW => ⟨⟨1, (), rfl, (by show _ = _; rw [e9]), by rw [ht]; exact hP, hD⟩, hS.F ht⟩) hS.2.2 dPr_holds_97
    by_cases h8 : (xq / 2) = 3
    · refine lv_tableIn (off := 108) (tgt := 124) hx hb dPr_holds_16 (by rw [h8]; decide) (by rw [h8]; decide) (by rw [h8]; rfl) (by decide) ?_
      refine lv_aload_n hx hb dPr_holds_124 rfl (lv_at hl 1 rfl) ?_
      refine va_get (D := D) (ci := 2) (v := .int fz) (C := RPr) (T := TPr) (N := 9) hx hb hw pinPr hown hE.1 hP 0 rfl rfl 6 (by decide) (hw _ wd_28) (fun _ h9 => h9) rfl dPr_holds_125 ?_
      refine lv_if_ne (tgt := 146) hx hb dPr_holds_128 (by decide) (fun h9 => ?_) (fun h9 => ?_)
      · refine lv_iconst (v := 0) hx hb dPr_holds_146 (by first | rfl | decide) ?_
        refine lv_iload_n hx hb dPr_holds_147 rfl (lv_at hl 0 rfl) ?_
        refine lv_icmp_eq (tgt := 155) hx hb dPr_holds_148 (by decide) (fun _ => ?_) (fun h9 => absurd h9 (by decide))
        refine lv_iconst (v := 0) hx hb dPr_holds_155 (by first | rfl | decide) ?_
        have e9 : FPr_holds xq fn fz fc fv = 0 := by simp only [FPr_holds, if_neg h1, if_neg h2, if_neg h4, if_neg h6, if_pos h8, if_neg h9]
        exact W.zret (v := 0) hx hb hr rfl (fun t ht hW => ⟨⟨0, (), rfl, (by show _ = _; rw [e9]), by rw [ht]; exact hP, hD⟩, hS.F ht⟩) hS.2.2 dPr_holds_156
      · refine lv_aload_n hx hb dPr_holds_131 rfl (lv_at hl 1 rfl) ?_
        refine va_get (D := D) (ci := 2) (v := .int fn) (C := RPr) (T := TPr) (N := 9) hx hb hw pinPr hown hE.1 hP 0 rfl rfl 5 (by decide) (hw _ wd_27) (fun _ h9 => h9) rfl dPr_holds_132 ?_
        refine lv_aload_n hx hb dPr_holds_135 rfl (lv_at hl 1 rfl) ?_
        refine va_get (D := D) (ci := 2) (v := .int fv) (C := RPr) (T := TPr) (N := 9) hx hb hw pinPr hown hE.1 hP 0 rfl rfl 8 (by decide) (hw _ wd_30) (fun _ h9 => h9) rfl dPr_holds_136 ?_
        refine lv_icmp_ne (tgt := 146) hx hb dPr_holds_139 (by decide) (fun h10 => ?_) (fun h10 => ?_)
        · refine lv_iconst (v := 0) hx hb dPr_holds_146 (by first | rfl | decide) ?_
          refine lv_iload_n hx hb dPr_holds_147 rfl (lv_at hl 0 rfl) ?_
          refine lv_icmp_eq (tgt := 155) hx hb dPr_holds_148 (by decide) (fun _ => ?_) (fun h9 => absurd h9 (by decide))
          refine lv_iconst (v := 0) hx hb dPr_holds_155 (by first | rfl | decide) ?_
          have e9 : FPr_holds xq fn fz fc fv = 0 := by simp only [FPr_holds, if_neg h1, if_neg h2, if_neg h4, if_neg h6, if_pos h8, if_pos h9, if_neg h10]
          exact W.zret (v := 0) hx hb hr rfl (fun t ht hW => ⟨⟨0, (), rfl, (by show _ = _; rw [e9]), by rw [ht]; exact hP, hD⟩, hS.F ht⟩) hS.2.2 dPr_holds_156
        · refine lv_iconst (v := 1) hx hb dPr_holds_142 (by first | rfl | decide) ?_
          refine lv_goto (tgt := 147) hx hb dPr_holds_143 (by decide) ?_
          refine lv_iload_n hx hb dPr_holds_147 rfl (lv_at hl 0 rfl) ?_
          refine lv_icmp_eq (tgt := 155) hx hb dPr_holds_148 (by decide) (fun h9 => absurd h9 (by decide)) (fun _ => ?_)
          refine lv_iconst (v := 1) hx hb dPr_holds_151 (by first | rfl | decide) ?_
          refine lv_goto (tgt := 156) hx hb dPr_holds_152 (by decide) ?_
          have e9 : FPr_holds xq fn fz fc fv = 1 := by simp only [FPr_holds, if_neg h1, if_neg h2, if_neg h4, if_neg h6, if_pos h8, if_pos h9, if_pos h10]
          exact W.zret (v := 1) hx hb hr rfl (fun t ht hW => ⟨⟨1, (), rfl, (by show _ = _; rw [e9]), by rw [ht]; exact hP, hD⟩, hS.F ht⟩) hS.2.2 dPr_holds_156
    by_cases h11 : (xq / 2) = 4
    · refine lv_tableIn (off := 108) (tgt := 124) hx hb dPr_holds_16 (by rw [h11]; decide) (by rw [h11]; decide) (by rw [h11]; rfl) (by decide) ?_
      refine lv_aload_n hx hb dPr_holds_124 rfl (lv_at hl 1 rfl) ?_
      refine va_get (D := D) (ci := 2) (v := .int fz) (C := RPr) (T := TPr) (N := 9) hx hb hw pinPr hown hE.1 hP 0 rfl rfl 6 (by decide) (hw _ wd_28) (fun _ h9 => h9) rfl dPr_holds_125 ?_
      refine lv_if_ne (tgt := 146) hx hb dPr_holds_128 (by decide) (fun h12 => ?_) (fun h12 => ?_)
      · refine lv_iconst (v := 0) hx hb dPr_holds_146 (by first | rfl | decide) ?_
        refine lv_iload_n hx hb dPr_holds_147 rfl (lv_at hl 0 rfl) ?_
        refine lv_icmp_eq (tgt := 155) hx hb dPr_holds_148 (by decide) (fun _ => ?_) (fun h9 => absurd h9 (by decide))
        refine lv_iconst (v := 0) hx hb dPr_holds_155 (by first | rfl | decide) ?_
        have e9 : FPr_holds xq fn fz fc fv = 0 := by simp only [FPr_holds, if_neg h1, if_neg h2, if_neg h4, if_neg h6, if_neg h8, if_pos h11, if_neg h12]
        exact W.zret (v := 0) hx hb hr rfl (fun t ht hW => ⟨⟨0, (), rfl, (by show _ = _; rw [e9]), by rw [ht]; exact hP, hD⟩, hS.F ht⟩) hS.2.2 dPr_holds_156
      · refine lv_aload_n hx hb dPr_holds_131 rfl (lv_at hl 1 rfl) ?_
        refine va_get (D := D) (ci := 2) (v := .int fn) (C := RPr) (T := TPr) (N := 9) hx hb hw pinPr hown hE.1 hP 0 rfl rfl 5 (by decide) (hw _ wd_27) (fun _ h9 => h9) rfl dPr_holds_132 ?_
        refine lv_aload_n hx hb dPr_holds_135 rfl (lv_at hl 1 rfl) ?_
        refine va_get (D := D) (ci := 2) (v := .int fv) (C := RPr) (T := TPr) (N := 9) hx hb hw pinPr hown hE.1 hP 0 rfl rfl 8 (by decide) (hw _ wd_30) (fun _ h9 => h9) rfl dPr_holds_136 ?_
        refine lv_icmp_ne (tgt := 146) hx hb dPr_holds_139 (by decide) (fun h13 => ?_) (fun h13 => ?_)
        · refine lv_iconst (v := 0) hx hb dPr_holds_146 (by first | rfl | decide) ?_
          refine lv_iload_n hx hb dPr_holds_147 rfl (lv_at hl 0 rfl) ?_
          refine lv_icmp_eq (tgt := 155) hx hb dPr_holds_148 (by decide) (fun _ => ?_) (fun h9 => absurd h9 (by decide))
          refine lv_iconst (v := 0) hx hb dPr_holds_155 (by first | rfl | decide) ?_
          have e9 : FPr_holds xq fn fz fc fv = 0 := by simp only [FPr_holds, if_neg h1, if_neg h2, if_neg h4, if_neg h6, if_neg h8, if_pos h11, if_pos h12, if_neg h13]
          exact W.zret (v := 0) hx hb hr rfl (fun t ht hW => ⟨⟨0, (), rfl, (by show _ = _; rw [e9]), by rw [ht]; exact hP, hD⟩, hS.F ht⟩) hS.2.2 dPr_holds_156
        · refine lv_iconst (v := 1) hx hb dPr_holds_142 (by first | rfl | decide) ?_
          refine lv_goto (tgt := 147) hx hb dPr_holds_143 (by decide) ?_
          refine lv_iload_n hx hb dPr_holds_147 rfl (lv_at hl 0 rfl) ?_
          refine lv_icmp_eq (tgt := 155) hx hb dPr_holds_148 (by decide) (fun h9 => absurd h9 (by decide)) (fun _ => ?_)
          refine lv_iconst (v := 1) hx hb dPr_holds_151 (by first | rfl | decide) ?_
          refine lv_goto (tgt := 156) hx hb dPr_holds_152 (by decide) ?_
          have e9 : FPr_holds xq fn fz fc fv = 1 := by simp only [FPr_holds, if_neg h1, if_neg h2, if_neg h4, if_neg h6, if_neg h8, if_pos h11, if_pos h12, if_pos h13]
          exact W.zret (v := 1) hx hb hr rfl (fun t ht hW => ⟨⟨1, (), rfl, (by show _ = _; rw [e9]), by rw [ht]; exact hP, hD⟩, hS.F ht⟩) hS.2.2 dPr_holds_156
    by_cases h14 : (xq / 2) = 5
    · refine lv_tableIn (off := 82) (tgt := 98) hx hb dPr_holds_16 (by rw [h14]; decide) (by rw [h14]; decide) (by rw [h14]; rfl) (by decide) ?_
      refine lv_aload_n hx hb dPr_holds_98 rfl (lv_at hl 1 rfl) ?_
      refine va_get (D := D) (ci := 2) (v := .int fn) (C := RPr) (T := TPr) (N := 9) hx hb hw pinPr hown hE.1 hP 0 rfl rfl 5 (by decide) (hw _ wd_27) (fun _ h9 => h9) rfl dPr_holds_99 ?_
      refine lv_aload_n hx hb dPr_holds_102 rfl (lv_at hl 1 rfl) ?_
      refine va_get (D := D) (ci := 2) (v := .int fv) (C := RPr) (T := TPr) (N := 9) hx hb hw pinPr hown hE.1 hP 0 rfl rfl 8 (by decide) (hw _ wd_30) (fun _ h9 => h9) rfl dPr_holds_103 ?_
      refine lv_icmp_ne (tgt := 113) hx hb dPr_holds_106 (by decide) (fun h15 => ?_) (fun h15 => ?_)
      · refine lv_iconst (v := 0) hx hb dPr_holds_113 (by first | rfl | decide) ?_
        refine lv_iload_n hx hb dPr_holds_114 rfl (lv_at hl 0 rfl) ?_
        refine lv_icmp_eq (tgt := 122) hx hb dPr_holds_115 (by decide) (fun _ => ?_) (fun h9 => absurd h9 (by decide))
        refine lv_iconst (v := 0) hx hb dPr_holds_122 (by first | rfl | decide) ?_
        have e9 : FPr_holds xq fn fz fc fv = 0 := by simp only [FPr_holds, if_neg h1, if_neg h2, if_neg h4, if_neg h6, if_neg h8, if_neg h11, if_pos h14, if_neg h15]
        exact W.zret (v := 0) hx hb hr rfl (fun t ht hW => ⟨⟨0, (), rfl, (by show _ = _; rw [e9]), by rw [ht]; exact hP, hD⟩, hS.F ht⟩) hS.2.2 dPr_holds_123
      · refine lv_iconst (v := 1) hx hb dPr_holds_109 (by first | rfl | decide) ?_
        refine lv_goto (tgt := 114) hx hb dPr_holds_110 (by decide) ?_
        refine lv_iload_n hx hb dPr_holds_114 rfl (lv_at hl 0 rfl) ?_
        refine lv_icmp_eq (tgt := 122) hx hb dPr_holds_115 (by decide) (fun h9 => absurd h9 (by decide)) (fun _ => ?_)
        refine lv_iconst (v := 1) hx hb dPr_holds_118 (by first | rfl | decide) ?_
        refine lv_goto (tgt := 123) hx hb dPr_holds_119 (by decide) ?_
        have e9 : FPr_holds xq fn fz fc fv = 1 := by simp only [FPr_holds, if_neg h1, if_neg h2, if_neg h4, if_neg h6, if_neg h8, if_neg h11, if_pos h14, if_pos h15]
        exact W.zret (v := 1) hx hb hr rfl (fun t ht hW => ⟨⟨1, (), rfl, (by show _ = _; rw [e9]), by rw [ht]; exact hP, hD⟩, hS.F ht⟩) hS.2.2 dPr_holds_123
    have th2 := pq_ne (x := xq / 2) (k := 0) (y := 0) (by first | rfl | decide) h2
    have th4 := pq_ne (x := xq / 2) (k := 1) (y := 1) (by first | rfl | decide) h4
    have th6 := pq_ne (x := xq / 2) (k := 2) (y := 2) (by first | rfl | decide) h6
    have th8 := pq_ne (x := xq / 2) (k := 3) (y := 3) (by first | rfl | decide) h8
    have th11 := pq_ne (x := xq / 2) (k := 4) (y := 4) (by first | rfl | decide) h11
    have th14 := pq_ne (x := xq / 2) (k := 5) (y := 5) (by first | rfl | decide) h14
    refine lv_tableOut (tgt := 124) hx hb dPr_holds_16 (by omega) (by decide) ?_
    refine lv_aload_n hx hb dPr_holds_124 rfl (lv_at hl 1 rfl) ?_
    refine va_get (D := D) (ci := 2) (v := .int fz) (C := RPr) (T := TPr) (N := 9) hx hb hw pinPr hown hE.1 hP 0 rfl rfl 6 (by decide) (hw _ wd_28) (fun _ h9 => h9) rfl dPr_holds_125 ?_
    refine lv_if_ne (tgt := 146) hx hb dPr_holds_128 (by decide) (fun h16 => ?_) (fun h16 => ?_)
    · refine lv_iconst (v := 0) hx hb dPr_holds_146 (by first | rfl | decide) ?_
      refine lv_iload_n hx hb dPr_holds_147 rfl (lv_at hl 0 rfl) ?_
      refine lv_icmp_eq (tgt := 155) hx hb dPr_holds_148 (by decide) (fun _ => ?_) (fun h9 => absurd h9 (by decide))
      refine lv_iconst (v := 0) hx hb dPr_holds_155 (by first | rfl | decide) ?_
      have e9 : FPr_holds xq fn fz fc fv = 0 := by simp only [FPr_holds, if_neg h1, if_neg h2, if_neg h4, if_neg h6, if_neg h8, if_neg h11, if_neg h14, if_neg h16]
      exact W.zret (v := 0) hx hb hr rfl (fun t ht hW => ⟨⟨0, (), rfl, (by show _ = _; rw [e9]), by rw [ht]; exact hP, hD⟩, hS.F ht⟩) hS.2.2 dPr_holds_156
    · refine lv_aload_n hx hb dPr_holds_131 rfl (lv_at hl 1 rfl) ?_
      refine va_get (D := D) (ci := 2) (v := .int fn) (C := RPr) (T := TPr) (N := 9) hx hb hw pinPr hown hE.1 hP 0 rfl rfl 5 (by decide) (hw _ wd_27) (fun _ h9 => h9) rfl dPr_holds_132 ?_
      refine lv_aload_n hx hb dPr_holds_135 rfl (lv_at hl 1 rfl) ?_
      refine va_get (D := D) (ci := 2) (v := .int fv) (C := RPr) (T := TPr) (N := 9) hx hb hw pinPr hown hE.1 hP 0 rfl rfl 8 (by decide) (hw _ wd_30) (fun _ h9 => h9) rfl dPr_holds_136 ?_
      refine lv_icmp_ne (tgt := 146) hx hb dPr_holds_139 (by decide) (fun h17 => ?_) (fun h17 => ?_)
      · refine lv_iconst (v := 0) hx hb dPr_holds_146 (by first | rfl | decide) ?_
        refine lv_iload_n hx hb dPr_holds_147 rfl (lv_at hl 0 rfl) ?_
        refine lv_icmp_eq (tgt := 155) hx hb dPr_holds_148 (by decide) (fun _ => ?_) (fun h9 => absurd h9 (by decide))
        refine lv_iconst (v := 0) hx hb dPr_holds_155 (by first | rfl | decide) ?_
        have e9 : FPr_holds xq fn fz fc fv = 0 := by simp only [FPr_holds, if_neg h1, if_neg h2, if_neg h4, if_neg h6, if_neg h8, if_neg h11, if_neg h14, if_pos h16, if_neg h17]
        exact W.zret (v := 0) hx hb hr rfl (fun t ht hW => ⟨⟨0, (), rfl, (by show _ = _; rw [e9]), by rw [ht]; exact hP, hD⟩, hS.F ht⟩) hS.2.2 dPr_holds_156
      · refine lv_iconst (v := 1) hx hb dPr_holds_142 (by first | rfl | decide) ?_
        refine lv_goto (tgt := 147) hx hb dPr_holds_143 (by decide) ?_
        refine lv_iload_n hx hb dPr_holds_147 rfl (lv_at hl 0 rfl) ?_
        refine lv_icmp_eq (tgt := 155) hx hb dPr_holds_148 (by decide) (fun h9 => absurd h9 (by decide)) (fun _ => ?_)
        refine lv_iconst (v := 1) hx hb dPr_holds_151 (by first | rfl | decide) ?_
        refine lv_goto (tgt := 156) hx hb dPr_holds_152 (by decide) ?_
        have e9 : FPr_holds xq fn fz fc fv = 1 := by simp only [FPr_holds, if_neg h1, if_neg h2, if_neg h4, if_neg h6, if_neg h8, if_neg h11, if_neg h14, if_pos h16, if_pos h17]
        exact W.zret (v := 1) hx hb hr rfl (fun t ht hW => ⟨⟨1, (), rfl, (by show _ = _; rw [e9]), by rw [ht]; exact hP, hD⟩, hS.F ht⟩) hS.2.2 dPr_holds_156
  · refine lv_iconst (v := 1) hx hb dPr_holds_7 (by first | rfl | decide) ?_
    refine lv_goto (tgt := 12) hx hb dPr_holds_8 (by decide) ?_
    refine lv_istore_n (lv' := [(2, .int 1), (0, .ref (ad 4)), (1, .int xq)]) hx hb dPr_holds_12 rfl hl (by decide) rfl (fun ls hl => ?_)
    refine lv_iload_n hx hb dPr_holds_13 rfl (lv_at hl 2 rfl) ?_
    refine lv_iconst (v := 2) hx hb dPr_holds_14 (by first | rfl | decide) ?_
    refine lv_idiv hx hb dPr_holds_15 (by decide) ?_
    by_cases h18 : (xq / 2) = 0
    · refine lv_tableIn (off := 40) (tgt := 56) hx hb dPr_holds_16 (by rw [h18]; decide) (by rw [h18]; decide) (by rw [h18]; rfl) (by decide) ?_
      refine lv_aload_n hx hb dPr_holds_56 rfl (lv_at hl 1 rfl) ?_
      refine va_get (D := D) (ci := 2) (v := .int fz) (C := RPr) (T := TPr) (N := 9) hx hb hw pinPr hown hE.1 hP 0 rfl rfl 6 (by decide) (hw _ wd_28) (fun _ h9 => h9) rfl dPr_holds_57 ?_
      refine lv_iload_n hx hb dPr_holds_60 rfl (lv_at hl 0 rfl) ?_
      refine lv_icmp_eq (tgt := 68) hx hb dPr_holds_61 (by decide) (fun h19 => ?_) (fun h19 => ?_)
      · refine lv_iconst (v := 0) hx hb dPr_holds_68 (by first | rfl | decide) ?_
        have e9 : FPr_holds xq fn fz fc fv = 0 := by simp only [FPr_holds, if_pos h1, if_pos h18, if_pos h19]
        exact W.zret (v := 0) hx hb hr rfl (fun t ht hW => ⟨⟨0, (), rfl, (by show _ = _; rw [e9]), by rw [ht]; exact hP, hD⟩, hS.F ht⟩) hS.2.2 dPr_holds_69
      · refine lv_iconst (v := 1) hx hb dPr_holds_64 (by first | rfl | decide) ?_
        refine lv_goto (tgt := 69) hx hb dPr_holds_65 (by decide) ?_
        have e9 : FPr_holds xq fn fz fc fv = 1 := by simp only [FPr_holds, if_pos h1, if_pos h18, if_neg h19]
        exact W.zret (v := 1) hx hb hr rfl (fun t ht hW => ⟨⟨1, (), rfl, (by show _ = _; rw [e9]), by rw [ht]; exact hP, hD⟩, hS.F ht⟩) hS.2.2 dPr_holds_69
    by_cases h20 : (xq / 2) = 1
    · refine lv_tableIn (off := 54) (tgt := 70) hx hb dPr_holds_16 (by rw [h20]; decide) (by rw [h20]; decide) (by rw [h20]; rfl) (by decide) ?_
      refine lv_aload_n hx hb dPr_holds_70 rfl (lv_at hl 1 rfl) ?_
      refine va_get (D := D) (ci := 2) (v := .int fc) (C := RPr) (T := TPr) (N := 9) hx hb hw pinPr hown hE.1 hP 0 rfl rfl 7 (by decide) (hw _ wd_29) (fun _ h9 => h9) rfl dPr_holds_71 ?_
      refine lv_iload_n hx hb dPr_holds_74 rfl (lv_at hl 0 rfl) ?_
      refine lv_icmp_eq (tgt := 82) hx hb dPr_holds_75 (by decide) (fun h21 => ?_) (fun h21 => ?_)
      · refine lv_iconst (v := 0) hx hb dPr_holds_82 (by first | rfl | decide) ?_
        have e9 : FPr_holds xq fn fz fc fv = 0 := by simp only [FPr_holds, if_pos h1, if_neg h18, if_pos h20, if_pos h21]
        exact W.zret (v := 0) hx hb hr rfl (fun t ht hW => ⟨⟨0, (), rfl, (by show _ = _; rw [e9]), by rw [ht]; exact hP, hD⟩, hS.F ht⟩) hS.2.2 dPr_holds_83
      · refine lv_iconst (v := 1) hx hb dPr_holds_78 (by first | rfl | decide) ?_
        refine lv_goto (tgt := 83) hx hb dPr_holds_79 (by decide) ?_
        have e9 : FPr_holds xq fn fz fc fv = 1 := by simp only [FPr_holds, if_pos h1, if_neg h18, if_pos h20, if_neg h21]
        exact W.zret (v := 1) hx hb hr rfl (fun t ht hW => ⟨⟨1, (), rfl, (by show _ = _; rw [e9]), by rw [ht]; exact hP, hD⟩, hS.F ht⟩) hS.2.2 dPr_holds_83
    by_cases h22 : (xq / 2) = 2
    · refine lv_tableIn (off := 68) (tgt := 84) hx hb dPr_holds_16 (by rw [h22]; decide) (by rw [h22]; decide) (by rw [h22]; rfl) (by decide) ?_
      refine lv_aload_n hx hb dPr_holds_84 rfl (lv_at hl 1 rfl) ?_
      refine va_get (D := D) (ci := 2) (v := .int fn) (C := RPr) (T := TPr) (N := 9) hx hb hw pinPr hown hE.1 hP 0 rfl rfl 5 (by decide) (hw _ wd_27) (fun _ h9 => h9) rfl dPr_holds_85 ?_
      refine lv_iload_n hx hb dPr_holds_88 rfl (lv_at hl 0 rfl) ?_
      refine lv_icmp_eq (tgt := 96) hx hb dPr_holds_89 (by decide) (fun h23 => ?_) (fun h23 => ?_)
      · refine lv_iconst (v := 0) hx hb dPr_holds_96 (by first | rfl | decide) ?_
        have e9 : FPr_holds xq fn fz fc fv = 0 := by simp only [FPr_holds, if_pos h1, if_neg h18, if_neg h20, if_pos h22, if_pos h23]
        exact W.zret (v := 0) hx hb hr rfl (fun t ht hW => ⟨⟨0, (), rfl, (by show _ = _; rw [e9]), by rw [ht]; exact hP, hD⟩, hS.F ht⟩) hS.2.2 dPr_holds_97
      · refine lv_iconst (v := 1) hx hb dPr_holds_92 (by first | rfl | decide) ?_
        refine lv_goto (tgt := 97) hx hb dPr_holds_93 (by decide) ?_
        have e9 : FPr_holds xq fn fz fc fv = 1 := by simp only [FPr_holds, if_pos h1, if_neg h18, if_neg h20, if_pos h22, if_neg h23]
        exact W.zret (v := 1) hx hb hr rfl (fun t ht hW => ⟨⟨1, (), rfl, (by show _ = _; rw [e9]), by rw [ht]; exact hP, hD⟩, hS.F ht⟩) hS.2.2 dPr_holds_97
    by_cases h24 : (xq / 2) = 3
    · refine lv_tableIn (off := 108) (tgt := 124) hx hb dPr_holds_16 (by rw [h24]; decide) (by rw [h24]; decide) (by rw [h24]; rfl) (by decide) ?_
      refine lv_aload_n hx hb dPr_holds_124 rfl (lv_at hl 1 rfl) ?_
      refine va_get (D := D) (ci := 2) (v := .int fz) (C := RPr) (T := TPr) (N := 9) hx hb hw pinPr hown hE.1 hP 0 rfl rfl 6 (by decide) (hw _ wd_28) (fun _ h9 => h9) rfl dPr_holds_125 ?_
      refine lv_if_ne (tgt := 146) hx hb dPr_holds_128 (by decide) (fun h25 => ?_) (fun h25 => ?_)
      · refine lv_iconst (v := 0) hx hb dPr_holds_146 (by first | rfl | decide) ?_
        refine lv_iload_n hx hb dPr_holds_147 rfl (lv_at hl 0 rfl) ?_
        refine lv_icmp_eq (tgt := 155) hx hb dPr_holds_148 (by decide) (fun h9 => absurd h9 (by decide)) (fun _ => ?_)
        refine lv_iconst (v := 1) hx hb dPr_holds_151 (by first | rfl | decide) ?_
        refine lv_goto (tgt := 156) hx hb dPr_holds_152 (by decide) ?_
        have e9 : FPr_holds xq fn fz fc fv = 1 := by simp only [FPr_holds, if_pos h1, if_neg h18, if_neg h20, if_neg h22, if_pos h24, if_neg h25]
        exact W.zret (v := 1) hx hb hr rfl (fun t ht hW => ⟨⟨1, (), rfl, (by show _ = _; rw [e9]), by rw [ht]; exact hP, hD⟩, hS.F ht⟩) hS.2.2 dPr_holds_156
      · refine lv_aload_n hx hb dPr_holds_131 rfl (lv_at hl 1 rfl) ?_
        refine va_get (D := D) (ci := 2) (v := .int fn) (C := RPr) (T := TPr) (N := 9) hx hb hw pinPr hown hE.1 hP 0 rfl rfl 5 (by decide) (hw _ wd_27) (fun _ h9 => h9) rfl dPr_holds_132 ?_
        refine lv_aload_n hx hb dPr_holds_135 rfl (lv_at hl 1 rfl) ?_
        refine va_get (D := D) (ci := 2) (v := .int fv) (C := RPr) (T := TPr) (N := 9) hx hb hw pinPr hown hE.1 hP 0 rfl rfl 8 (by decide) (hw _ wd_30) (fun _ h9 => h9) rfl dPr_holds_136 ?_
        refine lv_icmp_ne (tgt := 146) hx hb dPr_holds_139 (by decide) (fun h26 => ?_) (fun h26 => ?_)
        · refine lv_iconst (v := 0) hx hb dPr_holds_146 (by first | rfl | decide) ?_
          refine lv_iload_n hx hb dPr_holds_147 rfl (lv_at hl 0 rfl) ?_
          refine lv_icmp_eq (tgt := 155) hx hb dPr_holds_148 (by decide) (fun h9 => absurd h9 (by decide)) (fun _ => ?_)
          refine lv_iconst (v := 1) hx hb dPr_holds_151 (by first | rfl | decide) ?_
          refine lv_goto (tgt := 156) hx hb dPr_holds_152 (by decide) ?_
          have e9 : FPr_holds xq fn fz fc fv = 1 := by simp only [FPr_holds, if_pos h1, if_neg h18, if_neg h20, if_neg h22, if_pos h24, if_pos h25, if_neg h26]
          exact W.zret (v := 1) hx hb hr rfl (fun t ht hW => ⟨⟨1, (), rfl, (by show _ = _; rw [e9]), by rw [ht]; exact hP, hD⟩, hS.F ht⟩) hS.2.2 dPr_holds_156
        · refine lv_iconst (v := 1) hx hb dPr_holds_142 (by first | rfl | decide) ?_
          refine lv_goto (tgt := 147) hx hb dPr_holds_143 (by decide) ?_
          refine lv_iload_n hx hb dPr_holds_147 rfl (lv_at hl 0 rfl) ?_
          refine lv_icmp_eq (tgt := 155) hx hb dPr_holds_148 (by decide) (fun _ => ?_) (fun h9 => absurd h9 (by decide))
          refine lv_iconst (v := 0) hx hb dPr_holds_155 (by first | rfl | decide) ?_
          have e9 : FPr_holds xq fn fz fc fv = 0 := by simp only [FPr_holds, if_pos h1, if_neg h18, if_neg h20, if_neg h22, if_pos h24, if_pos h25, if_pos h26]
          exact W.zret (v := 0) hx hb hr rfl (fun t ht hW => ⟨⟨0, (), rfl, (by show _ = _; rw [e9]), by rw [ht]; exact hP, hD⟩, hS.F ht⟩) hS.2.2 dPr_holds_156
    by_cases h27 : (xq / 2) = 4
    · refine lv_tableIn (off := 108) (tgt := 124) hx hb dPr_holds_16 (by rw [h27]; decide) (by rw [h27]; decide) (by rw [h27]; rfl) (by decide) ?_
      refine lv_aload_n hx hb dPr_holds_124 rfl (lv_at hl 1 rfl) ?_
      refine va_get (D := D) (ci := 2) (v := .int fz) (C := RPr) (T := TPr) (N := 9) hx hb hw pinPr hown hE.1 hP 0 rfl rfl 6 (by decide) (hw _ wd_28) (fun _ h9 => h9) rfl dPr_holds_125 ?_
      refine lv_if_ne (tgt := 146) hx hb dPr_holds_128 (by decide) (fun h28 => ?_) (fun h28 => ?_)
      · refine lv_iconst (v := 0) hx hb dPr_holds_146 (by first | rfl | decide) ?_
        refine lv_iload_n hx hb dPr_holds_147 rfl (lv_at hl 0 rfl) ?_
        refine lv_icmp_eq (tgt := 155) hx hb dPr_holds_148 (by decide) (fun h9 => absurd h9 (by decide)) (fun _ => ?_)
        refine lv_iconst (v := 1) hx hb dPr_holds_151 (by first | rfl | decide) ?_
        refine lv_goto (tgt := 156) hx hb dPr_holds_152 (by decide) ?_
        have e9 : FPr_holds xq fn fz fc fv = 1 := by simp only [FPr_holds, if_pos h1, if_neg h18, if_neg h20, if_neg h22, if_neg h24, if_pos h27, if_neg h28]
        exact W.zret (v := 1) hx hb hr rfl (fun t ht hW => ⟨⟨1, (), rfl, (by show _ = _; rw [e9]), by rw [ht]; exact hP, hD⟩, hS.F ht⟩) hS.2.2 dPr_holds_156
      · refine lv_aload_n hx hb dPr_holds_131 rfl (lv_at hl 1 rfl) ?_
        refine va_get (D := D) (ci := 2) (v := .int fn) (C := RPr) (T := TPr) (N := 9) hx hb hw pinPr hown hE.1 hP 0 rfl rfl 5 (by decide) (hw _ wd_27) (fun _ h9 => h9) rfl dPr_holds_132 ?_
        refine lv_aload_n hx hb dPr_holds_135 rfl (lv_at hl 1 rfl) ?_
        refine va_get (D := D) (ci := 2) (v := .int fv) (C := RPr) (T := TPr) (N := 9) hx hb hw pinPr hown hE.1 hP 0 rfl rfl 8 (by decide) (hw _ wd_30) (fun _ h9 => h9) rfl dPr_holds_136 ?_
        refine lv_icmp_ne (tgt := 146) hx hb dPr_holds_139 (by decide) (fun h29 => ?_) (fun h29 => ?_)
        · refine lv_iconst (v := 0) hx hb dPr_holds_146 (by first | rfl | decide) ?_
          refine lv_iload_n hx hb dPr_holds_147 rfl (lv_at hl 0 rfl) ?_
          refine lv_icmp_eq (tgt := 155) hx hb dPr_holds_148 (by decide) (fun h9 => absurd h9 (by decide)) (fun _ => ?_)
          refine lv_iconst (v := 1) hx hb dPr_holds_151 (by first | rfl | decide) ?_
          refine lv_goto (tgt := 156) hx hb dPr_holds_152 (by decide) ?_
          have e9 : FPr_holds xq fn fz fc fv = 1 := by simp only [FPr_holds, if_pos h1, if_neg h18, if_neg h20, if_neg h22, if_neg h24, if_pos h27, if_pos h28, if_neg h29]
          exact W.zret (v := 1) hx hb hr rfl (fun t ht hW => ⟨⟨1, (), rfl, (by show _ = _; rw [e9]), by rw [ht]; exact hP, hD⟩, hS.F ht⟩) hS.2.2 dPr_holds_156
        · refine lv_iconst (v := 1) hx hb dPr_holds_142 (by first | rfl | decide) ?_
          refine lv_goto (tgt := 147) hx hb dPr_holds_143 (by decide) ?_
          refine lv_iload_n hx hb dPr_holds_147 rfl (lv_at hl 0 rfl) ?_
          refine lv_icmp_eq (tgt := 155) hx hb dPr_holds_148 (by decide) (fun _ => ?_) (fun h9 => absurd h9 (by decide))
          refine lv_iconst (v := 0) hx hb dPr_holds_155 (by first | rfl | decide) ?_
          have e9 : FPr_holds xq fn fz fc fv = 0 := by simp only [FPr_holds, if_pos h1, if_neg h18, if_neg h20, if_neg h22, if_neg h24, if_pos h27, if_pos h28, if_pos h29]
          exact W.zret (v := 0) hx hb hr rfl (fun t ht hW => ⟨⟨0, (), rfl, (by show _ = _; rw [e9]), by rw [ht]; exact hP, hD⟩, hS.F ht⟩) hS.2.2 dPr_holds_156
    by_cases h30 : (xq / 2) = 5
    · refine lv_tableIn (off := 82) (tgt := 98) hx hb dPr_holds_16 (by rw [h30]; decide) (by rw [h30]; decide) (by rw [h30]; rfl) (by decide) ?_
      refine lv_aload_n hx hb dPr_holds_98 rfl (lv_at hl 1 rfl) ?_
      refine va_get (D := D) (ci := 2) (v := .int fn) (C := RPr) (T := TPr) (N := 9) hx hb hw pinPr hown hE.1 hP 0 rfl rfl 5 (by decide) (hw _ wd_27) (fun _ h9 => h9) rfl dPr_holds_99 ?_
      refine lv_aload_n hx hb dPr_holds_102 rfl (lv_at hl 1 rfl) ?_
      refine va_get (D := D) (ci := 2) (v := .int fv) (C := RPr) (T := TPr) (N := 9) hx hb hw pinPr hown hE.1 hP 0 rfl rfl 8 (by decide) (hw _ wd_30) (fun _ h9 => h9) rfl dPr_holds_103 ?_
      refine lv_icmp_ne (tgt := 113) hx hb dPr_holds_106 (by decide) (fun h31 => ?_) (fun h31 => ?_)
      · refine lv_iconst (v := 0) hx hb dPr_holds_113 (by first | rfl | decide) ?_
        refine lv_iload_n hx hb dPr_holds_114 rfl (lv_at hl 0 rfl) ?_
        refine lv_icmp_eq (tgt := 122) hx hb dPr_holds_115 (by decide) (fun h9 => absurd h9 (by decide)) (fun _ => ?_)
        refine lv_iconst (v := 1) hx hb dPr_holds_118 (by first | rfl | decide) ?_
        refine lv_goto (tgt := 123) hx hb dPr_holds_119 (by decide) ?_
        have e9 : FPr_holds xq fn fz fc fv = 1 := by simp only [FPr_holds, if_pos h1, if_neg h18, if_neg h20, if_neg h22, if_neg h24, if_neg h27, if_pos h30, if_neg h31]
        exact W.zret (v := 1) hx hb hr rfl (fun t ht hW => ⟨⟨1, (), rfl, (by show _ = _; rw [e9]), by rw [ht]; exact hP, hD⟩, hS.F ht⟩) hS.2.2 dPr_holds_123
      · refine lv_iconst (v := 1) hx hb dPr_holds_109 (by first | rfl | decide) ?_
        refine lv_goto (tgt := 114) hx hb dPr_holds_110 (by decide) ?_
        refine lv_iload_n hx hb dPr_holds_114 rfl (lv_at hl 0 rfl) ?_
        refine lv_icmp_eq (tgt := 122) hx hb dPr_holds_115 (by decide) (fun _ => ?_) (fun h9 => absurd h9 (by decide))
        refine lv_iconst (v := 0) hx hb dPr_holds_122 (by first | rfl | decide) ?_
        have e9 : FPr_holds xq fn fz fc fv = 0 := by simp only [FPr_holds, if_pos h1, if_neg h18, if_neg h20, if_neg h22, if_neg h24, if_neg h27, if_pos h30, if_pos h31]
        exact W.zret (v := 0) hx hb hr rfl (fun t ht hW => ⟨⟨0, (), rfl, (by show _ = _; rw [e9]), by rw [ht]; exact hP, hD⟩, hS.F ht⟩) hS.2.2 dPr_holds_123
    have th18 := pq_ne (x := xq / 2) (k := 0) (y := 0) (by first | rfl | decide) h18
    have th20 := pq_ne (x := xq / 2) (k := 1) (y := 1) (by first | rfl | decide) h20
    have th22 := pq_ne (x := xq / 2) (k := 2) (y := 2) (by first | rfl | decide) h22
    have th24 := pq_ne (x := xq / 2) (k := 3) (y := 3) (by first | rfl | decide) h24
    have th27 := pq_ne (x := xq / 2) (k := 4) (y := 4) (by first | rfl | decide) h27
    have th30 := pq_ne (x := xq / 2) (k := 5) (y := 5) (by first | rfl | decide) h30
    refine lv_tableOut (tgt := 124) hx hb dPr_holds_16 (by omega) (by decide) ?_
    refine lv_aload_n hx hb dPr_holds_124 rfl (lv_at hl 1 rfl) ?_
    refine va_get (D := D) (ci := 2) (v := .int fz) (C := RPr) (T := TPr) (N := 9) hx hb hw pinPr hown hE.1 hP 0 rfl rfl 6 (by decide) (hw _ wd_28) (fun _ h9 => h9) rfl dPr_holds_125 ?_
    refine lv_if_ne (tgt := 146) hx hb dPr_holds_128 (by decide) (fun h32 => ?_) (fun h32 => ?_)
    · refine lv_iconst (v := 0) hx hb dPr_holds_146 (by first | rfl | decide) ?_
      refine lv_iload_n hx hb dPr_holds_147 rfl (lv_at hl 0 rfl) ?_
      refine lv_icmp_eq (tgt := 155) hx hb dPr_holds_148 (by decide) (fun h9 => absurd h9 (by decide)) (fun _ => ?_)
      refine lv_iconst (v := 1) hx hb dPr_holds_151 (by first | rfl | decide) ?_
      refine lv_goto (tgt := 156) hx hb dPr_holds_152 (by decide) ?_
      have e9 : FPr_holds xq fn fz fc fv = 1 := by simp only [FPr_holds, if_pos h1, if_neg h18, if_neg h20, if_neg h22, if_neg h24, if_neg h27, if_neg h30, if_neg h32]
      exact W.zret (v := 1) hx hb hr rfl (fun t ht hW => ⟨⟨1, (), rfl, (by show _ = _; rw [e9]), by rw [ht]; exact hP, hD⟩, hS.F ht⟩) hS.2.2 dPr_holds_156
    · refine lv_aload_n hx hb dPr_holds_131 rfl (lv_at hl 1 rfl) ?_
      refine va_get (D := D) (ci := 2) (v := .int fn) (C := RPr) (T := TPr) (N := 9) hx hb hw pinPr hown hE.1 hP 0 rfl rfl 5 (by decide) (hw _ wd_27) (fun _ h9 => h9) rfl dPr_holds_132 ?_
      refine lv_aload_n hx hb dPr_holds_135 rfl (lv_at hl 1 rfl) ?_
      refine va_get (D := D) (ci := 2) (v := .int fv) (C := RPr) (T := TPr) (N := 9) hx hb hw pinPr hown hE.1 hP 0 rfl rfl 8 (by decide) (hw _ wd_30) (fun _ h9 => h9) rfl dPr_holds_136 ?_
      refine lv_icmp_ne (tgt := 146) hx hb dPr_holds_139 (by decide) (fun h33 => ?_) (fun h33 => ?_)
      · refine lv_iconst (v := 0) hx hb dPr_holds_146 (by first | rfl | decide) ?_
        refine lv_iload_n hx hb dPr_holds_147 rfl (lv_at hl 0 rfl) ?_
        refine lv_icmp_eq (tgt := 155) hx hb dPr_holds_148 (by decide) (fun h9 => absurd h9 (by decide)) (fun _ => ?_)
        refine lv_iconst (v := 1) hx hb dPr_holds_151 (by first | rfl | decide) ?_
        refine lv_goto (tgt := 156) hx hb dPr_holds_152 (by decide) ?_
        have e9 : FPr_holds xq fn fz fc fv = 1 := by simp only [FPr_holds, if_pos h1, if_neg h18, if_neg h20, if_neg h22, if_neg h24, if_neg h27, if_neg h30, if_pos h32, if_neg h33]
        exact W.zret (v := 1) hx hb hr rfl (fun t ht hW => ⟨⟨1, (), rfl, (by show _ = _; rw [e9]), by rw [ht]; exact hP, hD⟩, hS.F ht⟩) hS.2.2 dPr_holds_156
      · refine lv_iconst (v := 1) hx hb dPr_holds_142 (by first | rfl | decide) ?_
        refine lv_goto (tgt := 147) hx hb dPr_holds_143 (by decide) ?_
        refine lv_iload_n hx hb dPr_holds_147 rfl (lv_at hl 0 rfl) ?_
        refine lv_icmp_eq (tgt := 155) hx hb dPr_holds_148 (by decide) (fun _ => ?_) (fun h9 => absurd h9 (by decide))
        refine lv_iconst (v := 0) hx hb dPr_holds_155 (by first | rfl | decide) ?_
        have e9 : FPr_holds xq fn fz fc fv = 0 := by simp only [FPr_holds, if_pos h1, if_neg h18, if_neg h20, if_neg h22, if_neg h24, if_neg h27, if_neg h30, if_pos h32, if_pos h33]
        exact W.zret (v := 0) hx hb hr rfl (fun t ht hW => ⟨⟨0, (), rfl, (by show _ = _; rw [e9]), by rw [ht]; exact hP, hD⟩, hS.F ht⟩) hS.2.2 dPr_holds_156
def FPr_branchIf (xh : Int32) (rp : Int32) (fn : Int32) (fz : Int32) (fc : Int32) (fv : Int32) : Int32 × Int32 := if (FFo_isCondition ((xh >>> ((8 : Int32) &&& 31)) &&& (15 : Int32))) = 0 then (2, rp) else if (FPr_holds ((xh >>> ((8 : Int32) &&& 31)) &&& (15 : Int32)) fn fz fc fv) = 0 then (((FPr_next rp).1), (FPr_next rp).2) else (((FPr_branch xh.toInt8.toInt32 rp).1), (FPr_branch xh.toInt8.toInt32 rp).2)
set_option maxHeartbeats 4000000 in
set_option maxRecDepth 100000 in
theorem k_Pr_branchIf (l : Launch) (D : va_G) (ad : Nat → Nat) (cI cS : ClassId) (xh : Int32) (rp : Int32) (re : Int32) (fn : Int32) (fz : Int32) (fc : Int32) (fv : Int32) (rr : Nat → Int32) (rw : Nat → Int32) (gn : Int32) (gp : Int32) (gh : Nat → Int32) : pq_I l yPr_branchIf (.code yPr_branchIf cPr_branchIf 3 (some .int) :: pq_ws) { frames := 1, cells := 0, slots := 0, locals := 22 } D cI cS [.ref (ad 4), .int xh] (wP ad cI cS rp re fn fz fc fv rr rw gn gp gh) ((FPr_branchIf xh rp fn fz fc fv).1) (wP ad cI cS ((FPr_branchIf xh rp fn fz fc fv).2) re fn fz fc fv rr rw gn gp gh) := by
  intro sz
  refine Met.ofW (cc := cPr_branchIf) (maxL := 3) (ret := (some .int)) (by decide) rfl ?_
  intro p e s m args below meth c s₁ B hml hv
  obtain ⟨rfl, hsz, hP, hD0, hE⟩ := hv
  have hx := B.exec
  have hb := B.bytes
  have hr := B.returns
  have hts := atoms_spec (ws := (.code yPr_branchIf cPr_branchIf 3 (some .int) :: pq_ws : List Cond)) B.pre
  have hw : ∀ w ∈ pq_ws, w.before _ s = true := fun w h => hts w (List.mem_cons_of_mem _ h)
  have hown : s.vm.findClass RPr = some m.cls := findClass_of_methodNamed B.named
  have hlocks := B.notSynchronized
  subst hsz
  have hD := hD0.self (sz := s.heap.size)
  have hA : ∀ q : Nat, s.heap.size ≤ q → va_A (wP ad cI cS rp re fn fz fc fv rr rw gn gp gh) s.heap.size q := fun q h => Or.inr h
  have hS : va_S (va_A (wP ad cI cS rp re fn fz fc fv rr rw gn gp gh) s.heap.size) s.heap s.heap [] := va_S.rf
  have hl := lv_entry ([.ref (ad 4), .int xh] : List Value) (n := 3) (Nat.le_of_ble_eq_true rfl)
  rw [lg_entry_eq]
  generalize (lg_sl ([.ref (ad 4), .int xh] : List Value) ++ List.replicate (3 - (lg_sl ([.ref (ad 4), .int xh] : List Value)).length) Slot.unset).toArray = ls at hl ⊢
  have hl : lv_has ls 3 [(0, .ref (ad 4)), (1, .int xh)] := hl
  refine lv_iload_n hx hb dPr_branchIf_0 rfl (lv_at hl 1 rfl) ?_
  refine lv_bipush (v := 8) hx hb dPr_branchIf_1 (by first | rfl | decide) ?_
  refine lv_ishr hx hb dPr_branchIf_3 ?_
  refine lv_bipush (v := 15) hx hb dPr_branchIf_4 (by first | rfl | decide) ?_
  refine lv_iand hx hb dPr_branchIf_6 ?_
  refine lv_istore_n (lv' := [(2, .int ((xh >>> ((8 : Int32) &&& 31)) &&& (15 : Int32))), (0, .ref (ad 4)), (1, .int xh)]) hx hb dPr_branchIf_7 rfl hl (by decide) rfl (fun ls hl => ?_)
  refine lv_iload_n hx hb dPr_branchIf_8 rfl (lv_at hl 0 rfl) ?_
  refine pq_calli (fr := (FFo_isCondition ((xh >>> ((8 : Int32) &&& 31)) &&& (15 : Int32)))) (wc := (wN ad cI cS)) (wr := ([0, 1, 2, 3, 4] : List Nat).filterMap (fun i => (wP ad cI cS rp re fn fz fc fv rr rw gn gp gh)[i]?)) hP hD hS hA [] [0, 1, 2, 3, 4] rfl rfl (by decide) (by decide) (va_runSN (own := RPr) (As := [.int ((xh >>> ((8 : Int32) &&& 31)) &&& (15 : Int32))]) (rest := []) ⟨hx, hb, hml, hown, hw⟩ (k_Fo_isCondition l D ad cI cS ((xh >>> ((8 : Int32) &&& 31)) &&& (15 : Int32)) s.heap.size) ⟨pq_cnB 1 hw (hE.2 _ nw_0) wd_1 wd_10 rfl rfl (by decide +kernel) ⟨Nat.le_of_ble_eq_true rfl, Nat.le_of_ble_eq_true rfl⟩, hw _ wd_12, trivial⟩ (pq_preS hE (hP.sub [] rfl) (hD.sub [] (by decide) rfl)) rfl rfl hl.1 rfl (lv_room (Nat.le_of_ble_eq_true rfl)) dPr_branchIf_9 ⟨Nat.zero_le _, Nat.zero_le _⟩) (fun H locs hP hD hS => ?_)
  have hP : va_P D vwCl (wP ad cI cS rp re fn fz fc fv rr rw gn gp gh) H := hP.sub [0, 1, 2, 3, 4] rfl
  have hD : va_D _ (wP ad cI cS rp re fn fz fc fv rr rw gn gp gh) := hD.sub [0, 1, 2, 3, 4] (by decide) rfl
  refine lv_if_ne (tgt := 17) hx hb dPr_branchIf_12 (by decide) (fun h1 => ?_) (fun h1 => ?_)
  · refine lv_aload_n hx hb dPr_branchIf_17 rfl (lv_at hl 1 rfl) ?_
    refine lv_iload_n hx hb dPr_branchIf_18 rfl (lv_at hl 0 rfl) ?_
    refine pq_calli (fr := (FPr_holds ((xh >>> ((8 : Int32) &&& 31)) &&& (15 : Int32)) fn fz fc fv)) (wc := (wP ad cI cS rp re fn fz fc fv rr rw gn gp gh)) (wr := ([] : List Nat).filterMap (fun i => (wP ad cI cS rp re fn fz fc fv rr rw gn gp gh)[i]?)) hP hD hS hA [0, 1, 2, 3, 4] [] rfl rfl (by decide) (by decide) (va_runV (own := RPr) (C := RPr) (As := [.int ((xh >>> ((8 : Int32) &&& 31)) &&& (15 : Int32))]) (rest := []) ⟨hx, hb, hml, hown, hw⟩ (k_Pr_holds l D ad cI cS ((xh >>> ((8 : Int32) &&& 31)) &&& (15 : Int32)) rp re fn fz fc fv rr rw gn gp gh H.size) ⟨pq_cwB 1 hw wd_34 wd_33 wd_32 rfl rfl (by decide +kernel) ⟨Nat.le_of_ble_eq_true rfl, Nat.le_of_ble_eq_true rfl⟩, hw _ wd_35, hw _ wd_36⟩ (pq_preV (ci := 2) (C := RPr) (T := TPr) (N := 9) hE (hP.sub [0, 1, 2, 3, 4] rfl) (hD.sub [0, 1, 2, 3, 4] (by decide) rfl) rfl 0 rfl) rfl rfl hl.1 rfl (lv_room (Nat.le_of_ble_eq_true rfl)) dPr_branchIf_19 ⟨Nat.zero_le _, Nat.zero_le _⟩) (fun H locs hP hD hS => ?_)
    have hP : va_P D vwCl (wP ad cI cS rp re fn fz fc fv rr rw gn gp gh) H := hP.sub [0, 1, 2, 3, 4] rfl
    have hD : va_D _ (wP ad cI cS rp re fn fz fc fv rr rw gn gp gh) := hD.sub [0, 1, 2, 3, 4] (by decide) rfl
    refine lv_if_eq (tgt := 34) hx hb dPr_branchIf_22 (by decide) (fun h2 => ?_) (fun h2 => ?_)
    · refine lv_aload_n hx hb dPr_branchIf_34 rfl (lv_at hl 1 rfl) ?_
      refine pq_calli (fr := ((FPr_next rp).1)) (wc := (wP ad cI cS rp re fn fz fc fv rr rw gn gp gh)) (wr := ([] : List Nat).filterMap (fun i => (wP ad cI cS rp re fn fz fc fv rr rw gn gp gh)[i]?)) hP hD hS hA [0, 1, 2, 3, 4] [] rfl rfl (by decide) (by decide) (va_runV (own := RPr) (C := RPr) (As := []) (rest := []) ⟨hx, hb, hml, hown, hw⟩ (k_Pr_next l D ad cI cS rp re fn fz fc fv rr rw gn gp gh H.size) ⟨pq_cwB 0 hw wd_38 wd_33 wd_37 rfl rfl (by decide +kernel) ⟨Nat.le_of_ble_eq_true rfl, Nat.le_of_ble_eq_true rfl⟩, hw _ wd_39, hw _ wd_40⟩ (pq_preV (ci := 2) (C := RPr) (T := TPr) (N := 9) hE (hP.sub [0, 1, 2, 3, 4] rfl) (hD.sub [0, 1, 2, 3, 4] (by decide) rfl) rfl 0 rfl) rfl rfl hl.1 rfl (lv_room (Nat.le_of_ble_eq_true rfl)) dPr_branchIf_35 ⟨Nat.zero_le _, Nat.zero_le _⟩) (fun H locs hP hD hS => ?_)
      have hP : va_P D vwCl (wP ad cI cS ((FPr_next rp).2) re fn fz fc fv rr rw gn gp gh) H := hP.sub [0, 1, 2, 3, 4] rfl
      have hD : va_D _ (wP ad cI cS ((FPr_next rp).2) re fn fz fc fv rr rw gn gp gh) := hD.sub [0, 1, 2, 3, 4] (by decide) rfl
      have e9 : FPr_branchIf xh rp fn fz fc fv = (((FPr_next rp).1), (FPr_next rp).2) := by simp only [FPr_branchIf, if_neg h1, if_pos h2]
      exact W.iret (v := ((FPr_next rp).1)) hx hb hr (fun t ht hW => ⟨⟨((FPr_next rp).1), (), rfl, (by show _ = _; rw [e9]), by rw [e9, ht]; exact hP, by rw [e9]; exact hD⟩, hS.F ht⟩) hS.2.2 dPr_branchIf_38
    · refine lv_aload_n hx hb dPr_branchIf_25 rfl (lv_at hl 1 rfl) ?_
      refine lv_iload_n hx hb dPr_branchIf_26 rfl (lv_at hl 2 rfl) ?_
      refine lv_i2b hx hb dPr_branchIf_27 rfl ?_
      refine pq_calli (fr := ((FPr_branch xh.toInt8.toInt32 rp).1)) (wc := (wP ad cI cS rp re fn fz fc fv rr rw gn gp gh)) (wr := ([] : List Nat).filterMap (fun i => (wP ad cI cS rp re fn fz fc fv rr rw gn gp gh)[i]?)) hP hD hS hA [0, 1, 2, 3, 4] [] rfl rfl (by decide) (by decide) (va_runV (own := RPr) (C := RPr) (As := [.int xh.toInt8.toInt32]) (rest := []) ⟨hx, hb, hml, hown, hw⟩ (k_Pr_branch l D ad cI cS xh.toInt8.toInt32 rp re fn fz fc fv rr rw gn gp gh H.size) ⟨pq_cwB 1 hw wd_42 wd_33 wd_41 rfl rfl (by decide +kernel) ⟨Nat.le_of_ble_eq_true rfl, Nat.le_of_ble_eq_true rfl⟩, hw _ wd_43, hw _ wd_44⟩ (pq_preV (ci := 2) (C := RPr) (T := TPr) (N := 9) hE (hP.sub [0, 1, 2, 3, 4] rfl) (hD.sub [0, 1, 2, 3, 4] (by decide) rfl) rfl 0 rfl) rfl rfl hl.1 rfl (lv_room (Nat.le_of_ble_eq_true rfl)) dPr_branchIf_28 ⟨Nat.zero_le _, Nat.zero_le _⟩) (fun H locs hP hD hS => ?_)
      have hP : va_P D vwCl (wP ad cI cS ((FPr_branch xh.toInt8.toInt32 rp).2) re fn fz fc fv rr rw gn gp gh) H := hP.sub [0, 1, 2, 3, 4] rfl
      have hD : va_D _ (wP ad cI cS ((FPr_branch xh.toInt8.toInt32 rp).2) re fn fz fc fv rr rw gn gp gh) := hD.sub [0, 1, 2, 3, 4] (by decide) rfl
      refine lv_goto (tgt := 38) hx hb dPr_branchIf_31 (by decide) ?_
      have e9 : FPr_branchIf xh rp fn fz fc fv = (((FPr_branch xh.toInt8.toInt32 rp).1), (FPr_branch xh.toInt8.toInt32 rp).2) := by simp only [FPr_branchIf, if_neg h1, if_neg h2]
      exact W.iret (v := ((FPr_branch xh.toInt8.toInt32 rp).1)) hx hb hr (fun t ht hW => ⟨⟨((FPr_branch xh.toInt8.toInt32 rp).1), (), rfl, (by show _ = _; rw [e9]), by rw [e9, ht]; exact hP, by rw [e9]; exact hD⟩, hS.F ht⟩) hS.2.2 dPr_branchIf_38
  · refine lv_iconst (v := 2) hx hb dPr_branchIf_15 (by first | rfl | decide) ?_
    have e9 : FPr_branchIf xh rp fn fz fc fv = (2, rp) := by simp only [FPr_branchIf, if_pos h1]
    exact W.iret (v := 2) hx hb hr (fun t ht hW => ⟨⟨2, (), rfl, (by show _ = _; rw [e9]), by rw [e9, ht]; exact hP, by rw [e9]; exact hD⟩, hS.F ht⟩) hS.2.2 dPr_branchIf_16
def FPr_noted (xv : Int32) : Int32 × Int32 × Int32 := if 0 ≤ xv then if xv = 0 then (xv, 0, 1) else (xv, 0, 0) else if xv = 0 then (xv, 1, 1) else (xv, 1, 0)
set_option maxHeartbeats 4000000 in
set_option maxRecDepth 100000 in
theorem k_Pr_noted (l : Launch) (D : va_G) (ad : Nat → Nat) (cI cS : ClassId) (xv : Int32) (rp : Int32) (re : Int32) (fn : Int32) (fz : Int32) (fc : Int32) (fv : Int32) (rr : Nat → Int32) (rw : Nat → Int32) (gn : Int32) (gp : Int32) (gh : Nat → Int32) : pq_I l yPr_noted (.code yPr_noted cPr_noted 2 (some .int) :: pq_ws) { frames := 0, cells := 0, slots := 0, locals := 0 } D cI cS [.ref (ad 4), .int xv] (wP ad cI cS rp re fn fz fc fv rr rw gn gp gh) ((FPr_noted xv).1) (wP ad cI cS rp re ((FPr_noted xv).2.1) ((FPr_noted xv).2.2) fc fv rr rw gn gp gh) := by
  intro sz
  refine Met.ofW (cc := cPr_noted) (maxL := 2) (ret := (some .int)) (by decide) rfl ?_
  intro p e s m args below meth c s₁ B hml hv
  obtain ⟨rfl, hsz, hP, hD0, hE⟩ := hv
  have hx := B.exec
  have hb := B.bytes
  have hr := B.returns
  have hts := atoms_spec (ws := (.code yPr_noted cPr_noted 2 (some .int) :: pq_ws : List Cond)) B.pre
  have hw : ∀ w ∈ pq_ws, w.before _ s = true := fun w h => hts w (List.mem_cons_of_mem _ h)
  have hown : s.vm.findClass RPr = some m.cls := findClass_of_methodNamed B.named
  have hlocks := B.notSynchronized
  subst hsz
  have hD := hD0.self (sz := s.heap.size)
  have hA : ∀ q : Nat, s.heap.size ≤ q → va_A (wP ad cI cS rp re fn fz fc fv rr rw gn gp gh) s.heap.size q := fun q h => Or.inr h
  have hS : va_S (va_A (wP ad cI cS rp re fn fz fc fv rr rw gn gp gh) s.heap.size) s.heap s.heap [] := va_S.rf
  have hl := lv_entry ([.ref (ad 4), .int xv] : List Value) (n := 2) (Nat.le_of_ble_eq_true rfl)
  rw [lg_entry_eq]
  generalize (lg_sl ([.ref (ad 4), .int xv] : List Value) ++ List.replicate (2 - (lg_sl ([.ref (ad 4), .int xv] : List Value)).length) Slot.unset).toArray = ls at hl ⊢
  have hl : lv_has ls 2 [(0, .ref (ad 4)), (1, .int xv)] := hl
  refine lv_aload_n hx hb dPr_noted_0 rfl (lv_at hl 0 rfl) ?_
  refine lv_iload_n hx hb dPr_noted_1 rfl (lv_at hl 1 rfl) ?_
  refine lv_if_ge (tgt := 9) hx hb dPr_noted_2 (by decide) (fun h1 => ?_) (fun h1 => ?_)
  · refine lv_iconst (v := 0) hx hb dPr_noted_9 (by first | rfl | decide) ?_
    refine va_put (D := D) (ci := 2) (v := .int 0) (ty := .boolean) (C := RPr) (T := TPr) (N := 9) hx hb hw pinPr tyPr tyPr_ok nmPr hown hE.1 hP hD hS 0 rfl rfl 5 (by decide) (hw _ wd_27) (fun _ h9 => h9) rfl (by decide +kernel) rfl rfl (Nat.le_of_ble_eq_true rfl) dPr_noted_10 (fun H locs hP hD hS => ?_)
    have hP : va_P D vwCl (wP ad cI cS rp re 0 fz fc fv rr rw gn gp gh) H := hP
    have hD : va_D _ (wP ad cI cS rp re 0 fz fc fv rr rw gn gp gh) := hD
    refine lv_aload_n hx hb dPr_noted_13 rfl (lv_at hl 0 rfl) ?_
    refine lv_iload_n hx hb dPr_noted_14 rfl (lv_at hl 1 rfl) ?_
    refine lv_if_ne (tgt := 22) hx hb dPr_noted_15 (by decide) (fun h2 => ?_) (fun h2 => ?_)
    · refine lv_iconst (v := 0) hx hb dPr_noted_22 (by first | rfl | decide) ?_
      refine va_put (D := D) (ci := 2) (v := .int 0) (ty := .boolean) (C := RPr) (T := TPr) (N := 9) hx hb hw pinPr tyPr tyPr_ok nmPr hown hE.1 hP hD hS 0 rfl rfl 6 (by decide) (hw _ wd_28) (fun _ h9 => h9) rfl (by decide +kernel) rfl rfl (Nat.le_of_ble_eq_true rfl) dPr_noted_23 (fun H locs hP hD hS => ?_)
      have hP : va_P D vwCl (wP ad cI cS rp re 0 0 fc fv rr rw gn gp gh) H := hP
      have hD : va_D _ (wP ad cI cS rp re 0 0 fc fv rr rw gn gp gh) := hD
      refine lv_iload_n hx hb dPr_noted_26 rfl (lv_at hl 1 rfl) ?_
      have e9 : FPr_noted xv = (xv, 0, 0) := by simp only [FPr_noted, if_pos h1, if_neg h2]
      exact W.iret (v := xv) hx hb hr (fun t ht hW => ⟨⟨xv, (), rfl, (by show _ = _; rw [e9]), by rw [e9, ht]; exact hP, by rw [e9]; exact hD⟩, hS.F ht⟩) hS.2.2 dPr_noted_27
    · refine lv_iconst (v := 1) hx hb dPr_noted_18 (by first | rfl | decide) ?_
      refine lv_goto (tgt := 23) hx hb dPr_noted_19 (by decide) ?_
      refine va_put (D := D) (ci := 2) (v := .int 1) (ty := .boolean) (C := RPr) (T := TPr) (N := 9) hx hb hw pinPr tyPr tyPr_ok nmPr hown hE.1 hP hD hS 0 rfl rfl 6 (by decide) (hw _ wd_28) (fun _ h9 => h9) rfl (by decide +kernel) rfl rfl (Nat.le_of_ble_eq_true rfl) dPr_noted_23 (fun H locs hP hD hS => ?_)
      have hP : va_P D vwCl (wP ad cI cS rp re 0 1 fc fv rr rw gn gp gh) H := hP
      have hD : va_D _ (wP ad cI cS rp re 0 1 fc fv rr rw gn gp gh) := hD
      refine lv_iload_n hx hb dPr_noted_26 rfl (lv_at hl 1 rfl) ?_
      have e9 : FPr_noted xv = (xv, 0, 1) := by simp only [FPr_noted, if_pos h1, if_pos h2]
      exact W.iret (v := xv) hx hb hr (fun t ht hW => ⟨⟨xv, (), rfl, (by show _ = _; rw [e9]), by rw [e9, ht]; exact hP, by rw [e9]; exact hD⟩, hS.F ht⟩) hS.2.2 dPr_noted_27
  · refine lv_iconst (v := 1) hx hb dPr_noted_5 (by first | rfl | decide) ?_
    refine lv_goto (tgt := 10) hx hb dPr_noted_6 (by decide) ?_
    refine va_put (D := D) (ci := 2) (v := .int 1) (ty := .boolean) (C := RPr) (T := TPr) (N := 9) hx hb hw pinPr tyPr tyPr_ok nmPr hown hE.1 hP hD hS 0 rfl rfl 5 (by decide) (hw _ wd_27) (fun _ h9 => h9) rfl (by decide +kernel) rfl rfl (Nat.le_of_ble_eq_true rfl) dPr_noted_10 (fun H locs hP hD hS => ?_)
    have hP : va_P D vwCl (wP ad cI cS rp re 1 fz fc fv rr rw gn gp gh) H := hP
    have hD : va_D _ (wP ad cI cS rp re 1 fz fc fv rr rw gn gp gh) := hD
    refine lv_aload_n hx hb dPr_noted_13 rfl (lv_at hl 0 rfl) ?_
    refine lv_iload_n hx hb dPr_noted_14 rfl (lv_at hl 1 rfl) ?_
    refine lv_if_ne (tgt := 22) hx hb dPr_noted_15 (by decide) (fun h3 => ?_) (fun h3 => ?_)
    · refine lv_iconst (v := 0) hx hb dPr_noted_22 (by first | rfl | decide) ?_
      refine va_put (D := D) (ci := 2) (v := .int 0) (ty := .boolean) (C := RPr) (T := TPr) (N := 9) hx hb hw pinPr tyPr tyPr_ok nmPr hown hE.1 hP hD hS 0 rfl rfl 6 (by decide) (hw _ wd_28) (fun _ h9 => h9) rfl (by decide +kernel) rfl rfl (Nat.le_of_ble_eq_true rfl) dPr_noted_23 (fun H locs hP hD hS => ?_)
      have hP : va_P D vwCl (wP ad cI cS rp re 1 0 fc fv rr rw gn gp gh) H := hP
      have hD : va_D _ (wP ad cI cS rp re 1 0 fc fv rr rw gn gp gh) := hD
      refine lv_iload_n hx hb dPr_noted_26 rfl (lv_at hl 1 rfl) ?_
      have e9 : FPr_noted xv = (xv, 1, 0) := by simp only [FPr_noted, if_neg h1, if_neg h3]
      exact W.iret (v := xv) hx hb hr (fun t ht hW => ⟨⟨xv, (), rfl, (by show _ = _; rw [e9]), by rw [e9, ht]; exact hP, by rw [e9]; exact hD⟩, hS.F ht⟩) hS.2.2 dPr_noted_27
    · refine lv_iconst (v := 1) hx hb dPr_noted_18 (by first | rfl | decide) ?_
      refine lv_goto (tgt := 23) hx hb dPr_noted_19 (by decide) ?_
      refine va_put (D := D) (ci := 2) (v := .int 1) (ty := .boolean) (C := RPr) (T := TPr) (N := 9) hx hb hw pinPr tyPr tyPr_ok nmPr hown hE.1 hP hD hS 0 rfl rfl 6 (by decide) (hw _ wd_28) (fun _ h9 => h9) rfl (by decide +kernel) rfl rfl (Nat.le_of_ble_eq_true rfl) dPr_noted_23 (fun H locs hP hD hS => ?_)
      have hP : va_P D vwCl (wP ad cI cS rp re 1 1 fc fv rr rw gn gp gh) H := hP
      have hD : va_D _ (wP ad cI cS rp re 1 1 fc fv rr rw gn gp gh) := hD
      refine lv_iload_n hx hb dPr_noted_26 rfl (lv_at hl 1 rfl) ?_
      have e9 : FPr_noted xv = (xv, 1, 1) := by simp only [FPr_noted, if_neg h1, if_pos h3]
      exact W.iret (v := xv) hx hb hr (fun t ht hW => ⟨⟨xv, (), rfl, (by show _ = _; rw [e9]), by rw [e9, ht]; exact hP, by rw [e9]; exact hD⟩, hS.F ht⟩) hS.2.2 dPr_noted_27
def FPr_sum (xx : Int32) (xy : Int32) : Int32 × Int32 × Int32 × Int32 × Int32 := if (lg_cmp ((xx.toInt64 &&& (4294967295 : Int64)) + (xy.toInt64 &&& (4294967295 : Int64))) 4294967295) ≤ 0 then if 0 ≤ ((xx ^^^ (xx + xy)) &&& (xy ^^^ (xx + xy))) then ((FPr_noted (xx + xy)).1, (FPr_noted (xx + xy)).2.1, (FPr_noted (xx + xy)).2.2, 0, 0) else ((FPr_noted (xx + xy)).1, (FPr_noted (xx + xy)).2.1, (FPr_noted (xx + xy)).2.2, 0, 1) else if 0 ≤ ((xx ^^^ (xx + xy)) &&& (xy ^^^ (xx + xy))) then ((FPr_noted (xx + xy)).1, (FPr_noted (xx + xy)).2.1, (FPr_noted (xx + xy)).2.2, 1, 0) else ((FPr_noted (xx + xy)).1, (FPr_noted (xx + xy)).2.1, (FPr_noted (xx + xy)).2.2, 1, 1)
set_option maxHeartbeats 4000000 in
set_option maxRecDepth 100000 in
theorem k_Pr_sum (l : Launch) (D : va_G) (ad : Nat → Nat) (cI cS : ClassId) (xx : Int32) (xy : Int32) (rp : Int32) (re : Int32) (fn : Int32) (fz : Int32) (fc : Int32) (fv : Int32) (rr : Nat → Int32) (rw : Nat → Int32) (gn : Int32) (gp : Int32) (gh : Nat → Int32) : pq_I l yPr_sum (.code yPr_sum cPr_sum 4 (some .int) :: pq_ws) { frames := 1, cells := 0, slots := 0, locals := 21 } D cI cS [.ref (ad 4), .int xx, .int xy] (wP ad cI cS rp re fn fz fc fv rr rw gn gp gh) ((FPr_sum xx xy).1) (wP ad cI cS rp re ((FPr_sum xx xy).2.1) ((FPr_sum xx xy).2.2.1) ((FPr_sum xx xy).2.2.2.1) ((FPr_sum xx xy).2.2.2.2) rr rw gn gp gh) := by
  intro sz
  refine Met.ofW (cc := cPr_sum) (maxL := 4) (ret := (some .int)) (by decide) rfl ?_
  intro p e s m args below meth c s₁ B hml hv
  obtain ⟨rfl, hsz, hP, hD0, hE⟩ := hv
  have hx := B.exec
  have hb := B.bytes
  have hr := B.returns
  have hts := atoms_spec (ws := (.code yPr_sum cPr_sum 4 (some .int) :: pq_ws : List Cond)) B.pre
  have hw : ∀ w ∈ pq_ws, w.before _ s = true := fun w h => hts w (List.mem_cons_of_mem _ h)
  have hown : s.vm.findClass RPr = some m.cls := findClass_of_methodNamed B.named
  have hlocks := B.notSynchronized
  subst hsz
  have hD := hD0.self (sz := s.heap.size)
  have hA : ∀ q : Nat, s.heap.size ≤ q → va_A (wP ad cI cS rp re fn fz fc fv rr rw gn gp gh) s.heap.size q := fun q h => Or.inr h
  have hS : va_S (va_A (wP ad cI cS rp re fn fz fc fv rr rw gn gp gh) s.heap.size) s.heap s.heap [] := va_S.rf
  have hl := lv_entry ([.ref (ad 4), .int xx, .int xy] : List Value) (n := 4) (Nat.le_of_ble_eq_true rfl)
  rw [lg_entry_eq]
  generalize (lg_sl ([.ref (ad 4), .int xx, .int xy] : List Value) ++ List.replicate (4 - (lg_sl ([.ref (ad 4), .int xx, .int xy] : List Value)).length) Slot.unset).toArray = ls at hl ⊢
  have hl : lv_has ls 4 [(0, .ref (ad 4)), (1, .int xx), (2, .int xy)] := hl
  refine lv_iload_n hx hb dPr_sum_0 rfl (lv_at hl 1 rfl) ?_
  refine lv_iload_n hx hb dPr_sum_1 rfl (lv_at hl 2 rfl) ?_
  refine lv_iadd hx hb dPr_sum_2 ?_
  refine lv_istore_n (lv' := [(3, .int (xx + xy)), (0, .ref (ad 4)), (1, .int xx), (2, .int xy)]) hx hb dPr_sum_3 rfl hl (by decide) rfl (fun ls hl => ?_)
  refine lv_aload_n hx hb dPr_sum_4 rfl (lv_at hl 1 rfl) ?_
  refine lv_iload_n hx hb dPr_sum_5 rfl (lv_at hl 2 rfl) ?_
  refine lv_i2l hx hb dPr_sum_6 rfl ?_
  refine lv_ldc2 hx hb hown (hw _ wd_45) dPr_sum_7 ?_
  refine lv_land hx hb dPr_sum_10 ?_
  refine lv_iload_n hx hb dPr_sum_11 rfl (lv_at hl 3 rfl) ?_
  refine lv_i2l hx hb dPr_sum_12 rfl ?_
  refine lv_ldc2 hx hb hown (hw _ wd_45) dPr_sum_13 ?_
  refine lv_land hx hb dPr_sum_16 ?_
  refine lv_ladd hx hb dPr_sum_17 ?_
  refine lv_ldc2 hx hb hown (hw _ wd_45) dPr_sum_18 ?_
  refine W.lcmp hx hb dPr_sum_21 ?_
  refine lv_if_le (tgt := 29) hx hb dPr_sum_22 (by decide) (fun h1 => ?_) (fun h1 => ?_)
  · refine lv_iconst (v := 0) hx hb dPr_sum_29 (by first | rfl | decide) ?_
    refine va_put (D := D) (ci := 2) (v := .int 0) (ty := .boolean) (C := RPr) (T := TPr) (N := 9) hx hb hw pinPr tyPr tyPr_ok nmPr hown hE.1 hP hD hS 0 rfl rfl 7 (by decide) (hw _ wd_29) (fun _ h9 => h9) rfl (by decide +kernel) rfl rfl (Nat.le_of_ble_eq_true rfl) dPr_sum_30 (fun H locs hP hD hS => ?_)
    have hP : va_P D vwCl (wP ad cI cS rp re fn fz 0 fv rr rw gn gp gh) H := hP
    have hD : va_D _ (wP ad cI cS rp re fn fz 0 fv rr rw gn gp gh) := hD
    refine lv_aload_n hx hb dPr_sum_33 rfl (lv_at hl 1 rfl) ?_
    refine lv_iload_n hx hb dPr_sum_34 rfl (lv_at hl 2 rfl) ?_
    refine lv_iload_n hx hb dPr_sum_35 rfl (lv_at hl 0 rfl) ?_
    refine lv_ixor hx hb dPr_sum_36 ?_
    refine lv_iload_n hx hb dPr_sum_37 rfl (lv_at hl 3 rfl) ?_
    refine lv_iload_n hx hb dPr_sum_38 rfl (lv_at hl 0 rfl) ?_
    refine lv_ixor hx hb dPr_sum_39 ?_
    refine lv_iand hx hb dPr_sum_40 ?_
    refine lv_if_ge (tgt := 48) hx hb dPr_sum_41 (by decide) (fun h2 => ?_) (fun h2 => ?_)
    · refine lv_iconst (v := 0) hx hb dPr_sum_48 (by first | rfl | decide) ?_
      refine va_put (D := D) (ci := 2) (v := .int 0) (ty := .boolean) (C := RPr) (T := TPr) (N := 9) hx hb hw pinPr tyPr tyPr_ok nmPr hown hE.1 hP hD hS 0 rfl rfl 8 (by decide) (hw _ wd_30) (fun _ h9 => h9) rfl (by decide +kernel) rfl rfl (Nat.le_of_ble_eq_true rfl) dPr_sum_49 (fun H locs hP hD hS => ?_)
      have hP : va_P D vwCl (wP ad cI cS rp re fn fz 0 0 rr rw gn gp gh) H := hP
      have hD : va_D _ (wP ad cI cS rp re fn fz 0 0 rr rw gn gp gh) := hD
      refine lv_aload_n hx hb dPr_sum_52 rfl (lv_at hl 1 rfl) ?_
      refine lv_iload_n hx hb dPr_sum_53 rfl (lv_at hl 0 rfl) ?_
      obtain ⟨g1, hg1⟩ : ∃ g9, FPr_noted (xx + xy) = g9 := ⟨_, rfl⟩
      have cg1 := k_Pr_noted l D ad cI cS (xx + xy) rp re fn fz 0 0 rr rw gn gp gh
      rw [hg1] at cg1
      refine pq_calli (fr := g1.1) (wc := (wP ad cI cS rp re fn fz 0 0 rr rw gn gp gh)) (wr := ([] : List Nat).filterMap (fun i => (wP ad cI cS rp re fn fz 0 0 rr rw gn gp gh)[i]?)) hP hD hS hA [0, 1, 2, 3, 4] [] rfl rfl (by decide) (by decide) (va_runV (own := RPr) (C := RPr) (As := [.int (xx + xy)]) (rest := []) ⟨hx, hb, hml, hown, hw⟩ (cg1 H.size) ⟨pq_cwB 1 hw wd_47 wd_33 wd_46 rfl rfl (by decide +kernel) ⟨Nat.le_of_ble_eq_true rfl, Nat.le_of_ble_eq_true rfl⟩, hw _ wd_48, hw _ wd_49⟩ (pq_preV (ci := 2) (C := RPr) (T := TPr) (N := 9) hE (hP.sub [0, 1, 2, 3, 4] rfl) (hD.sub [0, 1, 2, 3, 4] (by decide) rfl) rfl 0 rfl) rfl rfl hl.1 rfl (lv_room (Nat.le_of_ble_eq_true rfl)) dPr_sum_54 ⟨Nat.zero_le _, Nat.zero_le _⟩) (fun H locs hP hD hS => ?_)
      have hP : va_P D vwCl (wP ad cI cS rp re g1.2.1 g1.2.2 0 0 rr rw gn gp gh) H := hP.sub [0, 1, 2, 3, 4] rfl
      have hD : va_D _ (wP ad cI cS rp re g1.2.1 g1.2.2 0 0 rr rw gn gp gh) := hD.sub [0, 1, 2, 3, 4] (by decide) rfl
      have e9 : FPr_sum xx xy = (g1.1, g1.2.1, g1.2.2, 0, 0) := by simp only [FPr_sum, hg1, if_pos h1, if_pos h2]
      exact W.iret (v := g1.1) hx hb hr (fun t ht hW => ⟨⟨g1.1, (), rfl, (by show _ = _; rw [e9]), by rw [e9, ht]; exact hP, by rw [e9]; exact hD⟩, hS.F ht⟩) hS.2.2 dPr_sum_57
    · refine lv_iconst (v := 1) hx hb dPr_sum_44 (by first | rfl | decide) ?_
      refine lv_goto (tgt := 49) hx hb dPr_sum_45 (by decide) ?_
      refine va_put (D := D) (ci := 2) (v := .int 1) (ty := .boolean) (C := RPr) (T := TPr) (N := 9) hx hb hw pinPr tyPr tyPr_ok nmPr hown hE.1 hP hD hS 0 rfl rfl 8 (by decide) (hw _ wd_30) (fun _ h9 => h9) rfl (by decide +kernel) rfl rfl (Nat.le_of_ble_eq_true rfl) dPr_sum_49 (fun H locs hP hD hS => ?_)
      have hP : va_P D vwCl (wP ad cI cS rp re fn fz 0 1 rr rw gn gp gh) H := hP
      have hD : va_D _ (wP ad cI cS rp re fn fz 0 1 rr rw gn gp gh) := hD
      refine lv_aload_n hx hb dPr_sum_52 rfl (lv_at hl 1 rfl) ?_
      refine lv_iload_n hx hb dPr_sum_53 rfl (lv_at hl 0 rfl) ?_
      obtain ⟨g2, hg2⟩ : ∃ g9, FPr_noted (xx + xy) = g9 := ⟨_, rfl⟩
      have cg2 := k_Pr_noted l D ad cI cS (xx + xy) rp re fn fz 0 1 rr rw gn gp gh
      rw [hg2] at cg2
      refine pq_calli (fr := g2.1) (wc := (wP ad cI cS rp re fn fz 0 1 rr rw gn gp gh)) (wr := ([] : List Nat).filterMap (fun i => (wP ad cI cS rp re fn fz 0 1 rr rw gn gp gh)[i]?)) hP hD hS hA [0, 1, 2, 3, 4] [] rfl rfl (by decide) (by decide) (va_runV (own := RPr) (C := RPr) (As := [.int (xx + xy)]) (rest := []) ⟨hx, hb, hml, hown, hw⟩ (cg2 H.size) ⟨pq_cwB 1 hw wd_47 wd_33 wd_46 rfl rfl (by decide +kernel) ⟨Nat.le_of_ble_eq_true rfl, Nat.le_of_ble_eq_true rfl⟩, hw _ wd_48, hw _ wd_49⟩ (pq_preV (ci := 2) (C := RPr) (T := TPr) (N := 9) hE (hP.sub [0, 1, 2, 3, 4] rfl) (hD.sub [0, 1, 2, 3, 4] (by decide) rfl) rfl 0 rfl) rfl rfl hl.1 rfl (lv_room (Nat.le_of_ble_eq_true rfl)) dPr_sum_54 ⟨Nat.zero_le _, Nat.zero_le _⟩) (fun H locs hP hD hS => ?_)
      have hP : va_P D vwCl (wP ad cI cS rp re g2.2.1 g2.2.2 0 1 rr rw gn gp gh) H := hP.sub [0, 1, 2, 3, 4] rfl
      have hD : va_D _ (wP ad cI cS rp re g2.2.1 g2.2.2 0 1 rr rw gn gp gh) := hD.sub [0, 1, 2, 3, 4] (by decide) rfl
      have e9 : FPr_sum xx xy = (g2.1, g2.2.1, g2.2.2, 0, 1) := by simp only [FPr_sum, hg2, if_pos h1, if_neg h2]
      exact W.iret (v := g2.1) hx hb hr (fun t ht hW => ⟨⟨g2.1, (), rfl, (by show _ = _; rw [e9]), by rw [e9, ht]; exact hP, by rw [e9]; exact hD⟩, hS.F ht⟩) hS.2.2 dPr_sum_57
  · refine lv_iconst (v := 1) hx hb dPr_sum_25 (by first | rfl | decide) ?_
    refine lv_goto (tgt := 30) hx hb dPr_sum_26 (by decide) ?_
    refine va_put (D := D) (ci := 2) (v := .int 1) (ty := .boolean) (C := RPr) (T := TPr) (N := 9) hx hb hw pinPr tyPr tyPr_ok nmPr hown hE.1 hP hD hS 0 rfl rfl 7 (by decide) (hw _ wd_29) (fun _ h9 => h9) rfl (by decide +kernel) rfl rfl (Nat.le_of_ble_eq_true rfl) dPr_sum_30 (fun H locs hP hD hS => ?_)
    have hP : va_P D vwCl (wP ad cI cS rp re fn fz 1 fv rr rw gn gp gh) H := hP
    have hD : va_D _ (wP ad cI cS rp re fn fz 1 fv rr rw gn gp gh) := hD
    refine lv_aload_n hx hb dPr_sum_33 rfl (lv_at hl 1 rfl) ?_
    refine lv_iload_n hx hb dPr_sum_34 rfl (lv_at hl 2 rfl) ?_
    refine lv_iload_n hx hb dPr_sum_35 rfl (lv_at hl 0 rfl) ?_
    refine lv_ixor hx hb dPr_sum_36 ?_
    refine lv_iload_n hx hb dPr_sum_37 rfl (lv_at hl 3 rfl) ?_
    refine lv_iload_n hx hb dPr_sum_38 rfl (lv_at hl 0 rfl) ?_
    refine lv_ixor hx hb dPr_sum_39 ?_
    refine lv_iand hx hb dPr_sum_40 ?_
    refine lv_if_ge (tgt := 48) hx hb dPr_sum_41 (by decide) (fun h3 => ?_) (fun h3 => ?_)
    · refine lv_iconst (v := 0) hx hb dPr_sum_48 (by first | rfl | decide) ?_
      refine va_put (D := D) (ci := 2) (v := .int 0) (ty := .boolean) (C := RPr) (T := TPr) (N := 9) hx hb hw pinPr tyPr tyPr_ok nmPr hown hE.1 hP hD hS 0 rfl rfl 8 (by decide) (hw _ wd_30) (fun _ h9 => h9) rfl (by decide +kernel) rfl rfl (Nat.le_of_ble_eq_true rfl) dPr_sum_49 (fun H locs hP hD hS => ?_)
      have hP : va_P D vwCl (wP ad cI cS rp re fn fz 1 0 rr rw gn gp gh) H := hP
      have hD : va_D _ (wP ad cI cS rp re fn fz 1 0 rr rw gn gp gh) := hD
      refine lv_aload_n hx hb dPr_sum_52 rfl (lv_at hl 1 rfl) ?_
      refine lv_iload_n hx hb dPr_sum_53 rfl (lv_at hl 0 rfl) ?_
      obtain ⟨g3, hg3⟩ : ∃ g9, FPr_noted (xx + xy) = g9 := ⟨_, rfl⟩
      have cg3 := k_Pr_noted l D ad cI cS (xx + xy) rp re fn fz 1 0 rr rw gn gp gh
      rw [hg3] at cg3
      refine pq_calli (fr := g3.1) (wc := (wP ad cI cS rp re fn fz 1 0 rr rw gn gp gh)) (wr := ([] : List Nat).filterMap (fun i => (wP ad cI cS rp re fn fz 1 0 rr rw gn gp gh)[i]?)) hP hD hS hA [0, 1, 2, 3, 4] [] rfl rfl (by decide) (by decide) (va_runV (own := RPr) (C := RPr) (As := [.int (xx + xy)]) (rest := []) ⟨hx, hb, hml, hown, hw⟩ (cg3 H.size) ⟨pq_cwB 1 hw wd_47 wd_33 wd_46 rfl rfl (by decide +kernel) ⟨Nat.le_of_ble_eq_true rfl, Nat.le_of_ble_eq_true rfl⟩, hw _ wd_48, hw _ wd_49⟩ (pq_preV (ci := 2) (C := RPr) (T := TPr) (N := 9) hE (hP.sub [0, 1, 2, 3, 4] rfl) (hD.sub [0, 1, 2, 3, 4] (by decide) rfl) rfl 0 rfl) rfl rfl hl.1 rfl (lv_room (Nat.le_of_ble_eq_true rfl)) dPr_sum_54 ⟨Nat.zero_le _, Nat.zero_le _⟩) (fun H locs hP hD hS => ?_)
      have hP : va_P D vwCl (wP ad cI cS rp re g3.2.1 g3.2.2 1 0 rr rw gn gp gh) H := hP.sub [0, 1, 2, 3, 4] rfl
      have hD : va_D _ (wP ad cI cS rp re g3.2.1 g3.2.2 1 0 rr rw gn gp gh) := hD.sub [0, 1, 2, 3, 4] (by decide) rfl
      have e9 : FPr_sum xx xy = (g3.1, g3.2.1, g3.2.2, 1, 0) := by simp only [FPr_sum, hg3, if_neg h1, if_pos h3]
      exact W.iret (v := g3.1) hx hb hr (fun t ht hW => ⟨⟨g3.1, (), rfl, (by show _ = _; rw [e9]), by rw [e9, ht]; exact hP, by rw [e9]; exact hD⟩, hS.F ht⟩) hS.2.2 dPr_sum_57
    · refine lv_iconst (v := 1) hx hb dPr_sum_44 (by first | rfl | decide) ?_
      refine lv_goto (tgt := 49) hx hb dPr_sum_45 (by decide) ?_
      refine va_put (D := D) (ci := 2) (v := .int 1) (ty := .boolean) (C := RPr) (T := TPr) (N := 9) hx hb hw pinPr tyPr tyPr_ok nmPr hown hE.1 hP hD hS 0 rfl rfl 8 (by decide) (hw _ wd_30) (fun _ h9 => h9) rfl (by decide +kernel) rfl rfl (Nat.le_of_ble_eq_true rfl) dPr_sum_49 (fun H locs hP hD hS => ?_)
      have hP : va_P D vwCl (wP ad cI cS rp re fn fz 1 1 rr rw gn gp gh) H := hP
      have hD : va_D _ (wP ad cI cS rp re fn fz 1 1 rr rw gn gp gh) := hD
      refine lv_aload_n hx hb dPr_sum_52 rfl (lv_at hl 1 rfl) ?_
      refine lv_iload_n hx hb dPr_sum_53 rfl (lv_at hl 0 rfl) ?_
      obtain ⟨g4, hg4⟩ : ∃ g9, FPr_noted (xx + xy) = g9 := ⟨_, rfl⟩
      have cg4 := k_Pr_noted l D ad cI cS (xx + xy) rp re fn fz 1 1 rr rw gn gp gh
      rw [hg4] at cg4
      refine pq_calli (fr := g4.1) (wc := (wP ad cI cS rp re fn fz 1 1 rr rw gn gp gh)) (wr := ([] : List Nat).filterMap (fun i => (wP ad cI cS rp re fn fz 1 1 rr rw gn gp gh)[i]?)) hP hD hS hA [0, 1, 2, 3, 4] [] rfl rfl (by decide) (by decide) (va_runV (own := RPr) (C := RPr) (As := [.int (xx + xy)]) (rest := []) ⟨hx, hb, hml, hown, hw⟩ (cg4 H.size) ⟨pq_cwB 1 hw wd_47 wd_33 wd_46 rfl rfl (by decide +kernel) ⟨Nat.le_of_ble_eq_true rfl, Nat.le_of_ble_eq_true rfl⟩, hw _ wd_48, hw _ wd_49⟩ (pq_preV (ci := 2) (C := RPr) (T := TPr) (N := 9) hE (hP.sub [0, 1, 2, 3, 4] rfl) (hD.sub [0, 1, 2, 3, 4] (by decide) rfl) rfl 0 rfl) rfl rfl hl.1 rfl (lv_room (Nat.le_of_ble_eq_true rfl)) dPr_sum_54 ⟨Nat.zero_le _, Nat.zero_le _⟩) (fun H locs hP hD hS => ?_)
      have hP : va_P D vwCl (wP ad cI cS rp re g4.2.1 g4.2.2 1 1 rr rw gn gp gh) H := hP.sub [0, 1, 2, 3, 4] rfl
      have hD : va_D _ (wP ad cI cS rp re g4.2.1 g4.2.2 1 1 rr rw gn gp gh) := hD.sub [0, 1, 2, 3, 4] (by decide) rfl
      have e9 : FPr_sum xx xy = (g4.1, g4.2.1, g4.2.2, 1, 1) := by simp only [FPr_sum, hg4, if_neg h1, if_neg h3]
      exact W.iret (v := g4.1) hx hb hr (fun t ht hW => ⟨⟨g4.1, (), rfl, (by show _ = _; rw [e9]), by rw [e9, ht]; exact hP, by rw [e9]; exact hD⟩, hS.F ht⟩) hS.2.2 dPr_sum_57
def FPr_difference (xx : Int32) (xy : Int32) : Int32 × Int32 × Int32 × Int32 × Int32 := if (lg_cmp (xx.toInt64 &&& (4294967295 : Int64)) (xy.toInt64 &&& (4294967295 : Int64))) < 0 then if 0 ≤ ((xx ^^^ xy) &&& (xx ^^^ (xx - xy))) then ((FPr_noted (xx - xy)).1, (FPr_noted (xx - xy)).2.1, (FPr_noted (xx - xy)).2.2, 0, 0) else ((FPr_noted (xx - xy)).1, (FPr_noted (xx - xy)).2.1, (FPr_noted (xx - xy)).2.2, 0, 1) else if 0 ≤ ((xx ^^^ xy) &&& (xx ^^^ (xx - xy))) then ((FPr_noted (xx - xy)).1, (FPr_noted (xx - xy)).2.1, (FPr_noted (xx - xy)).2.2, 1, 0) else ((FPr_noted (xx - xy)).1, (FPr_noted (xx - xy)).2.1, (FPr_noted (xx - xy)).2.2, 1, 1)
set_option maxHeartbeats 4000000 in
set_option maxRecDepth 100000 in
theorem k_Pr_difference (l : Launch) (D : va_G) (ad : Nat → Nat) (cI cS : ClassId) (xx : Int32) (xy : Int32) (rp : Int32) (re : Int32) (fn : Int32) (fz : Int32) (fc : Int32) (fv : Int32) (rr : Nat → Int32) (rw : Nat → Int32) (gn : Int32) (gp : Int32) (gh : Nat → Int32) : pq_I l yPr_difference (.code yPr_difference cPr_difference 4 (some .int) :: pq_ws) { frames := 1, cells := 0, slots := 0, locals := 21 } D cI cS [.ref (ad 4), .int xx, .int xy] (wP ad cI cS rp re fn fz fc fv rr rw gn gp gh) ((FPr_difference xx xy).1) (wP ad cI cS rp re ((FPr_difference xx xy).2.1) ((FPr_difference xx xy).2.2.1) ((FPr_difference xx xy).2.2.2.1) ((FPr_difference xx xy).2.2.2.2) rr rw gn gp gh) := by
  intro sz
  refine Met.ofW (cc := cPr_difference) (maxL := 4) (ret := (some .int)) (by decide) rfl ?_
  intro p e s m args below meth c s₁ B hml hv
  obtain ⟨rfl, hsz, hP, hD0, hE⟩ := hv
  have hx := B.exec
  have hb := B.bytes
  have hr := B.returns
  have hts := atoms_spec (ws := (.code yPr_difference cPr_difference 4 (some .int) :: pq_ws : List Cond)) B.pre
  have hw : ∀ w ∈ pq_ws, w.before _ s = true := fun w h => hts w (List.mem_cons_of_mem _ h)
  have hown : s.vm.findClass RPr = some m.cls := findClass_of_methodNamed B.named
  have hlocks := B.notSynchronized
  subst hsz
  have hD := hD0.self (sz := s.heap.size)
  have hA : ∀ q : Nat, s.heap.size ≤ q → va_A (wP ad cI cS rp re fn fz fc fv rr rw gn gp gh) s.heap.size q := fun q h => Or.inr h
  have hS : va_S (va_A (wP ad cI cS rp re fn fz fc fv rr rw gn gp gh) s.heap.size) s.heap s.heap [] := va_S.rf
  have hl := lv_entry ([.ref (ad 4), .int xx, .int xy] : List Value) (n := 4) (Nat.le_of_ble_eq_true rfl)
  rw [lg_entry_eq]
  generalize (lg_sl ([.ref (ad 4), .int xx, .int xy] : List Value) ++ List.replicate (4 - (lg_sl ([.ref (ad 4), .int xx, .int xy] : List Value)).length) Slot.unset).toArray = ls at hl ⊢
  have hl : lv_has ls 4 [(0, .ref (ad 4)), (1, .int xx), (2, .int xy)] := hl
  refine lv_iload_n hx hb dPr_difference_0 rfl (lv_at hl 1 rfl) ?_
  refine lv_iload_n hx hb dPr_difference_1 rfl (lv_at hl 2 rfl) ?_
  refine lv_isub hx hb dPr_difference_2 ?_
  refine lv_istore_n (lv' := [(3, .int (xx - xy)), (0, .ref (ad 4)), (1, .int xx), (2, .int xy)]) hx hb dPr_difference_3 rfl hl (by decide) rfl (fun ls hl => ?_)
  refine lv_aload_n hx hb dPr_difference_4 rfl (lv_at hl 1 rfl) ?_
  refine lv_iload_n hx hb dPr_difference_5 rfl (lv_at hl 2 rfl) ?_
  refine lv_i2l hx hb dPr_difference_6 rfl ?_
  refine lv_ldc2 hx hb hown (hw _ wd_45) dPr_difference_7 ?_
  refine lv_land hx hb dPr_difference_10 ?_
  refine lv_iload_n hx hb dPr_difference_11 rfl (lv_at hl 3 rfl) ?_
  refine lv_i2l hx hb dPr_difference_12 rfl ?_
  refine lv_ldc2 hx hb hown (hw _ wd_45) dPr_difference_13 ?_
  refine lv_land hx hb dPr_difference_16 ?_
  refine W.lcmp hx hb dPr_difference_17 ?_
  refine lv_if_lt (tgt := 25) hx hb dPr_difference_18 (by decide) (fun h1 => ?_) (fun h1 => ?_)
  · refine lv_iconst (v := 0) hx hb dPr_difference_25 (by first | rfl | decide) ?_
    refine va_put (D := D) (ci := 2) (v := .int 0) (ty := .boolean) (C := RPr) (T := TPr) (N := 9) hx hb hw pinPr tyPr tyPr_ok nmPr hown hE.1 hP hD hS 0 rfl rfl 7 (by decide) (hw _ wd_29) (fun _ h9 => h9) rfl (by decide +kernel) rfl rfl (Nat.le_of_ble_eq_true rfl) dPr_difference_26 (fun H locs hP hD hS => ?_)
    have hP : va_P D vwCl (wP ad cI cS rp re fn fz 0 fv rr rw gn gp gh) H := hP
    have hD : va_D _ (wP ad cI cS rp re fn fz 0 fv rr rw gn gp gh) := hD
    refine lv_aload_n hx hb dPr_difference_29 rfl (lv_at hl 1 rfl) ?_
    refine lv_iload_n hx hb dPr_difference_30 rfl (lv_at hl 2 rfl) ?_
    refine lv_iload_n hx hb dPr_difference_31 rfl (lv_at hl 3 rfl) ?_
    refine lv_ixor hx hb dPr_difference_32 ?_
    refine lv_iload_n hx hb dPr_difference_33 rfl (lv_at hl 2 rfl) ?_
    refine lv_iload_n hx hb dPr_difference_34 rfl (lv_at hl 0 rfl) ?_
    refine lv_ixor hx hb dPr_difference_35 ?_
    refine lv_iand hx hb dPr_difference_36 ?_
    refine lv_if_ge (tgt := 44) hx hb dPr_difference_37 (by decide) (fun h2 => ?_) (fun h2 => ?_)
    · refine lv_iconst (v := 0) hx hb dPr_difference_44 (by first | rfl | decide) ?_
      refine va_put (D := D) (ci := 2) (v := .int 0) (ty := .boolean) (C := RPr) (T := TPr) (N := 9) hx hb hw pinPr tyPr tyPr_ok nmPr hown hE.1 hP hD hS 0 rfl rfl 8 (by decide) (hw _ wd_30) (fun _ h9 => h9) rfl (by decide +kernel) rfl rfl (Nat.le_of_ble_eq_true rfl) dPr_difference_45 (fun H locs hP hD hS => ?_)
      have hP : va_P D vwCl (wP ad cI cS rp re fn fz 0 0 rr rw gn gp gh) H := hP
      have hD : va_D _ (wP ad cI cS rp re fn fz 0 0 rr rw gn gp gh) := hD
      refine lv_aload_n hx hb dPr_difference_48 rfl (lv_at hl 1 rfl) ?_
      refine lv_iload_n hx hb dPr_difference_49 rfl (lv_at hl 0 rfl) ?_
      obtain ⟨g1, hg1⟩ : ∃ g9, FPr_noted (xx - xy) = g9 := ⟨_, rfl⟩
      have cg1 := k_Pr_noted l D ad cI cS (xx - xy) rp re fn fz 0 0 rr rw gn gp gh
      rw [hg1] at cg1
      refine pq_calli (fr := g1.1) (wc := (wP ad cI cS rp re fn fz 0 0 rr rw gn gp gh)) (wr := ([] : List Nat).filterMap (fun i => (wP ad cI cS rp re fn fz 0 0 rr rw gn gp gh)[i]?)) hP hD hS hA [0, 1, 2, 3, 4] [] rfl rfl (by decide) (by decide) (va_runV (own := RPr) (C := RPr) (As := [.int (xx - xy)]) (rest := []) ⟨hx, hb, hml, hown, hw⟩ (cg1 H.size) ⟨pq_cwB 1 hw wd_47 wd_33 wd_46 rfl rfl (by decide +kernel) ⟨Nat.le_of_ble_eq_true rfl, Nat.le_of_ble_eq_true rfl⟩, hw _ wd_48, hw _ wd_49⟩ (pq_preV (ci := 2) (C := RPr) (T := TPr) (N := 9) hE (hP.sub [0, 1, 2, 3, 4] rfl) (hD.sub [0, 1, 2, 3, 4] (by decide) rfl) rfl 0 rfl) rfl rfl hl.1 rfl (lv_room (Nat.le_of_ble_eq_true rfl)) dPr_difference_50 ⟨Nat.zero_le _, Nat.zero_le _⟩) (fun H locs hP hD hS => ?_)
      have hP : va_P D vwCl (wP ad cI cS rp re g1.2.1 g1.2.2 0 0 rr rw gn gp gh) H := hP.sub [0, 1, 2, 3, 4] rfl
      have hD : va_D _ (wP ad cI cS rp re g1.2.1 g1.2.2 0 0 rr rw gn gp gh) := hD.sub [0, 1, 2, 3, 4] (by decide) rfl
      have e9 : FPr_difference xx xy = (g1.1, g1.2.1, g1.2.2, 0, 0) := by simp only [FPr_difference, hg1, if_pos h1, if_pos h2]
      exact W.iret (v := g1.1) hx hb hr (fun t ht hW => ⟨⟨g1.1, (), rfl, (by show _ = _; rw [e9]), by rw [e9, ht]; exact hP, by rw [e9]; exact hD⟩, hS.F ht⟩) hS.2.2 dPr_difference_53
    · refine lv_iconst (v := 1) hx hb dPr_difference_40 (by first | rfl | decide) ?_
      refine lv_goto (tgt := 45) hx hb dPr_difference_41 (by decide) ?_
      refine va_put (D := D) (ci := 2) (v := .int 1) (ty := .boolean) (C := RPr) (T := TPr) (N := 9) hx hb hw pinPr tyPr tyPr_ok nmPr hown hE.1 hP hD hS 0 rfl rfl 8 (by decide) (hw _ wd_30) (fun _ h9 => h9) rfl (by decide +kernel) rfl rfl (Nat.le_of_ble_eq_true rfl) dPr_difference_45 (fun H locs hP hD hS => ?_)
      have hP : va_P D vwCl (wP ad cI cS rp re fn fz 0 1 rr rw gn gp gh) H := hP
      have hD : va_D _ (wP ad cI cS rp re fn fz 0 1 rr rw gn gp gh) := hD
      refine lv_aload_n hx hb dPr_difference_48 rfl (lv_at hl 1 rfl) ?_
      refine lv_iload_n hx hb dPr_difference_49 rfl (lv_at hl 0 rfl) ?_
      obtain ⟨g2, hg2⟩ : ∃ g9, FPr_noted (xx - xy) = g9 := ⟨_, rfl⟩
      have cg2 := k_Pr_noted l D ad cI cS (xx - xy) rp re fn fz 0 1 rr rw gn gp gh
      rw [hg2] at cg2
      refine pq_calli (fr := g2.1) (wc := (wP ad cI cS rp re fn fz 0 1 rr rw gn gp gh)) (wr := ([] : List Nat).filterMap (fun i => (wP ad cI cS rp re fn fz 0 1 rr rw gn gp gh)[i]?)) hP hD hS hA [0, 1, 2, 3, 4] [] rfl rfl (by decide) (by decide) (va_runV (own := RPr) (C := RPr) (As := [.int (xx - xy)]) (rest := []) ⟨hx, hb, hml, hown, hw⟩ (cg2 H.size) ⟨pq_cwB 1 hw wd_47 wd_33 wd_46 rfl rfl (by decide +kernel) ⟨Nat.le_of_ble_eq_true rfl, Nat.le_of_ble_eq_true rfl⟩, hw _ wd_48, hw _ wd_49⟩ (pq_preV (ci := 2) (C := RPr) (T := TPr) (N := 9) hE (hP.sub [0, 1, 2, 3, 4] rfl) (hD.sub [0, 1, 2, 3, 4] (by decide) rfl) rfl 0 rfl) rfl rfl hl.1 rfl (lv_room (Nat.le_of_ble_eq_true rfl)) dPr_difference_50 ⟨Nat.zero_le _, Nat.zero_le _⟩) (fun H locs hP hD hS => ?_)
      have hP : va_P D vwCl (wP ad cI cS rp re g2.2.1 g2.2.2 0 1 rr rw gn gp gh) H := hP.sub [0, 1, 2, 3, 4] rfl
      have hD : va_D _ (wP ad cI cS rp re g2.2.1 g2.2.2 0 1 rr rw gn gp gh) := hD.sub [0, 1, 2, 3, 4] (by decide) rfl
      have e9 : FPr_difference xx xy = (g2.1, g2.2.1, g2.2.2, 0, 1) := by simp only [FPr_difference, hg2, if_pos h1, if_neg h2]
      exact W.iret (v := g2.1) hx hb hr (fun t ht hW => ⟨⟨g2.1, (), rfl, (by show _ = _; rw [e9]), by rw [e9, ht]; exact hP, by rw [e9]; exact hD⟩, hS.F ht⟩) hS.2.2 dPr_difference_53
  · refine lv_iconst (v := 1) hx hb dPr_difference_21 (by first | rfl | decide) ?_
    refine lv_goto (tgt := 26) hx hb dPr_difference_22 (by decide) ?_
    refine va_put (D := D) (ci := 2) (v := .int 1) (ty := .boolean) (C := RPr) (T := TPr) (N := 9) hx hb hw pinPr tyPr tyPr_ok nmPr hown hE.1 hP hD hS 0 rfl rfl 7 (by decide) (hw _ wd_29) (fun _ h9 => h9) rfl (by decide +kernel) rfl rfl (Nat.le_of_ble_eq_true rfl) dPr_difference_26 (fun H locs hP hD hS => ?_)
    have hP : va_P D vwCl (wP ad cI cS rp re fn fz 1 fv rr rw gn gp gh) H := hP
    have hD : va_D _ (wP ad cI cS rp re fn fz 1 fv rr rw gn gp gh) := hD
    refine lv_aload_n hx hb dPr_difference_29 rfl (lv_at hl 1 rfl) ?_
    refine lv_iload_n hx hb dPr_difference_30 rfl (lv_at hl 2 rfl) ?_
    refine lv_iload_n hx hb dPr_difference_31 rfl (lv_at hl 3 rfl) ?_
    refine lv_ixor hx hb dPr_difference_32 ?_
    refine lv_iload_n hx hb dPr_difference_33 rfl (lv_at hl 2 rfl) ?_
    refine lv_iload_n hx hb dPr_difference_34 rfl (lv_at hl 0 rfl) ?_
    refine lv_ixor hx hb dPr_difference_35 ?_
    refine lv_iand hx hb dPr_difference_36 ?_
    refine lv_if_ge (tgt := 44) hx hb dPr_difference_37 (by decide) (fun h3 => ?_) (fun h3 => ?_)
    · refine lv_iconst (v := 0) hx hb dPr_difference_44 (by first | rfl | decide) ?_
      refine va_put (D := D) (ci := 2) (v := .int 0) (ty := .boolean) (C := RPr) (T := TPr) (N := 9) hx hb hw pinPr tyPr tyPr_ok nmPr hown hE.1 hP hD hS 0 rfl rfl 8 (by decide) (hw _ wd_30) (fun _ h9 => h9) rfl (by decide +kernel) rfl rfl (Nat.le_of_ble_eq_true rfl) dPr_difference_45 (fun H locs hP hD hS => ?_)
      have hP : va_P D vwCl (wP ad cI cS rp re fn fz 1 0 rr rw gn gp gh) H := hP
      have hD : va_D _ (wP ad cI cS rp re fn fz 1 0 rr rw gn gp gh) := hD
      refine lv_aload_n hx hb dPr_difference_48 rfl (lv_at hl 1 rfl) ?_
      refine lv_iload_n hx hb dPr_difference_49 rfl (lv_at hl 0 rfl) ?_
      obtain ⟨g3, hg3⟩ : ∃ g9, FPr_noted (xx - xy) = g9 := ⟨_, rfl⟩
      have cg3 := k_Pr_noted l D ad cI cS (xx - xy) rp re fn fz 1 0 rr rw gn gp gh
      rw [hg3] at cg3
      refine pq_calli (fr := g3.1) (wc := (wP ad cI cS rp re fn fz 1 0 rr rw gn gp gh)) (wr := ([] : List Nat).filterMap (fun i => (wP ad cI cS rp re fn fz 1 0 rr rw gn gp gh)[i]?)) hP hD hS hA [0, 1, 2, 3, 4] [] rfl rfl (by decide) (by decide) (va_runV (own := RPr) (C := RPr) (As := [.int (xx - xy)]) (rest := []) ⟨hx, hb, hml, hown, hw⟩ (cg3 H.size) ⟨pq_cwB 1 hw wd_47 wd_33 wd_46 rfl rfl (by decide +kernel) ⟨Nat.le_of_ble_eq_true rfl, Nat.le_of_ble_eq_true rfl⟩, hw _ wd_48, hw _ wd_49⟩ (pq_preV (ci := 2) (C := RPr) (T := TPr) (N := 9) hE (hP.sub [0, 1, 2, 3, 4] rfl) (hD.sub [0, 1, 2, 3, 4] (by decide) rfl) rfl 0 rfl) rfl rfl hl.1 rfl (lv_room (Nat.le_of_ble_eq_true rfl)) dPr_difference_50 ⟨Nat.zero_le _, Nat.zero_le _⟩) (fun H locs hP hD hS => ?_)
      have hP : va_P D vwCl (wP ad cI cS rp re g3.2.1 g3.2.2 1 0 rr rw gn gp gh) H := hP.sub [0, 1, 2, 3, 4] rfl
      have hD : va_D _ (wP ad cI cS rp re g3.2.1 g3.2.2 1 0 rr rw gn gp gh) := hD.sub [0, 1, 2, 3, 4] (by decide) rfl
      have e9 : FPr_difference xx xy = (g3.1, g3.2.1, g3.2.2, 1, 0) := by simp only [FPr_difference, hg3, if_neg h1, if_pos h3]
      exact W.iret (v := g3.1) hx hb hr (fun t ht hW => ⟨⟨g3.1, (), rfl, (by show _ = _; rw [e9]), by rw [e9, ht]; exact hP, by rw [e9]; exact hD⟩, hS.F ht⟩) hS.2.2 dPr_difference_53
    · refine lv_iconst (v := 1) hx hb dPr_difference_40 (by first | rfl | decide) ?_
      refine lv_goto (tgt := 45) hx hb dPr_difference_41 (by decide) ?_
      refine va_put (D := D) (ci := 2) (v := .int 1) (ty := .boolean) (C := RPr) (T := TPr) (N := 9) hx hb hw pinPr tyPr tyPr_ok nmPr hown hE.1 hP hD hS 0 rfl rfl 8 (by decide) (hw _ wd_30) (fun _ h9 => h9) rfl (by decide +kernel) rfl rfl (Nat.le_of_ble_eq_true rfl) dPr_difference_45 (fun H locs hP hD hS => ?_)
      have hP : va_P D vwCl (wP ad cI cS rp re fn fz 1 1 rr rw gn gp gh) H := hP
      have hD : va_D _ (wP ad cI cS rp re fn fz 1 1 rr rw gn gp gh) := hD
      refine lv_aload_n hx hb dPr_difference_48 rfl (lv_at hl 1 rfl) ?_
      refine lv_iload_n hx hb dPr_difference_49 rfl (lv_at hl 0 rfl) ?_
      obtain ⟨g4, hg4⟩ : ∃ g9, FPr_noted (xx - xy) = g9 := ⟨_, rfl⟩
      have cg4 := k_Pr_noted l D ad cI cS (xx - xy) rp re fn fz 1 1 rr rw gn gp gh
      rw [hg4] at cg4
      refine pq_calli (fr := g4.1) (wc := (wP ad cI cS rp re fn fz 1 1 rr rw gn gp gh)) (wr := ([] : List Nat).filterMap (fun i => (wP ad cI cS rp re fn fz 1 1 rr rw gn gp gh)[i]?)) hP hD hS hA [0, 1, 2, 3, 4] [] rfl rfl (by decide) (by decide) (va_runV (own := RPr) (C := RPr) (As := [.int (xx - xy)]) (rest := []) ⟨hx, hb, hml, hown, hw⟩ (cg4 H.size) ⟨pq_cwB 1 hw wd_47 wd_33 wd_46 rfl rfl (by decide +kernel) ⟨Nat.le_of_ble_eq_true rfl, Nat.le_of_ble_eq_true rfl⟩, hw _ wd_48, hw _ wd_49⟩ (pq_preV (ci := 2) (C := RPr) (T := TPr) (N := 9) hE (hP.sub [0, 1, 2, 3, 4] rfl) (hD.sub [0, 1, 2, 3, 4] (by decide) rfl) rfl 0 rfl) rfl rfl hl.1 rfl (lv_room (Nat.le_of_ble_eq_true rfl)) dPr_difference_50 ⟨Nat.zero_le _, Nat.zero_le _⟩) (fun H locs hP hD hS => ?_)
      have hP : va_P D vwCl (wP ad cI cS rp re g4.2.1 g4.2.2 1 1 rr rw gn gp gh) H := hP.sub [0, 1, 2, 3, 4] rfl
      have hD : va_D _ (wP ad cI cS rp re g4.2.1 g4.2.2 1 1 rr rw gn gp gh) := hD.sub [0, 1, 2, 3, 4] (by decide) rfl
      have e9 : FPr_difference xx xy = (g4.1, g4.2.1, g4.2.2, 1, 1) := by simp only [FPr_difference, hg4, if_neg h1, if_neg h3]
      exact W.iret (v := g4.1) hx hb hr (fun t ht hW => ⟨⟨g4.1, (), rfl, (by show _ = _; rw [e9]), by rw [e9, ht]; exact hP, by rw [e9]; exact hD⟩, hS.F ht⟩) hS.2.2 dPr_difference_53
def FPr_addOrTake (xh : Int32) (rp : Int32) (fn : Int32) (fz : Int32) (fc : Int32) (fv : Int32) (rr : Nat → Int32) : Int32 × (Nat → Int32) × Int32 × Int32 × Int32 × Int32 × Int32 := if xh < 7168 then if 6656 ≤ xh then (((FPr_next rp).1), upd rr (xh &&& (7 : Int32)).toNatClampNeg (FPr_difference (rr ((xh >>> ((3 : Int32) &&& 31)) &&& (7 : Int32)).toNatClampNeg) (rr ((xh >>> ((6 : Int32) &&& 31)) &&& (7 : Int32)).toNatClampNeg)).1, (FPr_next rp).2, (FPr_difference (rr ((xh >>> ((3 : Int32) &&& 31)) &&& (7 : Int32)).toNatClampNeg) (rr ((xh >>> ((6 : Int32) &&& 31)) &&& (7 : Int32)).toNatClampNeg)).2.1, (FPr_difference (rr ((xh >>> ((3 : Int32) &&& 31)) &&& (7 : Int32)).toNatClampNeg) (rr ((xh >>> ((6 : Int32) &&& 31)) &&& (7 : Int32)).toNatClampNeg)).2.2.1, (FPr_difference (rr ((xh >>> ((3 : Int32) &&& 31)) &&& (7 : Int32)).toNatClampNeg) (rr ((xh >>> ((6 : Int32) &&& 31)) &&& (7 : Int32)).toNatClampNeg)).2.2.2.1, (FPr_difference (rr ((xh >>> ((3 : Int32) &&& 31)) &&& (7 : Int32)).toNatClampNeg) (rr ((xh >>> ((6 : Int32) &&& 31)) &&& (7 : Int32)).toNatClampNeg)).2.2.2.2) else (((FPr_next rp).1), upd rr (xh &&& (7 : Int32)).toNatClampNeg (FPr_sum (rr ((xh >>> ((3 : Int32) &&& 31)) &&& (7 : Int32)).toNatClampNeg) (rr ((xh >>> ((6 : Int32) &&& 31)) &&& (7 : Int32)).toNatClampNeg)).1, (FPr_next rp).2, (FPr_sum (rr ((xh >>> ((3 : Int32) &&& 31)) &&& (7 : Int32)).toNatClampNeg) (rr ((xh >>> ((6 : Int32) &&& 31)) &&& (7 : Int32)).toNatClampNeg)).2.1, (FPr_sum (rr ((xh >>> ((3 : Int32) &&& 31)) &&& (7 : Int32)).toNatClampNeg) (rr ((xh >>> ((6 : Int32) &&& 31)) &&& (7 : Int32)).toNatClampNeg)).2.2.1, (FPr_sum (rr ((xh >>> ((3 : Int32) &&& 31)) &&& (7 : Int32)).toNatClampNeg) (rr ((xh >>> ((6 : Int32) &&& 31)) &&& (7 : Int32)).toNatClampNeg)).2.2.2.1, (FPr_sum (rr ((xh >>> ((3 : Int32) &&& 31)) &&& (7 : Int32)).toNatClampNeg) (rr ((xh >>> ((6 : Int32) &&& 31)) &&& (7 : Int32)).toNatClampNeg)).2.2.2.2) else (2, rr, rp, fn, fz, fc, fv)
set_option maxHeartbeats 4000000 in
set_option maxRecDepth 100000 in
theorem k_Pr_addOrTake (l : Launch) (D : va_G) (ad : Nat → Nat) (cI cS : ClassId) (xh : Int32) (rp : Int32) (re : Int32) (fn : Int32) (fz : Int32) (fc : Int32) (fv : Int32) (rr : Nat → Int32) (rw : Nat → Int32) (gn : Int32) (gp : Int32) (gh : Nat → Int32) : pq_I l yPr_addOrTake (.code yPr_addOrTake cPr_addOrTake 4 (some .int) :: pq_ws) { frames := 2, cells := 0, slots := 0, locals := 44 } D cI cS [.ref (ad 4), .int xh] (wP ad cI cS rp re fn fz fc fv rr rw gn gp gh) ((FPr_addOrTake xh rp fn fz fc fv rr).1) (wP ad cI cS ((FPr_addOrTake xh rp fn fz fc fv rr).2.2.1) re ((FPr_addOrTake xh rp fn fz fc fv rr).2.2.2.1) ((FPr_addOrTake xh rp fn fz fc fv rr).2.2.2.2.1) ((FPr_addOrTake xh rp fn fz fc fv rr).2.2.2.2.2.1) ((FPr_addOrTake xh rp fn fz fc fv rr).2.2.2.2.2.2) ((FPr_addOrTake xh rp fn fz fc fv rr).2.1) rw gn gp gh) := by
  intro sz
  refine Met.ofW (cc := cPr_addOrTake) (maxL := 4) (ret := (some .int)) (by decide) rfl ?_
  intro p e s m args below meth c s₁ B hml hv
  obtain ⟨rfl, hsz, hP, hD0, hE⟩ := hv
  have hx := B.exec
  have hb := B.bytes
  have hr := B.returns
  have hts := atoms_spec (ws := (.code yPr_addOrTake cPr_addOrTake 4 (some .int) :: pq_ws : List Cond)) B.pre
  have hw : ∀ w ∈ pq_ws, w.before _ s = true := fun w h => hts w (List.mem_cons_of_mem _ h)
  have hown : s.vm.findClass RPr = some m.cls := findClass_of_methodNamed B.named
  have hlocks := B.notSynchronized
  subst hsz
  have hD := hD0.self (sz := s.heap.size)
  have hA : ∀ q : Nat, s.heap.size ≤ q → va_A (wP ad cI cS rp re fn fz fc fv rr rw gn gp gh) s.heap.size q := fun q h => Or.inr h
  have hS : va_S (va_A (wP ad cI cS rp re fn fz fc fv rr rw gn gp gh) s.heap.size) s.heap s.heap [] := va_S.rf
  have hl := lv_entry ([.ref (ad 4), .int xh] : List Value) (n := 4) (Nat.le_of_ble_eq_true rfl)
  rw [lg_entry_eq]
  generalize (lg_sl ([.ref (ad 4), .int xh] : List Value) ++ List.replicate (4 - (lg_sl ([.ref (ad 4), .int xh] : List Value)).length) Slot.unset).toArray = ls at hl ⊢
  have hl : lv_has ls 4 [(0, .ref (ad 4)), (1, .int xh)] := hl
  refine lv_iload_n hx hb dPr_addOrTake_0 rfl (lv_at hl 1 rfl) ?_
  refine lv_sipush (v := 7168) hx hb dPr_addOrTake_1 (by first | rfl | decide) ?_
  refine lv_icmp_lt (tgt := 9) hx hb dPr_addOrTake_4 (by decide) (fun h1 => ?_) (fun h1 => ?_)
  · refine lv_aload_n hx hb dPr_addOrTake_9 rfl (lv_at hl 0 rfl) ?_
    refine va_get (D := D) (ci := 2) (v := .ref (ad 15)) (C := RPr) (T := TPr) (N := 9) hx hb hw pinPr hown hE.1 hP 0 rfl rfl 1 (by decide) (hw _ wd_50) (fun _ h9 => h9) rfl dPr_addOrTake_10 ?_
    refine lv_iload_n hx hb dPr_addOrTake_13 rfl (lv_at hl 1 rfl) ?_
    refine lv_iconst (v := 3) hx hb dPr_addOrTake_14 (by first | rfl | decide) ?_
    refine lv_ishr hx hb dPr_addOrTake_15 ?_
    refine lv_bipush (v := 7) hx hb dPr_addOrTake_16 (by first | rfl | decide) ?_
    refine lv_iand hx hb dPr_addOrTake_18 ?_
    refine va_iald hx hb hE.1 hP 1 0 rfl rfl (show vp_in _ (2 ^ 3) from pk_andIn _ 3 (by decide) (by decide)) dPr_addOrTake_19 ?_
    refine lv_istore_n (lv' := [(2, .int (rr ((xh >>> ((3 : Int32) &&& 31)) &&& (7 : Int32)).toNatClampNeg)), (0, .ref (ad 4)), (1, .int xh)]) hx hb dPr_addOrTake_20 rfl hl (by decide) rfl (fun ls hl => ?_)
    refine lv_aload_n hx hb dPr_addOrTake_21 rfl (lv_at hl 1 rfl) ?_
    refine va_get (D := D) (ci := 2) (v := .ref (ad 15)) (C := RPr) (T := TPr) (N := 9) hx hb hw pinPr hown hE.1 hP 0 rfl rfl 1 (by decide) (hw _ wd_50) (fun _ h9 => h9) rfl dPr_addOrTake_22 ?_
    refine lv_iload_n hx hb dPr_addOrTake_25 rfl (lv_at hl 2 rfl) ?_
    refine lv_bipush (v := 6) hx hb dPr_addOrTake_26 (by first | rfl | decide) ?_
    refine lv_ishr hx hb dPr_addOrTake_28 ?_
    refine lv_bipush (v := 7) hx hb dPr_addOrTake_29 (by first | rfl | decide) ?_
    refine lv_iand hx hb dPr_addOrTake_31 ?_
    refine va_iald hx hb hE.1 hP 1 0 rfl rfl (show vp_in _ (2 ^ 3) from pk_andIn _ 3 (by decide) (by decide)) dPr_addOrTake_32 ?_
    refine lv_istore_n (lv' := [(3, .int (rr ((xh >>> ((6 : Int32) &&& 31)) &&& (7 : Int32)).toNatClampNeg)), (2, .int (rr ((xh >>> ((3 : Int32) &&& 31)) &&& (7 : Int32)).toNatClampNeg)), (0, .ref (ad 4)), (1, .int xh)]) hx hb dPr_addOrTake_33 rfl hl (by decide) rfl (fun ls hl => ?_)
    refine lv_aload_n hx hb dPr_addOrTake_34 rfl (lv_at hl 2 rfl) ?_
    refine va_get (D := D) (ci := 2) (v := .ref (ad 15)) (C := RPr) (T := TPr) (N := 9) hx hb hw pinPr hown hE.1 hP 0 rfl rfl 1 (by decide) (hw _ wd_50) (fun _ h9 => h9) rfl dPr_addOrTake_35 ?_
    refine lv_iload_n hx hb dPr_addOrTake_38 rfl (lv_at hl 3 rfl) ?_
    refine lv_bipush (v := 7) hx hb dPr_addOrTake_39 (by first | rfl | decide) ?_
    refine lv_iand hx hb dPr_addOrTake_41 ?_
    refine lv_iload_n hx hb dPr_addOrTake_42 rfl (lv_at hl 3 rfl) ?_
    refine lv_sipush (v := 6656) hx hb dPr_addOrTake_43 (by first | rfl | decide) ?_
    refine lv_icmp_ge (tgt := 58) hx hb dPr_addOrTake_46 (by decide) (fun h2 => ?_) (fun h2 => ?_)
    · refine lv_aload_n hx hb dPr_addOrTake_58 rfl (lv_at hl 2 rfl) ?_
      refine lv_iload_n hx hb dPr_addOrTake_59 rfl (lv_at hl 1 rfl) ?_
      refine lv_iload_n hx hb dPr_addOrTake_60 rfl (lv_at hl 0 rfl) ?_
      obtain ⟨g1, hg1⟩ : ∃ g9, FPr_difference (rr ((xh >>> ((3 : Int32) &&& 31)) &&& (7 : Int32)).toNatClampNeg) (rr ((xh >>> ((6 : Int32) &&& 31)) &&& (7 : Int32)).toNatClampNeg) = g9 := ⟨_, rfl⟩
      have cg1 := k_Pr_difference l D ad cI cS (rr ((xh >>> ((3 : Int32) &&& 31)) &&& (7 : Int32)).toNatClampNeg) (rr ((xh >>> ((6 : Int32) &&& 31)) &&& (7 : Int32)).toNatClampNeg) rp re fn fz fc fv rr rw gn gp gh
      rw [hg1] at cg1
      refine pq_calli (fr := g1.1) (wc := (wP ad cI cS rp re fn fz fc fv rr rw gn gp gh)) (wr := ([] : List Nat).filterMap (fun i => (wP ad cI cS rp re fn fz fc fv rr rw gn gp gh)[i]?)) hP hD hS hA [0, 1, 2, 3, 4] [] rfl rfl (by decide) (by decide) (va_runV (own := RPr) (C := RPr) (As := [.int (rr ((xh >>> ((3 : Int32) &&& 31)) &&& (7 : Int32)).toNatClampNeg), .int (rr ((xh >>> ((6 : Int32) &&& 31)) &&& (7 : Int32)).toNatClampNeg)]) (rest := [.int (xh &&& (7 : Int32)), .ref (ad 15)]) ⟨hx, hb, hml, hown, hw⟩ (cg1 s.heap.size) ⟨pq_cwB 2 hw wd_52 wd_33 wd_51 rfl rfl (by decide +kernel) ⟨Nat.le_of_ble_eq_true rfl, Nat.le_of_ble_eq_true rfl⟩, hw _ wd_53, hw _ wd_54⟩ (pq_preV (ci := 2) (C := RPr) (T := TPr) (N := 9) hE (hP.sub [0, 1, 2, 3, 4] rfl) (hD.sub [0, 1, 2, 3, 4] (by decide) rfl) rfl 0 rfl) rfl rfl hl.1 rfl (lv_room (Nat.le_of_ble_eq_true rfl)) dPr_addOrTake_61 ⟨Nat.zero_le _, Nat.zero_le _⟩) (fun H locs hP hD hS => ?_)
      have hP : va_P D vwCl (wP ad cI cS rp re g1.2.1 g1.2.2.1 g1.2.2.2.1 g1.2.2.2.2 rr rw gn gp gh) H := hP.sub [0, 1, 2, 3, 4] rfl
      have hD : va_D _ (wP ad cI cS rp re g1.2.1 g1.2.2.1 g1.2.2.2.1 g1.2.2.2.2 rr rw gn gp gh) := hD.sub [0, 1, 2, 3, 4] (by decide) rfl
      refine va_iast hx hb hE.1 hP hD hS 1 0 rfl rfl (show vp_in _ (2 ^ 3) from pk_andIn _ 3 (by decide) (by decide)) dPr_addOrTake_64 (fun H locs hP hD hS => ?_)
      have hP : va_P D vwCl (wP ad cI cS rp re g1.2.1 g1.2.2.1 g1.2.2.2.1 g1.2.2.2.2 (upd rr (xh &&& (7 : Int32)).toNatClampNeg g1.1) rw gn gp gh) H := hP
      have hD : va_D _ (wP ad cI cS rp re g1.2.1 g1.2.2.1 g1.2.2.2.1 g1.2.2.2.2 (upd rr (xh &&& (7 : Int32)).toNatClampNeg g1.1) rw gn gp gh) := hD
      refine lv_aload_n hx hb dPr_addOrTake_65 rfl (lv_at hl 2 rfl) ?_
      refine pq_calli (fr := ((FPr_next rp).1)) (wc := (wP ad cI cS rp re g1.2.1 g1.2.2.1 g1.2.2.2.1 g1.2.2.2.2 (upd rr (xh &&& (7 : Int32)).toNatClampNeg g1.1) rw gn gp gh)) (wr := ([] : List Nat).filterMap (fun i => (wP ad cI cS rp re g1.2.1 g1.2.2.1 g1.2.2.2.1 g1.2.2.2.2 (upd rr (xh &&& (7 : Int32)).toNatClampNeg g1.1) rw gn gp gh)[i]?)) hP hD hS hA [0, 1, 2, 3, 4] [] rfl rfl (by decide) (by decide) (va_runV (own := RPr) (C := RPr) (As := []) (rest := []) ⟨hx, hb, hml, hown, hw⟩ (k_Pr_next l D ad cI cS rp re g1.2.1 g1.2.2.1 g1.2.2.2.1 g1.2.2.2.2 (upd rr (xh &&& (7 : Int32)).toNatClampNeg g1.1) rw gn gp gh H.size) ⟨pq_cwB 0 hw wd_38 wd_33 wd_37 rfl rfl (by decide +kernel) ⟨Nat.le_of_ble_eq_true rfl, Nat.le_of_ble_eq_true rfl⟩, hw _ wd_39, hw _ wd_40⟩ (pq_preV (ci := 2) (C := RPr) (T := TPr) (N := 9) hE (hP.sub [0, 1, 2, 3, 4] rfl) (hD.sub [0, 1, 2, 3, 4] (by decide) rfl) rfl 0 rfl) rfl rfl hl.1 rfl (lv_room (Nat.le_of_ble_eq_true rfl)) dPr_addOrTake_66 ⟨Nat.zero_le _, Nat.zero_le _⟩) (fun H locs hP hD hS => ?_)
      have hP : va_P D vwCl (wP ad cI cS ((FPr_next rp).2) re g1.2.1 g1.2.2.1 g1.2.2.2.1 g1.2.2.2.2 (upd rr (xh &&& (7 : Int32)).toNatClampNeg g1.1) rw gn gp gh) H := hP.sub [0, 1, 2, 3, 4] rfl
      have hD : va_D _ (wP ad cI cS ((FPr_next rp).2) re g1.2.1 g1.2.2.1 g1.2.2.2.1 g1.2.2.2.2 (upd rr (xh &&& (7 : Int32)).toNatClampNeg g1.1) rw gn gp gh) := hD.sub [0, 1, 2, 3, 4] (by decide) rfl
      have e9 : FPr_addOrTake xh rp fn fz fc fv rr = (((FPr_next rp).1), upd rr (xh &&& (7 : Int32)).toNatClampNeg g1.1, (FPr_next rp).2, g1.2.1, g1.2.2.1, g1.2.2.2.1, g1.2.2.2.2) := by simp only [FPr_addOrTake, hg1, if_pos h1, if_pos h2]
      exact W.iret (v := ((FPr_next rp).1)) hx hb hr (fun t ht hW => ⟨⟨((FPr_next rp).1), (), rfl, (by show _ = _; rw [e9]), by rw [e9, ht]; exact hP, by rw [e9]; exact hD⟩, hS.F ht⟩) hS.2.2 dPr_addOrTake_69
    · refine lv_aload_n hx hb dPr_addOrTake_49 rfl (lv_at hl 2 rfl) ?_
      refine lv_iload_n hx hb dPr_addOrTake_50 rfl (lv_at hl 1 rfl) ?_
      refine lv_iload_n hx hb dPr_addOrTake_51 rfl (lv_at hl 0 rfl) ?_
      obtain ⟨g2, hg2⟩ : ∃ g9, FPr_sum (rr ((xh >>> ((3 : Int32) &&& 31)) &&& (7 : Int32)).toNatClampNeg) (rr ((xh >>> ((6 : Int32) &&& 31)) &&& (7 : Int32)).toNatClampNeg) = g9 := ⟨_, rfl⟩
      have cg2 := k_Pr_sum l D ad cI cS (rr ((xh >>> ((3 : Int32) &&& 31)) &&& (7 : Int32)).toNatClampNeg) (rr ((xh >>> ((6 : Int32) &&& 31)) &&& (7 : Int32)).toNatClampNeg) rp re fn fz fc fv rr rw gn gp gh
      rw [hg2] at cg2
      refine pq_calli (fr := g2.1) (wc := (wP ad cI cS rp re fn fz fc fv rr rw gn gp gh)) (wr := ([] : List Nat).filterMap (fun i => (wP ad cI cS rp re fn fz fc fv rr rw gn gp gh)[i]?)) hP hD hS hA [0, 1, 2, 3, 4] [] rfl rfl (by decide) (by decide) (va_runV (own := RPr) (C := RPr) (As := [.int (rr ((xh >>> ((3 : Int32) &&& 31)) &&& (7 : Int32)).toNatClampNeg), .int (rr ((xh >>> ((6 : Int32) &&& 31)) &&& (7 : Int32)).toNatClampNeg)]) (rest := [.int (xh &&& (7 : Int32)), .ref (ad 15)]) ⟨hx, hb, hml, hown, hw⟩ (cg2 s.heap.size) ⟨pq_cwB 2 hw wd_56 wd_33 wd_55 rfl rfl (by decide +kernel) ⟨Nat.le_of_ble_eq_true rfl, Nat.le_of_ble_eq_true rfl⟩, hw _ wd_57, hw _ wd_58⟩ (pq_preV (ci := 2) (C := RPr) (T := TPr) (N := 9) hE (hP.sub [0, 1, 2, 3, 4] rfl) (hD.sub [0, 1, 2, 3, 4] (by decide) rfl) rfl 0 rfl) rfl rfl hl.1 rfl (lv_room (Nat.le_of_ble_eq_true rfl)) dPr_addOrTake_52 ⟨Nat.zero_le _, Nat.zero_le _⟩) (fun H locs hP hD hS => ?_)
      have hP : va_P D vwCl (wP ad cI cS rp re g2.2.1 g2.2.2.1 g2.2.2.2.1 g2.2.2.2.2 rr rw gn gp gh) H := hP.sub [0, 1, 2, 3, 4] rfl
      have hD : va_D _ (wP ad cI cS rp re g2.2.1 g2.2.2.1 g2.2.2.2.1 g2.2.2.2.2 rr rw gn gp gh) := hD.sub [0, 1, 2, 3, 4] (by decide) rfl
      refine lv_goto (tgt := 64) hx hb dPr_addOrTake_55 (by decide) ?_
      refine va_iast hx hb hE.1 hP hD hS 1 0 rfl rfl (show vp_in _ (2 ^ 3) from pk_andIn _ 3 (by decide) (by decide)) dPr_addOrTake_64 (fun H locs hP hD hS => ?_)
      have hP : va_P D vwCl (wP ad cI cS rp re g2.2.1 g2.2.2.1 g2.2.2.2.1 g2.2.2.2.2 (upd rr (xh &&& (7 : Int32)).toNatClampNeg g2.1) rw gn gp gh) H := hP
      have hD : va_D _ (wP ad cI cS rp re g2.2.1 g2.2.2.1 g2.2.2.2.1 g2.2.2.2.2 (upd rr (xh &&& (7 : Int32)).toNatClampNeg g2.1) rw gn gp gh) := hD
      refine lv_aload_n hx hb dPr_addOrTake_65 rfl (lv_at hl 2 rfl) ?_
      refine pq_calli (fr := ((FPr_next rp).1)) (wc := (wP ad cI cS rp re g2.2.1 g2.2.2.1 g2.2.2.2.1 g2.2.2.2.2 (upd rr (xh &&& (7 : Int32)).toNatClampNeg g2.1) rw gn gp gh)) (wr := ([] : List Nat).filterMap (fun i => (wP ad cI cS rp re g2.2.1 g2.2.2.1 g2.2.2.2.1 g2.2.2.2.2 (upd rr (xh &&& (7 : Int32)).toNatClampNeg g2.1) rw gn gp gh)[i]?)) hP hD hS hA [0, 1, 2, 3, 4] [] rfl rfl (by decide) (by decide) (va_runV (own := RPr) (C := RPr) (As := []) (rest := []) ⟨hx, hb, hml, hown, hw⟩ (k_Pr_next l D ad cI cS rp re g2.2.1 g2.2.2.1 g2.2.2.2.1 g2.2.2.2.2 (upd rr (xh &&& (7 : Int32)).toNatClampNeg g2.1) rw gn gp gh H.size) ⟨pq_cwB 0 hw wd_38 wd_33 wd_37 rfl rfl (by decide +kernel) ⟨Nat.le_of_ble_eq_true rfl, Nat.le_of_ble_eq_true rfl⟩, hw _ wd_39, hw _ wd_40⟩ (pq_preV (ci := 2) (C := RPr) (T := TPr) (N := 9) hE (hP.sub [0, 1, 2, 3, 4] rfl) (hD.sub [0, 1, 2, 3, 4] (by decide) rfl) rfl 0 rfl) rfl rfl hl.1 rfl (lv_room (Nat.le_of_ble_eq_true rfl)) dPr_addOrTake_66 ⟨Nat.zero_le _, Nat.zero_le _⟩) (fun H locs hP hD hS => ?_)
      have hP : va_P D vwCl (wP ad cI cS ((FPr_next rp).2) re g2.2.1 g2.2.2.1 g2.2.2.2.1 g2.2.2.2.2 (upd rr (xh &&& (7 : Int32)).toNatClampNeg g2.1) rw gn gp gh) H := hP.sub [0, 1, 2, 3, 4] rfl
      have hD : va_D _ (wP ad cI cS ((FPr_next rp).2) re g2.2.1 g2.2.2.1 g2.2.2.2.1 g2.2.2.2.2 (upd rr (xh &&& (7 : Int32)).toNatClampNeg g2.1) rw gn gp gh) := hD.sub [0, 1, 2, 3, 4] (by decide) rfl
      have e9 : FPr_addOrTake xh rp fn fz fc fv rr = (((FPr_next rp).1), upd rr (xh &&& (7 : Int32)).toNatClampNeg g2.1, (FPr_next rp).2, g2.2.1, g2.2.2.1, g2.2.2.2.1, g2.2.2.2.2) := by simp only [FPr_addOrTake, hg2, if_pos h1, if_neg h2]
      exact W.iret (v := ((FPr_next rp).1)) hx hb hr (fun t ht hW => ⟨⟨((FPr_next rp).1), (), rfl, (by show _ = _; rw [e9]), by rw [e9, ht]; exact hP, by rw [e9]; exact hD⟩, hS.F ht⟩) hS.2.2 dPr_addOrTake_69
  · refine lv_iconst (v := 2) hx hb dPr_addOrTake_7 (by first | rfl | decide) ?_
    have e9 : FPr_addOrTake xh rp fn fz fc fv rr = (2, rr, rp, fn, fz, fc, fv) := by simp only [FPr_addOrTake, if_neg h1]
    exact W.iret (v := 2) hx hb hr (fun t ht hW => ⟨⟨2, (), rfl, (by show _ = _; rw [e9]), by rw [e9, ht]; exact hP, by rw [e9]; exact hD⟩, hS.F ht⟩) hS.2.2 dPr_addOrTake_8
def FPr_workWithSmall (xh : Int32) (rp : Int32) (fc : Int32) (fv : Int32) (rr : Nat → Int32) : Int32 × (Nat → Int32) × Int32 × Int32 × Int32 × Int32 × Int32 := if (1 + ((xh - 8192) >>> ((11 : Int32) &&& 31))) = 1 then (((FPr_next rp).1), upd rr ((xh >>> ((8 : Int32) &&& 31)) &&& (7 : Int32)).toNatClampNeg (FPr_noted (xh &&& (255 : Int32))).1, (FPr_next rp).2, (FPr_noted (xh &&& (255 : Int32))).2.1, (FPr_noted (xh &&& (255 : Int32))).2.2, fc, fv) else if (1 + ((xh - 8192) >>> ((11 : Int32) &&& 31))) = 2 then (((FPr_next rp).1), rr, (FPr_next rp).2, (FPr_difference (rr ((xh >>> ((8 : Int32) &&& 31)) &&& (7 : Int32)).toNatClampNeg) (xh &&& (255 : Int32))).2.1, (FPr_difference (rr ((xh >>> ((8 : Int32) &&& 31)) &&& (7 : Int32)).toNatClampNeg) (xh &&& (255 : Int32))).2.2.1, (FPr_difference (rr ((xh >>> ((8 : Int32) &&& 31)) &&& (7 : Int32)).toNatClampNeg) (xh &&& (255 : Int32))).2.2.2.1, (FPr_difference (rr ((xh >>> ((8 : Int32) &&& 31)) &&& (7 : Int32)).toNatClampNeg) (xh &&& (255 : Int32))).2.2.2.2) else if (1 + ((xh - 8192) >>> ((11 : Int32) &&& 31))) = 3 then (((FPr_next rp).1), upd rr ((xh >>> ((8 : Int32) &&& 31)) &&& (7 : Int32)).toNatClampNeg (FPr_sum (rr ((xh >>> ((8 : Int32) &&& 31)) &&& (7 : Int32)).toNatClampNeg) (xh &&& (255 : Int32))).1, (FPr_next rp).2, (FPr_sum (rr ((xh >>> ((8 : Int32) &&& 31)) &&& (7 : Int32)).toNatClampNeg) (xh &&& (255 : Int32))).2.1, (FPr_sum (rr ((xh >>> ((8 : Int32) &&& 31)) &&& (7 : Int32)).toNatClampNeg) (xh &&& (255 : Int32))).2.2.1, (FPr_sum (rr ((xh >>> ((8 : Int32) &&& 31)) &&& (7 : Int32)).toNatClampNeg) (xh &&& (255 : Int32))).2.2.2.1, (FPr_sum (rr ((xh >>> ((8 : Int32) &&& 31)) &&& (7 : Int32)).toNatClampNeg) (xh &&& (255 : Int32))).2.2.2.2) else (((FPr_next rp).1), upd rr ((xh >>> ((8 : Int32) &&& 31)) &&& (7 : Int32)).toNatClampNeg (FPr_difference (rr ((xh >>> ((8 : Int32) &&& 31)) &&& (7 : Int32)).toNatClampNeg) (xh &&& (255 : Int32))).1, (FPr_next rp).2, (FPr_difference (rr ((xh >>> ((8 : Int32) &&& 31)) &&& (7 : Int32)).toNatClampNeg) (xh &&& (255 : Int32))).2.1, (FPr_difference (rr ((xh >>> ((8 : Int32) &&& 31)) &&& (7 : Int32)).toNatClampNeg) (xh &&& (255 : Int32))).2.2.1, (FPr_difference (rr ((xh >>> ((8 : Int32) &&& 31)) &&& (7 : Int32)).toNatClampNeg) (xh &&& (255 : Int32))).2.2.2.1, (FPr_difference (rr ((xh >>> ((8 : Int32) &&& 31)) &&& (7 : Int32)).toNatClampNeg) (xh &&& (255 : Int32))).2.2.2.2)
set_option maxHeartbeats 4000000 in
set_option maxRecDepth 100000 in
theorem k_Pr_workWithSmall (l : Launch) (D : va_G) (ad : Nat → Nat) (cI cS : ClassId) (xh : Int32) (rp : Int32) (re : Int32) (fn : Int32) (fz : Int32) (fc : Int32) (fv : Int32) (rr : Nat → Int32) (rw : Nat → Int32) (gn : Int32) (gp : Int32) (gh : Nat → Int32) : pq_I l yPr_workWithSmall (.code yPr_workWithSmall cPr_workWithSmall 4 (some .int) :: pq_ws) { frames := 2, cells := 0, slots := 0, locals := 44 } D cI cS [.ref (ad 4), .int xh] (wP ad cI cS rp re fn fz fc fv rr rw gn gp gh) ((FPr_workWithSmall xh rp fc fv rr).1) (wP ad cI cS ((FPr_workWithSmall xh rp fc fv rr).2.2.1) re ((FPr_workWithSmall xh rp fc fv rr).2.2.2.1) ((FPr_workWithSmall xh rp fc fv rr).2.2.2.2.1) ((FPr_workWithSmall xh rp fc fv rr).2.2.2.2.2.1) ((FPr_workWithSmall xh rp fc fv rr).2.2.2.2.2.2) ((FPr_workWithSmall xh rp fc fv rr).2.1) rw gn gp gh) := by
  intro sz
  refine Met.ofW (cc := cPr_workWithSmall) (maxL := 4) (ret := (some .int)) (by decide) rfl ?_
  intro p e s m args below meth c s₁ B hml hv
  obtain ⟨rfl, hsz, hP, hD0, hE⟩ := hv
  have hx := B.exec
  have hb := B.bytes
  have hr := B.returns
  have hts := atoms_spec (ws := (.code yPr_workWithSmall cPr_workWithSmall 4 (some .int) :: pq_ws : List Cond)) B.pre
  have hw : ∀ w ∈ pq_ws, w.before _ s = true := fun w h => hts w (List.mem_cons_of_mem _ h)
  have hown : s.vm.findClass RPr = some m.cls := findClass_of_methodNamed B.named
  have hlocks := B.notSynchronized
  subst hsz
  have hD := hD0.self (sz := s.heap.size)
  have hA : ∀ q : Nat, s.heap.size ≤ q → va_A (wP ad cI cS rp re fn fz fc fv rr rw gn gp gh) s.heap.size q := fun q h => Or.inr h
  have hS : va_S (va_A (wP ad cI cS rp re fn fz fc fv rr rw gn gp gh) s.heap.size) s.heap s.heap [] := va_S.rf
  have hl := lv_entry ([.ref (ad 4), .int xh] : List Value) (n := 4) (Nat.le_of_ble_eq_true rfl)
  rw [lg_entry_eq]
  generalize (lg_sl ([.ref (ad 4), .int xh] : List Value) ++ List.replicate (4 - (lg_sl ([.ref (ad 4), .int xh] : List Value)).length) Slot.unset).toArray = ls at hl ⊢
  have hl : lv_has ls 4 [(0, .ref (ad 4)), (1, .int xh)] := hl
  refine lv_iload_n hx hb dPr_workWithSmall_0 rfl (lv_at hl 1 rfl) ?_
  refine lv_bipush (v := 8) hx hb dPr_workWithSmall_1 (by first | rfl | decide) ?_
  refine lv_ishr hx hb dPr_workWithSmall_3 ?_
  refine lv_bipush (v := 7) hx hb dPr_workWithSmall_4 (by first | rfl | decide) ?_
  refine lv_iand hx hb dPr_workWithSmall_6 ?_
  refine lv_istore_n (lv' := [(2, .int ((xh >>> ((8 : Int32) &&& 31)) &&& (7 : Int32))), (0, .ref (ad 4)), (1, .int xh)]) hx hb dPr_workWithSmall_7 rfl hl (by decide) rfl (fun ls hl => ?_)
  refine lv_iload_n hx hb dPr_workWithSmall_8 rfl (lv_at hl 2 rfl) ?_
  refine lv_sipush (v := 255) hx hb dPr_workWithSmall_9 (by first | rfl | decide) ?_
  refine lv_iand hx hb dPr_workWithSmall_12 ?_
  refine lv_istore_n (lv' := [(3, .int (xh &&& (255 : Int32))), (2, .int ((xh >>> ((8 : Int32) &&& 31)) &&& (7 : Int32))), (0, .ref (ad 4)), (1, .int xh)]) hx hb dPr_workWithSmall_13 rfl hl (by decide) rfl (fun ls hl => ?_)
  refine lv_iconst (v := 1) hx hb dPr_workWithSmall_14 (by first | rfl | decide) ?_
  refine lv_iload_n hx hb dPr_workWithSmall_15 rfl (lv_at hl 3 rfl) ?_
  refine lv_sipush (v := 8192) hx hb dPr_workWithSmall_16 (by first | rfl | decide) ?_
  refine lv_isub hx hb dPr_workWithSmall_19 ?_
  refine lv_bipush (v := 11) hx hb dPr_workWithSmall_20 (by first | rfl | decide) ?_
  refine lv_ishr hx hb dPr_workWithSmall_22 ?_
  refine lv_iadd hx hb dPr_workWithSmall_23 ?_
  by_cases h1 : (1 + ((xh - 8192) >>> ((11 : Int32) &&& 31))) = 1
  · refine lv_tableIn (off := 28) (tgt := 52) hx hb dPr_workWithSmall_24 (by rw [h1]; decide) (by rw [h1]; decide) (by rw [h1]; rfl) (by decide) ?_
    refine lv_aload_n hx hb dPr_workWithSmall_52 rfl (lv_at hl 2 rfl) ?_
    refine va_get (D := D) (ci := 2) (v := .ref (ad 15)) (C := RPr) (T := TPr) (N := 9) hx hb hw pinPr hown hE.1 hP 0 rfl rfl 1 (by decide) (hw _ wd_50) (fun _ h9 => h9) rfl dPr_workWithSmall_53 ?_
    refine lv_iload_n hx hb dPr_workWithSmall_56 rfl (lv_at hl 1 rfl) ?_
    refine lv_aload_n hx hb dPr_workWithSmall_57 rfl (lv_at hl 2 rfl) ?_
    refine lv_iload_n hx hb dPr_workWithSmall_58 rfl (lv_at hl 0 rfl) ?_
    obtain ⟨g1, hg1⟩ : ∃ g9, FPr_noted (xh &&& (255 : Int32)) = g9 := ⟨_, rfl⟩
    have cg1 := k_Pr_noted l D ad cI cS (xh &&& (255 : Int32)) rp re fn fz fc fv rr rw gn gp gh
    rw [hg1] at cg1
    refine pq_calli (fr := g1.1) (wc := (wP ad cI cS rp re fn fz fc fv rr rw gn gp gh)) (wr := ([] : List Nat).filterMap (fun i => (wP ad cI cS rp re fn fz fc fv rr rw gn gp gh)[i]?)) hP hD hS hA [0, 1, 2, 3, 4] [] rfl rfl (by decide) (by decide) (va_runV (own := RPr) (C := RPr) (As := [.int (xh &&& (255 : Int32))]) (rest := [.int ((xh >>> ((8 : Int32) &&& 31)) &&& (7 : Int32)), .ref (ad 15)]) ⟨hx, hb, hml, hown, hw⟩ (cg1 s.heap.size) ⟨pq_cwB 1 hw wd_47 wd_33 wd_46 rfl rfl (by decide +kernel) ⟨Nat.le_of_ble_eq_true rfl, Nat.le_of_ble_eq_true rfl⟩, hw _ wd_48, hw _ wd_49⟩ (pq_preV (ci := 2) (C := RPr) (T := TPr) (N := 9) hE (hP.sub [0, 1, 2, 3, 4] rfl) (hD.sub [0, 1, 2, 3, 4] (by decide) rfl) rfl 0 rfl) rfl rfl hl.1 rfl (lv_room (Nat.le_of_ble_eq_true rfl)) dPr_workWithSmall_59 ⟨Nat.zero_le _, Nat.zero_le _⟩) (fun H locs hP hD hS => ?_)
    have hP : va_P D vwCl (wP ad cI cS rp re g1.2.1 g1.2.2 fc fv rr rw gn gp gh) H := hP.sub [0, 1, 2, 3, 4] rfl
    have hD : va_D _ (wP ad cI cS rp re g1.2.1 g1.2.2 fc fv rr rw gn gp gh) := hD.sub [0, 1, 2, 3, 4] (by decide) rfl
    refine va_iast hx hb hE.1 hP hD hS 1 0 rfl rfl (show vp_in _ (2 ^ 3) from pk_andIn _ 3 (by decide) (by decide)) dPr_workWithSmall_62 (fun H locs hP hD hS => ?_)
    have hP : va_P D vwCl (wP ad cI cS rp re g1.2.1 g1.2.2 fc fv (upd rr ((xh >>> ((8 : Int32) &&& 31)) &&& (7 : Int32)).toNatClampNeg g1.1) rw gn gp gh) H := hP
    have hD : va_D _ (wP ad cI cS rp re g1.2.1 g1.2.2 fc fv (upd rr ((xh >>> ((8 : Int32) &&& 31)) &&& (7 : Int32)).toNatClampNeg g1.1) rw gn gp gh) := hD
    refine lv_goto (tgt := 118) hx hb dPr_workWithSmall_63 (by decide) ?_
    refine lv_aload_n hx hb dPr_workWithSmall_118 rfl (lv_at hl 2 rfl) ?_
    refine pq_calli (fr := ((FPr_next rp).1)) (wc := (wP ad cI cS rp re g1.2.1 g1.2.2 fc fv (upd rr ((xh >>> ((8 : Int32) &&& 31)) &&& (7 : Int32)).toNatClampNeg g1.1) rw gn gp gh)) (wr := ([] : List Nat).filterMap (fun i => (wP ad cI cS rp re g1.2.1 g1.2.2 fc fv (upd rr ((xh >>> ((8 : Int32) &&& 31)) &&& (7 : Int32)).toNatClampNeg g1.1) rw gn gp gh)[i]?)) hP hD hS hA [0, 1, 2, 3, 4] [] rfl rfl (by decide) (by decide) (va_runV (own := RPr) (C := RPr) (As := []) (rest := []) ⟨hx, hb, hml, hown, hw⟩ (k_Pr_next l D ad cI cS rp re g1.2.1 g1.2.2 fc fv (upd rr ((xh >>> ((8 : Int32) &&& 31)) &&& (7 : Int32)).toNatClampNeg g1.1) rw gn gp gh H.size) ⟨pq_cwB 0 hw wd_38 wd_33 wd_37 rfl rfl (by decide +kernel) ⟨Nat.le_of_ble_eq_true rfl, Nat.le_of_ble_eq_true rfl⟩, hw _ wd_39, hw _ wd_40⟩ (pq_preV (ci := 2) (C := RPr) (T := TPr) (N := 9) hE (hP.sub [0, 1, 2, 3, 4] rfl) (hD.sub [0, 1, 2, 3, 4] (by decide) rfl) rfl 0 rfl) rfl rfl hl.1 rfl (lv_room (Nat.le_of_ble_eq_true rfl)) dPr_workWithSmall_119 ⟨Nat.zero_le _, Nat.zero_le _⟩) (fun H locs hP hD hS => ?_)
    have hP : va_P D vwCl (wP ad cI cS ((FPr_next rp).2) re g1.2.1 g1.2.2 fc fv (upd rr ((xh >>> ((8 : Int32) &&& 31)) &&& (7 : Int32)).toNatClampNeg g1.1) rw gn gp gh) H := hP.sub [0, 1, 2, 3, 4] rfl
    have hD : va_D _ (wP ad cI cS ((FPr_next rp).2) re g1.2.1 g1.2.2 fc fv (upd rr ((xh >>> ((8 : Int32) &&& 31)) &&& (7 : Int32)).toNatClampNeg g1.1) rw gn gp gh) := hD.sub [0, 1, 2, 3, 4] (by decide) rfl
    have e9 : FPr_workWithSmall xh rp fc fv rr = (((FPr_next rp).1), upd rr ((xh >>> ((8 : Int32) &&& 31)) &&& (7 : Int32)).toNatClampNeg g1.1, (FPr_next rp).2, g1.2.1, g1.2.2, fc, fv) := by simp only [FPr_workWithSmall, hg1, if_pos h1]
    exact W.iret (v := ((FPr_next rp).1)) hx hb hr (fun t ht hW => ⟨⟨((FPr_next rp).1), (), rfl, (by show _ = _; rw [e9]), by rw [e9, ht]; exact hP, by rw [e9]; exact hD⟩, hS.F ht⟩) hS.2.2 dPr_workWithSmall_122
  by_cases h2 : (1 + ((xh - 8192) >>> ((11 : Int32) &&& 31))) = 2
  · refine lv_tableIn (off := 42) (tgt := 66) hx hb dPr_workWithSmall_24 (by rw [h2]; decide) (by rw [h2]; decide) (by rw [h2]; rfl) (by decide) ?_
    refine lv_aload_n hx hb dPr_workWithSmall_66 rfl (lv_at hl 2 rfl) ?_
    refine lv_aload_n hx hb dPr_workWithSmall_67 rfl (lv_at hl 2 rfl) ?_
    refine va_get (D := D) (ci := 2) (v := .ref (ad 15)) (C := RPr) (T := TPr) (N := 9) hx hb hw pinPr hown hE.1 hP 0 rfl rfl 1 (by decide) (hw _ wd_50) (fun _ h9 => h9) rfl dPr_workWithSmall_68 ?_
    refine lv_iload_n hx hb dPr_workWithSmall_71 rfl (lv_at hl 1 rfl) ?_
    refine va_iald hx hb hE.1 hP 1 0 rfl rfl (show vp_in _ (2 ^ 3) from pk_andIn _ 3 (by decide) (by decide)) dPr_workWithSmall_72 ?_
    refine lv_iload_n hx hb dPr_workWithSmall_73 rfl (lv_at hl 0 rfl) ?_
    obtain ⟨g2, hg2⟩ : ∃ g9, FPr_difference (rr ((xh >>> ((8 : Int32) &&& 31)) &&& (7 : Int32)).toNatClampNeg) (xh &&& (255 : Int32)) = g9 := ⟨_, rfl⟩
    have cg2 := k_Pr_difference l D ad cI cS (rr ((xh >>> ((8 : Int32) &&& 31)) &&& (7 : Int32)).toNatClampNeg) (xh &&& (255 : Int32)) rp re fn fz fc fv rr rw gn gp gh
    rw [hg2] at cg2
    refine pq_calli (fr := g2.1) (wc := (wP ad cI cS rp re fn fz fc fv rr rw gn gp gh)) (wr := ([] : List Nat).filterMap (fun i => (wP ad cI cS rp re fn fz fc fv rr rw gn gp gh)[i]?)) hP hD hS hA [0, 1, 2, 3, 4] [] rfl rfl (by decide) (by decide) (va_runV (own := RPr) (C := RPr) (As := [.int (rr ((xh >>> ((8 : Int32) &&& 31)) &&& (7 : Int32)).toNatClampNeg), .int (xh &&& (255 : Int32))]) (rest := []) ⟨hx, hb, hml, hown, hw⟩ (cg2 s.heap.size) ⟨pq_cwB 2 hw wd_52 wd_33 wd_51 rfl rfl (by decide +kernel) ⟨Nat.le_of_ble_eq_true rfl, Nat.le_of_ble_eq_true rfl⟩, hw _ wd_53, hw _ wd_54⟩ (pq_preV (ci := 2) (C := RPr) (T := TPr) (N := 9) hE (hP.sub [0, 1, 2, 3, 4] rfl) (hD.sub [0, 1, 2, 3, 4] (by decide) rfl) rfl 0 rfl) rfl rfl hl.1 rfl (lv_room (Nat.le_of_ble_eq_true rfl)) dPr_workWithSmall_74 ⟨Nat.zero_le _, Nat.zero_le _⟩) (fun H locs hP hD hS => ?_)
    have hP : va_P D vwCl (wP ad cI cS rp re g2.2.1 g2.2.2.1 g2.2.2.2.1 g2.2.2.2.2 rr rw gn gp gh) H := hP.sub [0, 1, 2, 3, 4] rfl
    have hD : va_D _ (wP ad cI cS rp re g2.2.1 g2.2.2.1 g2.2.2.2.1 g2.2.2.2.2 rr rw gn gp gh) := hD.sub [0, 1, 2, 3, 4] (by decide) rfl
    refine lv_pop hx hb dPr_workWithSmall_77 rfl ?_
    refine lv_goto (tgt := 118) hx hb dPr_workWithSmall_78 (by decide) ?_
    refine lv_aload_n hx hb dPr_workWithSmall_118 rfl (lv_at hl 2 rfl) ?_
    refine pq_calli (fr := ((FPr_next rp).1)) (wc := (wP ad cI cS rp re g2.2.1 g2.2.2.1 g2.2.2.2.1 g2.2.2.2.2 rr rw gn gp gh)) (wr := ([] : List Nat).filterMap (fun i => (wP ad cI cS rp re g2.2.1 g2.2.2.1 g2.2.2.2.1 g2.2.2.2.2 rr rw gn gp gh)[i]?)) hP hD hS hA [0, 1, 2, 3, 4] [] rfl rfl (by decide) (by decide) (va_runV (own := RPr) (C := RPr) (As := []) (rest := []) ⟨hx, hb, hml, hown, hw⟩ (k_Pr_next l D ad cI cS rp re g2.2.1 g2.2.2.1 g2.2.2.2.1 g2.2.2.2.2 rr rw gn gp gh H.size) ⟨pq_cwB 0 hw wd_38 wd_33 wd_37 rfl rfl (by decide +kernel) ⟨Nat.le_of_ble_eq_true rfl, Nat.le_of_ble_eq_true rfl⟩, hw _ wd_39, hw _ wd_40⟩ (pq_preV (ci := 2) (C := RPr) (T := TPr) (N := 9) hE (hP.sub [0, 1, 2, 3, 4] rfl) (hD.sub [0, 1, 2, 3, 4] (by decide) rfl) rfl 0 rfl) rfl rfl hl.1 rfl (lv_room (Nat.le_of_ble_eq_true rfl)) dPr_workWithSmall_119 ⟨Nat.zero_le _, Nat.zero_le _⟩) (fun H locs hP hD hS => ?_)
    have hP : va_P D vwCl (wP ad cI cS ((FPr_next rp).2) re g2.2.1 g2.2.2.1 g2.2.2.2.1 g2.2.2.2.2 rr rw gn gp gh) H := hP.sub [0, 1, 2, 3, 4] rfl
    have hD : va_D _ (wP ad cI cS ((FPr_next rp).2) re g2.2.1 g2.2.2.1 g2.2.2.2.1 g2.2.2.2.2 rr rw gn gp gh) := hD.sub [0, 1, 2, 3, 4] (by decide) rfl
    have e9 : FPr_workWithSmall xh rp fc fv rr = (((FPr_next rp).1), rr, (FPr_next rp).2, g2.2.1, g2.2.2.1, g2.2.2.2.1, g2.2.2.2.2) := by simp only [FPr_workWithSmall, hg2, if_neg h1, if_pos h2]
    exact W.iret (v := ((FPr_next rp).1)) hx hb hr (fun t ht hW => ⟨⟨((FPr_next rp).1), (), rfl, (by show _ = _; rw [e9]), by rw [e9, ht]; exact hP, by rw [e9]; exact hD⟩, hS.F ht⟩) hS.2.2 dPr_workWithSmall_122
  by_cases h3 : (1 + ((xh - 8192) >>> ((11 : Int32) &&& 31))) = 3
  · refine lv_tableIn (off := 57) (tgt := 81) hx hb dPr_workWithSmall_24 (by rw [h3]; decide) (by rw [h3]; decide) (by rw [h3]; rfl) (by decide) ?_
    refine lv_aload_n hx hb dPr_workWithSmall_81 rfl (lv_at hl 2 rfl) ?_
    refine va_get (D := D) (ci := 2) (v := .ref (ad 15)) (C := RPr) (T := TPr) (N := 9) hx hb hw pinPr hown hE.1 hP 0 rfl rfl 1 (by decide) (hw _ wd_50) (fun _ h9 => h9) rfl dPr_workWithSmall_82 ?_
    refine lv_iload_n hx hb dPr_workWithSmall_85 rfl (lv_at hl 1 rfl) ?_
    refine lv_aload_n hx hb dPr_workWithSmall_86 rfl (lv_at hl 2 rfl) ?_
    refine lv_aload_n hx hb dPr_workWithSmall_87 rfl (lv_at hl 2 rfl) ?_
    refine va_get (D := D) (ci := 2) (v := .ref (ad 15)) (C := RPr) (T := TPr) (N := 9) hx hb hw pinPr hown hE.1 hP 0 rfl rfl 1 (by decide) (hw _ wd_50) (fun _ h9 => h9) rfl dPr_workWithSmall_88 ?_
    refine lv_iload_n hx hb dPr_workWithSmall_91 rfl (lv_at hl 1 rfl) ?_
    refine va_iald hx hb hE.1 hP 1 0 rfl rfl (show vp_in _ (2 ^ 3) from pk_andIn _ 3 (by decide) (by decide)) dPr_workWithSmall_92 ?_
    refine lv_iload_n hx hb dPr_workWithSmall_93 rfl (lv_at hl 0 rfl) ?_
    obtain ⟨g3, hg3⟩ : ∃ g9, FPr_sum (rr ((xh >>> ((8 : Int32) &&& 31)) &&& (7 : Int32)).toNatClampNeg) (xh &&& (255 : Int32)) = g9 := ⟨_, rfl⟩
    have cg3 := k_Pr_sum l D ad cI cS (rr ((xh >>> ((8 : Int32) &&& 31)) &&& (7 : Int32)).toNatClampNeg) (xh &&& (255 : Int32)) rp re fn fz fc fv rr rw gn gp gh
    rw [hg3] at cg3
    refine pq_calli (fr := g3.1) (wc := (wP ad cI cS rp re fn fz fc fv rr rw gn gp gh)) (wr := ([] : List Nat).filterMap (fun i => (wP ad cI cS rp re fn fz fc fv rr rw gn gp gh)[i]?)) hP hD hS hA [0, 1, 2, 3, 4] [] rfl rfl (by decide) (by decide) (va_runV (own := RPr) (C := RPr) (As := [.int (rr ((xh >>> ((8 : Int32) &&& 31)) &&& (7 : Int32)).toNatClampNeg), .int (xh &&& (255 : Int32))]) (rest := [.int ((xh >>> ((8 : Int32) &&& 31)) &&& (7 : Int32)), .ref (ad 15)]) ⟨hx, hb, hml, hown, hw⟩ (cg3 s.heap.size) ⟨pq_cwB 2 hw wd_56 wd_33 wd_55 rfl rfl (by decide +kernel) ⟨Nat.le_of_ble_eq_true rfl, Nat.le_of_ble_eq_true rfl⟩, hw _ wd_57, hw _ wd_58⟩ (pq_preV (ci := 2) (C := RPr) (T := TPr) (N := 9) hE (hP.sub [0, 1, 2, 3, 4] rfl) (hD.sub [0, 1, 2, 3, 4] (by decide) rfl) rfl 0 rfl) rfl rfl hl.1 rfl (lv_room (Nat.le_of_ble_eq_true rfl)) dPr_workWithSmall_94 ⟨Nat.zero_le _, Nat.zero_le _⟩) (fun H locs hP hD hS => ?_)
    have hP : va_P D vwCl (wP ad cI cS rp re g3.2.1 g3.2.2.1 g3.2.2.2.1 g3.2.2.2.2 rr rw gn gp gh) H := hP.sub [0, 1, 2, 3, 4] rfl
    have hD : va_D _ (wP ad cI cS rp re g3.2.1 g3.2.2.1 g3.2.2.2.1 g3.2.2.2.2 rr rw gn gp gh) := hD.sub [0, 1, 2, 3, 4] (by decide) rfl
    refine va_iast hx hb hE.1 hP hD hS 1 0 rfl rfl (show vp_in _ (2 ^ 3) from pk_andIn _ 3 (by decide) (by decide)) dPr_workWithSmall_97 (fun H locs hP hD hS => ?_)
    have hP : va_P D vwCl (wP ad cI cS rp re g3.2.1 g3.2.2.1 g3.2.2.2.1 g3.2.2.2.2 (upd rr ((xh >>> ((8 : Int32) &&& 31)) &&& (7 : Int32)).toNatClampNeg g3.1) rw gn gp gh) H := hP
    have hD : va_D _ (wP ad cI cS rp re g3.2.1 g3.2.2.1 g3.2.2.2.1 g3.2.2.2.2 (upd rr ((xh >>> ((8 : Int32) &&& 31)) &&& (7 : Int32)).toNatClampNeg g3.1) rw gn gp gh) := hD
    refine lv_goto (tgt := 118) hx hb dPr_workWithSmall_98 (by decide) ?_
    refine lv_aload_n hx hb dPr_workWithSmall_118 rfl (lv_at hl 2 rfl) ?_
    refine pq_calli (fr := ((FPr_next rp).1)) (wc := (wP ad cI cS rp re g3.2.1 g3.2.2.1 g3.2.2.2.1 g3.2.2.2.2 (upd rr ((xh >>> ((8 : Int32) &&& 31)) &&& (7 : Int32)).toNatClampNeg g3.1) rw gn gp gh)) (wr := ([] : List Nat).filterMap (fun i => (wP ad cI cS rp re g3.2.1 g3.2.2.1 g3.2.2.2.1 g3.2.2.2.2 (upd rr ((xh >>> ((8 : Int32) &&& 31)) &&& (7 : Int32)).toNatClampNeg g3.1) rw gn gp gh)[i]?)) hP hD hS hA [0, 1, 2, 3, 4] [] rfl rfl (by decide) (by decide) (va_runV (own := RPr) (C := RPr) (As := []) (rest := []) ⟨hx, hb, hml, hown, hw⟩ (k_Pr_next l D ad cI cS rp re g3.2.1 g3.2.2.1 g3.2.2.2.1 g3.2.2.2.2 (upd rr ((xh >>> ((8 : Int32) &&& 31)) &&& (7 : Int32)).toNatClampNeg g3.1) rw gn gp gh H.size) ⟨pq_cwB 0 hw wd_38 wd_33 wd_37 rfl rfl (by decide +kernel) ⟨Nat.le_of_ble_eq_true rfl, Nat.le_of_ble_eq_true rfl⟩, hw _ wd_39, hw _ wd_40⟩ (pq_preV (ci := 2) (C := RPr) (T := TPr) (N := 9) hE (hP.sub [0, 1, 2, 3, 4] rfl) (hD.sub [0, 1, 2, 3, 4] (by decide) rfl) rfl 0 rfl) rfl rfl hl.1 rfl (lv_room (Nat.le_of_ble_eq_true rfl)) dPr_workWithSmall_119 ⟨Nat.zero_le _, Nat.zero_le _⟩) (fun H locs hP hD hS => ?_)
    have hP : va_P D vwCl (wP ad cI cS ((FPr_next rp).2) re g3.2.1 g3.2.2.1 g3.2.2.2.1 g3.2.2.2.2 (upd rr ((xh >>> ((8 : Int32) &&& 31)) &&& (7 : Int32)).toNatClampNeg g3.1) rw gn gp gh) H := hP.sub [0, 1, 2, 3, 4] rfl
    have hD : va_D _ (wP ad cI cS ((FPr_next rp).2) re g3.2.1 g3.2.2.1 g3.2.2.2.1 g3.2.2.2.2 (upd rr ((xh >>> ((8 : Int32) &&& 31)) &&& (7 : Int32)).toNatClampNeg g3.1) rw gn gp gh) := hD.sub [0, 1, 2, 3, 4] (by decide) rfl
    have e9 : FPr_workWithSmall xh rp fc fv rr = (((FPr_next rp).1), upd rr ((xh >>> ((8 : Int32) &&& 31)) &&& (7 : Int32)).toNatClampNeg g3.1, (FPr_next rp).2, g3.2.1, g3.2.2.1, g3.2.2.2.1, g3.2.2.2.2) := by simp only [FPr_workWithSmall, hg3, if_neg h1, if_neg h2, if_pos h3]
    exact W.iret (v := ((FPr_next rp).1)) hx hb hr (fun t ht hW => ⟨⟨((FPr_next rp).1), (), rfl, (by show _ = _; rw [e9]), by rw [e9, ht]; exact hP, by rw [e9]; exact hD⟩, hS.F ht⟩) hS.2.2 dPr_workWithSmall_122
  have th1 := pq_ne (x := 1 + ((xh - 8192) >>> ((11 : Int32) &&& 31))) (k := 1) (y := 1) (by first | rfl | decide) h1
  have th2 := pq_ne (x := 1 + ((xh - 8192) >>> ((11 : Int32) &&& 31))) (k := 2) (y := 2) (by first | rfl | decide) h2
  have th3 := pq_ne (x := 1 + ((xh - 8192) >>> ((11 : Int32) &&& 31))) (k := 3) (y := 3) (by first | rfl | decide) h3
  refine lv_tableOut (tgt := 101) hx hb dPr_workWithSmall_24 (by omega) (by decide) ?_
  refine lv_aload_n hx hb dPr_workWithSmall_101 rfl (lv_at hl 2 rfl) ?_
  refine va_get (D := D) (ci := 2) (v := .ref (ad 15)) (C := RPr) (T := TPr) (N := 9) hx hb hw pinPr hown hE.1 hP 0 rfl rfl 1 (by decide) (hw _ wd_50) (fun _ h9 => h9) rfl dPr_workWithSmall_102 ?_
  refine lv_iload_n hx hb dPr_workWithSmall_105 rfl (lv_at hl 1 rfl) ?_
  refine lv_aload_n hx hb dPr_workWithSmall_106 rfl (lv_at hl 2 rfl) ?_
  refine lv_aload_n hx hb dPr_workWithSmall_107 rfl (lv_at hl 2 rfl) ?_
  refine va_get (D := D) (ci := 2) (v := .ref (ad 15)) (C := RPr) (T := TPr) (N := 9) hx hb hw pinPr hown hE.1 hP 0 rfl rfl 1 (by decide) (hw _ wd_50) (fun _ h9 => h9) rfl dPr_workWithSmall_108 ?_
  refine lv_iload_n hx hb dPr_workWithSmall_111 rfl (lv_at hl 1 rfl) ?_
  refine va_iald hx hb hE.1 hP 1 0 rfl rfl (show vp_in _ (2 ^ 3) from pk_andIn _ 3 (by decide) (by decide)) dPr_workWithSmall_112 ?_
  refine lv_iload_n hx hb dPr_workWithSmall_113 rfl (lv_at hl 0 rfl) ?_
  obtain ⟨g4, hg4⟩ : ∃ g9, FPr_difference (rr ((xh >>> ((8 : Int32) &&& 31)) &&& (7 : Int32)).toNatClampNeg) (xh &&& (255 : Int32)) = g9 := ⟨_, rfl⟩
  have cg4 := k_Pr_difference l D ad cI cS (rr ((xh >>> ((8 : Int32) &&& 31)) &&& (7 : Int32)).toNatClampNeg) (xh &&& (255 : Int32)) rp re fn fz fc fv rr rw gn gp gh
  rw [hg4] at cg4
  refine pq_calli (fr := g4.1) (wc := (wP ad cI cS rp re fn fz fc fv rr rw gn gp gh)) (wr := ([] : List Nat).filterMap (fun i => (wP ad cI cS rp re fn fz fc fv rr rw gn gp gh)[i]?)) hP hD hS hA [0, 1, 2, 3, 4] [] rfl rfl (by decide) (by decide) (va_runV (own := RPr) (C := RPr) (As := [.int (rr ((xh >>> ((8 : Int32) &&& 31)) &&& (7 : Int32)).toNatClampNeg), .int (xh &&& (255 : Int32))]) (rest := [.int ((xh >>> ((8 : Int32) &&& 31)) &&& (7 : Int32)), .ref (ad 15)]) ⟨hx, hb, hml, hown, hw⟩ (cg4 s.heap.size) ⟨pq_cwB 2 hw wd_52 wd_33 wd_51 rfl rfl (by decide +kernel) ⟨Nat.le_of_ble_eq_true rfl, Nat.le_of_ble_eq_true rfl⟩, hw _ wd_53, hw _ wd_54⟩ (pq_preV (ci := 2) (C := RPr) (T := TPr) (N := 9) hE (hP.sub [0, 1, 2, 3, 4] rfl) (hD.sub [0, 1, 2, 3, 4] (by decide) rfl) rfl 0 rfl) rfl rfl hl.1 rfl (lv_room (Nat.le_of_ble_eq_true rfl)) dPr_workWithSmall_114 ⟨Nat.zero_le _, Nat.zero_le _⟩) (fun H locs hP hD hS => ?_)
  have hP : va_P D vwCl (wP ad cI cS rp re g4.2.1 g4.2.2.1 g4.2.2.2.1 g4.2.2.2.2 rr rw gn gp gh) H := hP.sub [0, 1, 2, 3, 4] rfl
  have hD : va_D _ (wP ad cI cS rp re g4.2.1 g4.2.2.1 g4.2.2.2.1 g4.2.2.2.2 rr rw gn gp gh) := hD.sub [0, 1, 2, 3, 4] (by decide) rfl
  refine va_iast hx hb hE.1 hP hD hS 1 0 rfl rfl (show vp_in _ (2 ^ 3) from pk_andIn _ 3 (by decide) (by decide)) dPr_workWithSmall_117 (fun H locs hP hD hS => ?_)
  have hP : va_P D vwCl (wP ad cI cS rp re g4.2.1 g4.2.2.1 g4.2.2.2.1 g4.2.2.2.2 (upd rr ((xh >>> ((8 : Int32) &&& 31)) &&& (7 : Int32)).toNatClampNeg g4.1) rw gn gp gh) H := hP
  have hD : va_D _ (wP ad cI cS rp re g4.2.1 g4.2.2.1 g4.2.2.2.1 g4.2.2.2.2 (upd rr ((xh >>> ((8 : Int32) &&& 31)) &&& (7 : Int32)).toNatClampNeg g4.1) rw gn gp gh) := hD
  refine lv_aload_n hx hb dPr_workWithSmall_118 rfl (lv_at hl 2 rfl) ?_
  refine pq_calli (fr := ((FPr_next rp).1)) (wc := (wP ad cI cS rp re g4.2.1 g4.2.2.1 g4.2.2.2.1 g4.2.2.2.2 (upd rr ((xh >>> ((8 : Int32) &&& 31)) &&& (7 : Int32)).toNatClampNeg g4.1) rw gn gp gh)) (wr := ([] : List Nat).filterMap (fun i => (wP ad cI cS rp re g4.2.1 g4.2.2.1 g4.2.2.2.1 g4.2.2.2.2 (upd rr ((xh >>> ((8 : Int32) &&& 31)) &&& (7 : Int32)).toNatClampNeg g4.1) rw gn gp gh)[i]?)) hP hD hS hA [0, 1, 2, 3, 4] [] rfl rfl (by decide) (by decide) (va_runV (own := RPr) (C := RPr) (As := []) (rest := []) ⟨hx, hb, hml, hown, hw⟩ (k_Pr_next l D ad cI cS rp re g4.2.1 g4.2.2.1 g4.2.2.2.1 g4.2.2.2.2 (upd rr ((xh >>> ((8 : Int32) &&& 31)) &&& (7 : Int32)).toNatClampNeg g4.1) rw gn gp gh H.size) ⟨pq_cwB 0 hw wd_38 wd_33 wd_37 rfl rfl (by decide +kernel) ⟨Nat.le_of_ble_eq_true rfl, Nat.le_of_ble_eq_true rfl⟩, hw _ wd_39, hw _ wd_40⟩ (pq_preV (ci := 2) (C := RPr) (T := TPr) (N := 9) hE (hP.sub [0, 1, 2, 3, 4] rfl) (hD.sub [0, 1, 2, 3, 4] (by decide) rfl) rfl 0 rfl) rfl rfl hl.1 rfl (lv_room (Nat.le_of_ble_eq_true rfl)) dPr_workWithSmall_119 ⟨Nat.zero_le _, Nat.zero_le _⟩) (fun H locs hP hD hS => ?_)
  have hP : va_P D vwCl (wP ad cI cS ((FPr_next rp).2) re g4.2.1 g4.2.2.1 g4.2.2.2.1 g4.2.2.2.2 (upd rr ((xh >>> ((8 : Int32) &&& 31)) &&& (7 : Int32)).toNatClampNeg g4.1) rw gn gp gh) H := hP.sub [0, 1, 2, 3, 4] rfl
  have hD : va_D _ (wP ad cI cS ((FPr_next rp).2) re g4.2.1 g4.2.2.1 g4.2.2.2.1 g4.2.2.2.2 (upd rr ((xh >>> ((8 : Int32) &&& 31)) &&& (7 : Int32)).toNatClampNeg g4.1) rw gn gp gh) := hD.sub [0, 1, 2, 3, 4] (by decide) rfl
  have e9 : FPr_workWithSmall xh rp fc fv rr = (((FPr_next rp).1), upd rr ((xh >>> ((8 : Int32) &&& 31)) &&& (7 : Int32)).toNatClampNeg g4.1, (FPr_next rp).2, g4.2.1, g4.2.2.1, g4.2.2.2.1, g4.2.2.2.2) := by simp only [FPr_workWithSmall, hg4, if_neg h1, if_neg h2, if_neg h3]
  exact W.iret (v := ((FPr_next rp).1)) hx hb hr (fun t ht hW => ⟨⟨((FPr_next rp).1), (), rfl, (by show _ = _; rw [e9]), by rw [e9, ht]; exact hP, by rw [e9]; exact hD⟩, hS.F ht⟩) hS.2.2 dPr_workWithSmall_122
def FPr_work (xh : Int32) (rp : Int32) (fn : Int32) (fz : Int32) (fc : Int32) (fv : Int32) (rr : Nat → Int32) : Int32 × (Nat → Int32) × Int32 × Int32 × Int32 × Int32 × Int32 := if ((xh - 16384) >>> ((6 : Int32) &&& 31)) = 0 then (((FPr_next rp).1), upd rr (xh &&& (7 : Int32)).toNatClampNeg (FPr_noted ((rr (xh &&& (7 : Int32)).toNatClampNeg) &&& (rr ((xh >>> ((3 : Int32) &&& 31)) &&& (7 : Int32)).toNatClampNeg))).1, (FPr_next rp).2, (FPr_noted ((rr (xh &&& (7 : Int32)).toNatClampNeg) &&& (rr ((xh >>> ((3 : Int32) &&& 31)) &&& (7 : Int32)).toNatClampNeg))).2.1, (FPr_noted ((rr (xh &&& (7 : Int32)).toNatClampNeg) &&& (rr ((xh >>> ((3 : Int32) &&& 31)) &&& (7 : Int32)).toNatClampNeg))).2.2, fc, fv) else if ((xh - 16384) >>> ((6 : Int32) &&& 31)) = 1 then (((FPr_next rp).1), upd rr (xh &&& (7 : Int32)).toNatClampNeg (FPr_noted ((rr (xh &&& (7 : Int32)).toNatClampNeg) ^^^ (rr ((xh >>> ((3 : Int32) &&& 31)) &&& (7 : Int32)).toNatClampNeg))).1, (FPr_next rp).2, (FPr_noted ((rr (xh &&& (7 : Int32)).toNatClampNeg) ^^^ (rr ((xh >>> ((3 : Int32) &&& 31)) &&& (7 : Int32)).toNatClampNeg))).2.1, (FPr_noted ((rr (xh &&& (7 : Int32)).toNatClampNeg) ^^^ (rr ((xh >>> ((3 : Int32) &&& 31)) &&& (7 : Int32)).toNatClampNeg))).2.2, fc, fv) else if ((xh - 16384) >>> ((6 : Int32) &&& 31)) = 2 then (2, rr, rp, fn, fz, fc, fv) else if ((xh - 16384) >>> ((6 : Int32) &&& 31)) = 3 then (2, rr, rp, fn, fz, fc, fv) else if ((xh - 16384) >>> ((6 : Int32) &&& 31)) = 4 then (2, rr, rp, fn, fz, fc, fv) else if ((xh - 16384) >>> ((6 : Int32) &&& 31)) = 5 then (2, rr, rp, fn, fz, fc, fv) else if ((xh - 16384) >>> ((6 : Int32) &&& 31)) = 6 then (2, rr, rp, fn, fz, fc, fv) else if ((xh - 16384) >>> ((6 : Int32) &&& 31)) = 7 then (2, rr, rp, fn, fz, fc, fv) else if ((xh - 16384) >>> ((6 : Int32) &&& 31)) = 8 then (2, rr, rp, fn, fz, fc, fv) else if ((xh - 16384) >>> ((6 : Int32) &&& 31)) = 9 then (2, rr, rp, fn, fz, fc, fv) else if ((xh - 16384) >>> ((6 : Int32) &&& 31)) = 10 then (((FPr_next rp).1), rr, (FPr_next rp).2, (FPr_difference (rr (xh &&& (7 : Int32)).toNatClampNeg) (rr ((xh >>> ((3 : Int32) &&& 31)) &&& (7 : Int32)).toNatClampNeg)).2.1, (FPr_difference (rr (xh &&& (7 : Int32)).toNatClampNeg) (rr ((xh >>> ((3 : Int32) &&& 31)) &&& (7 : Int32)).toNatClampNeg)).2.2.1, (FPr_difference (rr (xh &&& (7 : Int32)).toNatClampNeg) (rr ((xh >>> ((3 : Int32) &&& 31)) &&& (7 : Int32)).toNatClampNeg)).2.2.2.1, (FPr_difference (rr (xh &&& (7 : Int32)).toNatClampNeg) (rr ((xh >>> ((3 : Int32) &&& 31)) &&& (7 : Int32)).toNatClampNeg)).2.2.2.2) else if ((xh - 16384) >>> ((6 : Int32) &&& 31)) = 11 then (2, rr, rp, fn, fz, fc, fv) else if ((xh - 16384) >>> ((6 : Int32) &&& 31)) = 12 then (((FPr_next rp).1), upd rr (xh &&& (7 : Int32)).toNatClampNeg (FPr_noted ((rr (xh &&& (7 : Int32)).toNatClampNeg) ||| (rr ((xh >>> ((3 : Int32) &&& 31)) &&& (7 : Int32)).toNatClampNeg))).1, (FPr_next rp).2, (FPr_noted ((rr (xh &&& (7 : Int32)).toNatClampNeg) ||| (rr ((xh >>> ((3 : Int32) &&& 31)) &&& (7 : Int32)).toNatClampNeg))).2.1, (FPr_noted ((rr (xh &&& (7 : Int32)).toNatClampNeg) ||| (rr ((xh >>> ((3 : Int32) &&& 31)) &&& (7 : Int32)).toNatClampNeg))).2.2, fc, fv) else if ((xh - 16384) >>> ((6 : Int32) &&& 31)) = 13 then (((FPr_next rp).1), upd rr (xh &&& (7 : Int32)).toNatClampNeg (FPr_noted ((rr (xh &&& (7 : Int32)).toNatClampNeg) * (rr ((xh >>> ((3 : Int32) &&& 31)) &&& (7 : Int32)).toNatClampNeg))).1, (FPr_next rp).2, (FPr_noted ((rr (xh &&& (7 : Int32)).toNatClampNeg) * (rr ((xh >>> ((3 : Int32) &&& 31)) &&& (7 : Int32)).toNatClampNeg))).2.1, (FPr_noted ((rr (xh &&& (7 : Int32)).toNatClampNeg) * (rr ((xh >>> ((3 : Int32) &&& 31)) &&& (7 : Int32)).toNatClampNeg))).2.2, fc, fv) else if ((xh - 16384) >>> ((6 : Int32) &&& 31)) = 14 then (((FPr_next rp).1), upd rr (xh &&& (7 : Int32)).toNatClampNeg (FPr_noted ((rr (xh &&& (7 : Int32)).toNatClampNeg) &&& ((rr ((xh >>> ((3 : Int32) &&& 31)) &&& (7 : Int32)).toNatClampNeg) ^^^ ((-1) : Int32)))).1, (FPr_next rp).2, (FPr_noted ((rr (xh &&& (7 : Int32)).toNatClampNeg) &&& ((rr ((xh >>> ((3 : Int32) &&& 31)) &&& (7 : Int32)).toNatClampNeg) ^^^ ((-1) : Int32)))).2.1, (FPr_noted ((rr (xh &&& (7 : Int32)).toNatClampNeg) &&& ((rr ((xh >>> ((3 : Int32) &&& 31)) &&& (7 : Int32)).toNatClampNeg) ^^^ ((-1) : Int32)))).2.2, fc, fv) else if ((xh - 16384) >>> ((6 : Int32) &&& 31)) = 15 then (((FPr_next rp).1), upd rr (xh &&& (7 : Int32)).toNatClampNeg (FPr_noted ((rr ((xh >>> ((3 : Int32) &&& 31)) &&& (7 : Int32)).toNatClampNeg) ^^^ ((-1) : Int32))).1, (FPr_next rp).2, (FPr_noted ((rr ((xh >>> ((3 : Int32) &&& 31)) &&& (7 : Int32)).toNatClampNeg) ^^^ ((-1) : Int32))).2.1, (FPr_noted ((rr ((xh >>> ((3 : Int32) &&& 31)) &&& (7 : Int32)).toNatClampNeg) ^^^ ((-1) : Int32))).2.2, fc, fv) else (2, rr, rp, fn, fz, fc, fv)
set_option maxHeartbeats 4000000 in
set_option maxRecDepth 100000 in
theorem k_Pr_work (l : Launch) (D : va_G) (ad : Nat → Nat) (cI cS : ClassId) (xh : Int32) (rp : Int32) (re : Int32) (fn : Int32) (fz : Int32) (fc : Int32) (fv : Int32) (rr : Nat → Int32) (rw : Nat → Int32) (gn : Int32) (gp : Int32) (gh : Nat → Int32) : pq_I l yPr_work (.code yPr_work cPr_work 5 (some .int) :: pq_ws) { frames := 2, cells := 0, slots := 0, locals := 44 } D cI cS [.ref (ad 4), .int xh] (wP ad cI cS rp re fn fz fc fv rr rw gn gp gh) ((FPr_work xh rp fn fz fc fv rr).1) (wP ad cI cS ((FPr_work xh rp fn fz fc fv rr).2.2.1) re ((FPr_work xh rp fn fz fc fv rr).2.2.2.1) ((FPr_work xh rp fn fz fc fv rr).2.2.2.2.1) ((FPr_work xh rp fn fz fc fv rr).2.2.2.2.2.1) ((FPr_work xh rp fn fz fc fv rr).2.2.2.2.2.2) ((FPr_work xh rp fn fz fc fv rr).2.1) rw gn gp gh) := by
  intro sz
  refine Met.ofW (cc := cPr_work) (maxL := 5) (ret := (some .int)) (by decide) rfl ?_
  intro p e s m args below meth c s₁ B hml hv
  obtain ⟨rfl, hsz, hP, hD0, hE⟩ := hv
  have hx := B.exec
  have hb := B.bytes
  have hr := B.returns
  have hts := atoms_spec (ws := (.code yPr_work cPr_work 5 (some .int) :: pq_ws : List Cond)) B.pre
  have hw : ∀ w ∈ pq_ws, w.before _ s = true := fun w h => hts w (List.mem_cons_of_mem _ h)
  have hown : s.vm.findClass RPr = some m.cls := findClass_of_methodNamed B.named
  have hlocks := B.notSynchronized
  subst hsz
  have hD := hD0.self (sz := s.heap.size)
  have hA : ∀ q : Nat, s.heap.size ≤ q → va_A (wP ad cI cS rp re fn fz fc fv rr rw gn gp gh) s.heap.size q := fun q h => Or.inr h
  have hS : va_S (va_A (wP ad cI cS rp re fn fz fc fv rr rw gn gp gh) s.heap.size) s.heap s.heap [] := va_S.rf
  have hl := lv_entry ([.ref (ad 4), .int xh] : List Value) (n := 5) (Nat.le_of_ble_eq_true rfl)
  rw [lg_entry_eq]
  generalize (lg_sl ([.ref (ad 4), .int xh] : List Value) ++ List.replicate (5 - (lg_sl ([.ref (ad 4), .int xh] : List Value)).length) Slot.unset).toArray = ls at hl ⊢
  have hl : lv_has ls 5 [(0, .ref (ad 4)), (1, .int xh)] := hl
  refine lv_iload_n hx hb dPr_work_0 rfl (lv_at hl 1 rfl) ?_
  refine lv_bipush (v := 7) hx hb dPr_work_1 (by first | rfl | decide) ?_
  refine lv_iand hx hb dPr_work_3 ?_
  refine lv_istore_n (lv' := [(2, .int (xh &&& (7 : Int32))), (0, .ref (ad 4)), (1, .int xh)]) hx hb dPr_work_4 rfl hl (by decide) rfl (fun ls hl => ?_)
  refine lv_aload_n hx hb dPr_work_5 rfl (lv_at hl 1 rfl) ?_
  refine va_get (D := D) (ci := 2) (v := .ref (ad 15)) (C := RPr) (T := TPr) (N := 9) hx hb hw pinPr hown hE.1 hP 0 rfl rfl 1 (by decide) (hw _ wd_50) (fun _ h9 => h9) rfl dPr_work_6 ?_
  refine lv_iload_n hx hb dPr_work_9 rfl (lv_at hl 0 rfl) ?_
  refine va_iald hx hb hE.1 hP 1 0 rfl rfl (show vp_in _ (2 ^ 3) from pk_andIn _ 3 (by decide) (by decide)) dPr_work_10 ?_
  refine lv_istore_n (lv' := [(3, .int (rr (xh &&& (7 : Int32)).toNatClampNeg)), (2, .int (xh &&& (7 : Int32))), (0, .ref (ad 4)), (1, .int xh)]) hx hb dPr_work_11 rfl hl (by decide) rfl (fun ls hl => ?_)
  refine lv_aload_n hx hb dPr_work_12 rfl (lv_at hl 2 rfl) ?_
  refine va_get (D := D) (ci := 2) (v := .ref (ad 15)) (C := RPr) (T := TPr) (N := 9) hx hb hw pinPr hown hE.1 hP 0 rfl rfl 1 (by decide) (hw _ wd_50) (fun _ h9 => h9) rfl dPr_work_13 ?_
  refine lv_iload_n hx hb dPr_work_16 rfl (lv_at hl 3 rfl) ?_
  refine lv_iconst (v := 3) hx hb dPr_work_17 (by first | rfl | decide) ?_
  refine lv_ishr hx hb dPr_work_18 ?_
  refine lv_bipush (v := 7) hx hb dPr_work_19 (by first | rfl | decide) ?_
  refine lv_iand hx hb dPr_work_21 ?_
  refine va_iald hx hb hE.1 hP 1 0 rfl rfl (show vp_in _ (2 ^ 3) from pk_andIn _ 3 (by decide) (by decide)) dPr_work_22 ?_
  refine lv_istore (lv' := [(4, .int (rr ((xh >>> ((3 : Int32) &&& 31)) &&& (7 : Int32)).toNatClampNeg)), (3, .int (rr (xh &&& (7 : Int32)).toNatClampNeg)), (2, .int (xh &&& (7 : Int32))), (0, .ref (ad 4)), (1, .int xh)]) hx hb dPr_work_23 hl (by decide) rfl (fun ls hl => ?_)
  refine lv_iload_n hx hb dPr_work_25 rfl (lv_at hl 4 rfl) ?_
  refine lv_sipush (v := 16384) hx hb dPr_work_26 (by first | rfl | decide) ?_
  refine lv_isub hx hb dPr_work_29 ?_
  refine lv_bipush (v := 6) hx hb dPr_work_30 (by first | rfl | decide) ?_
  refine lv_ishr hx hb dPr_work_32 ?_
  by_cases h1 : ((xh - 16384) >>> ((6 : Int32) &&& 31)) = 0
  · refine lv_tableIn (off := 79) (tgt := 112) hx hb dPr_work_33 (by rw [h1]; decide) (by rw [h1]; decide) (by rw [h1]; rfl) (by decide) ?_
    refine lv_aload_n hx hb dPr_work_112 rfl (lv_at hl 3 rfl) ?_
    refine va_get (D := D) (ci := 2) (v := .ref (ad 15)) (C := RPr) (T := TPr) (N := 9) hx hb hw pinPr hown hE.1 hP 0 rfl rfl 1 (by decide) (hw _ wd_50) (fun _ h9 => h9) rfl dPr_work_113 ?_
    refine lv_iload_n hx hb dPr_work_116 rfl (lv_at hl 2 rfl) ?_
    refine lv_aload_n hx hb dPr_work_117 rfl (lv_at hl 3 rfl) ?_
    refine lv_iload_n hx hb dPr_work_118 rfl (lv_at hl 1 rfl) ?_
    refine lv_iload hx hb dPr_work_119 (lv_at hl 0 rfl) ?_
    refine lv_iand hx hb dPr_work_121 ?_
    obtain ⟨g1, hg1⟩ : ∃ g9, FPr_noted ((rr (xh &&& (7 : Int32)).toNatClampNeg) &&& (rr ((xh >>> ((3 : Int32) &&& 31)) &&& (7 : Int32)).toNatClampNeg)) = g9 := ⟨_, rfl⟩
    have cg1 := k_Pr_noted l D ad cI cS ((rr (xh &&& (7 : Int32)).toNatClampNeg) &&& (rr ((xh >>> ((3 : Int32) &&& 31)) &&& (7 : Int32)).toNatClampNeg)) rp re fn fz fc fv rr rw gn gp gh
    rw [hg1] at cg1
    refine pq_calli (fr := g1.1) (wc := (wP ad cI cS rp re fn fz fc fv rr rw gn gp gh)) (wr := ([] : List Nat).filterMap (fun i => (wP ad cI cS rp re fn fz fc fv rr rw gn gp gh)[i]?)) hP hD hS hA [0, 1, 2, 3, 4] [] rfl rfl (by decide) (by decide) (va_runV (own := RPr) (C := RPr) (As := [.int ((rr (xh &&& (7 : Int32)).toNatClampNeg) &&& (rr ((xh >>> ((3 : Int32) &&& 31)) &&& (7 : Int32)).toNatClampNeg))]) (rest := [.int (xh &&& (7 : Int32)), .ref (ad 15)]) ⟨hx, hb, hml, hown, hw⟩ (cg1 s.heap.size) ⟨pq_cwB 1 hw wd_47 wd_33 wd_46 rfl rfl (by decide +kernel) ⟨Nat.le_of_ble_eq_true rfl, Nat.le_of_ble_eq_true rfl⟩, hw _ wd_48, hw _ wd_49⟩ (pq_preV (ci := 2) (C := RPr) (T := TPr) (N := 9) hE (hP.sub [0, 1, 2, 3, 4] rfl) (hD.sub [0, 1, 2, 3, 4] (by decide) rfl) rfl 0 rfl) rfl rfl hl.1 rfl (lv_room (Nat.le_of_ble_eq_true rfl)) dPr_work_122 ⟨Nat.zero_le _, Nat.zero_le _⟩) (fun H locs hP hD hS => ?_)
    have hP : va_P D vwCl (wP ad cI cS rp re g1.2.1 g1.2.2 fc fv rr rw gn gp gh) H := hP.sub [0, 1, 2, 3, 4] rfl
    have hD : va_D _ (wP ad cI cS rp re g1.2.1 g1.2.2 fc fv rr rw gn gp gh) := hD.sub [0, 1, 2, 3, 4] (by decide) rfl
    refine va_iast hx hb hE.1 hP hD hS 1 0 rfl rfl (show vp_in _ (2 ^ 3) from pk_andIn _ 3 (by decide) (by decide)) dPr_work_125 (fun H locs hP hD hS => ?_)
    have hP : va_P D vwCl (wP ad cI cS rp re g1.2.1 g1.2.2 fc fv (upd rr (xh &&& (7 : Int32)).toNatClampNeg g1.1) rw gn gp gh) H := hP
    have hD : va_D _ (wP ad cI cS rp re g1.2.1 g1.2.2 fc fv (upd rr (xh &&& (7 : Int32)).toNatClampNeg g1.1) rw gn gp gh) := hD
    refine lv_goto (tgt := 229) hx hb dPr_work_126 (by decide) ?_
    refine lv_aload_n hx hb dPr_work_229 rfl (lv_at hl 3 rfl) ?_
    refine pq_calli (fr := ((FPr_next rp).1)) (wc := (wP ad cI cS rp re g1.2.1 g1.2.2 fc fv (upd rr (xh &&& (7 : Int32)).toNatClampNeg g1.1) rw gn gp gh)) (wr := ([] : List Nat).filterMap (fun i => (wP ad cI cS rp re g1.2.1 g1.2.2 fc fv (upd rr (xh &&& (7 : Int32)).toNatClampNeg g1.1) rw gn gp gh)[i]?)) hP hD hS hA [0, 1, 2, 3, 4] [] rfl rfl (by decide) (by decide) (va_runV (own := RPr) (C := RPr) (As := []) (rest := []) ⟨hx, hb, hml, hown, hw⟩ (k_Pr_next l D ad cI cS rp re g1.2.1 g1.2.2 fc fv (upd rr (xh &&& (7 : Int32)).toNatClampNeg g1.1) rw gn gp gh H.size) ⟨pq_cwB 0 hw wd_38 wd_33 wd_37 rfl rfl (by decide +kernel) ⟨Nat.le_of_ble_eq_true rfl, Nat.le_of_ble_eq_true rfl⟩, hw _ wd_39, hw _ wd_40⟩ (pq_preV (ci := 2) (C := RPr) (T := TPr) (N := 9) hE (hP.sub [0, 1, 2, 3, 4] rfl) (hD.sub [0, 1, 2, 3, 4] (by decide) rfl) rfl 0 rfl) rfl rfl hl.1 rfl (lv_room (Nat.le_of_ble_eq_true rfl)) dPr_work_230 ⟨Nat.zero_le _, Nat.zero_le _⟩) (fun H locs hP hD hS => ?_)
    have hP : va_P D vwCl (wP ad cI cS ((FPr_next rp).2) re g1.2.1 g1.2.2 fc fv (upd rr (xh &&& (7 : Int32)).toNatClampNeg g1.1) rw gn gp gh) H := hP.sub [0, 1, 2, 3, 4] rfl
    have hD : va_D _ (wP ad cI cS ((FPr_next rp).2) re g1.2.1 g1.2.2 fc fv (upd rr (xh &&& (7 : Int32)).toNatClampNeg g1.1) rw gn gp gh) := hD.sub [0, 1, 2, 3, 4] (by decide) rfl
    have e9 : FPr_work xh rp fn fz fc fv rr = (((FPr_next rp).1), upd rr (xh &&& (7 : Int32)).toNatClampNeg g1.1, (FPr_next rp).2, g1.2.1, g1.2.2, fc, fv) := by simp only [FPr_work, hg1, if_pos h1]
    exact W.iret (v := ((FPr_next rp).1)) hx hb hr (fun t ht hW => ⟨⟨((FPr_next rp).1), (), rfl, (by show _ = _; rw [e9]), by rw [e9, ht]; exact hP, by rw [e9]; exact hD⟩, hS.F ht⟩) hS.2.2 dPr_work_233
  by_cases h2 : ((xh - 16384) >>> ((6 : Int32) &&& 31)) = 1
  · refine lv_tableIn (off := 96) (tgt := 129) hx hb dPr_work_33 (by rw [h2]; decide) (by rw [h2]; decide) (by rw [h2]; rfl) (by decide) ?_
    refine lv_aload_n hx hb dPr_work_129 rfl (lv_at hl 3 rfl) ?_
    refine va_get (D := D) (ci := 2) (v := .ref (ad 15)) (C := RPr) (T := TPr) (N := 9) hx hb hw pinPr hown hE.1 hP 0 rfl rfl 1 (by decide) (hw _ wd_50) (fun _ h9 => h9) rfl dPr_work_130 ?_
    refine lv_iload_n hx hb dPr_work_133 rfl (lv_at hl 2 rfl) ?_
    refine lv_aload_n hx hb dPr_work_134 rfl (lv_at hl 3 rfl) ?_
    refine lv_iload_n hx hb dPr_work_135 rfl (lv_at hl 1 rfl) ?_
    refine lv_iload hx hb dPr_work_136 (lv_at hl 0 rfl) ?_
    refine lv_ixor hx hb dPr_work_138 ?_
    obtain ⟨g2, hg2⟩ : ∃ g9, FPr_noted ((rr (xh &&& (7 : Int32)).toNatClampNeg) ^^^ (rr ((xh >>> ((3 : Int32) &&& 31)) &&& (7 : Int32)).toNatClampNeg)) = g9 := ⟨_, rfl⟩
    have cg2 := k_Pr_noted l D ad cI cS ((rr (xh &&& (7 : Int32)).toNatClampNeg) ^^^ (rr ((xh >>> ((3 : Int32) &&& 31)) &&& (7 : Int32)).toNatClampNeg)) rp re fn fz fc fv rr rw gn gp gh
    rw [hg2] at cg2
    refine pq_calli (fr := g2.1) (wc := (wP ad cI cS rp re fn fz fc fv rr rw gn gp gh)) (wr := ([] : List Nat).filterMap (fun i => (wP ad cI cS rp re fn fz fc fv rr rw gn gp gh)[i]?)) hP hD hS hA [0, 1, 2, 3, 4] [] rfl rfl (by decide) (by decide) (va_runV (own := RPr) (C := RPr) (As := [.int ((rr (xh &&& (7 : Int32)).toNatClampNeg) ^^^ (rr ((xh >>> ((3 : Int32) &&& 31)) &&& (7 : Int32)).toNatClampNeg))]) (rest := [.int (xh &&& (7 : Int32)), .ref (ad 15)]) ⟨hx, hb, hml, hown, hw⟩ (cg2 s.heap.size) ⟨pq_cwB 1 hw wd_47 wd_33 wd_46 rfl rfl (by decide +kernel) ⟨Nat.le_of_ble_eq_true rfl, Nat.le_of_ble_eq_true rfl⟩, hw _ wd_48, hw _ wd_49⟩ (pq_preV (ci := 2) (C := RPr) (T := TPr) (N := 9) hE (hP.sub [0, 1, 2, 3, 4] rfl) (hD.sub [0, 1, 2, 3, 4] (by decide) rfl) rfl 0 rfl) rfl rfl hl.1 rfl (lv_room (Nat.le_of_ble_eq_true rfl)) dPr_work_139 ⟨Nat.zero_le _, Nat.zero_le _⟩) (fun H locs hP hD hS => ?_)
    have hP : va_P D vwCl (wP ad cI cS rp re g2.2.1 g2.2.2 fc fv rr rw gn gp gh) H := hP.sub [0, 1, 2, 3, 4] rfl
    have hD : va_D _ (wP ad cI cS rp re g2.2.1 g2.2.2 fc fv rr rw gn gp gh) := hD.sub [0, 1, 2, 3, 4] (by decide) rfl
    refine va_iast hx hb hE.1 hP hD hS 1 0 rfl rfl (show vp_in _ (2 ^ 3) from pk_andIn _ 3 (by decide) (by decide)) dPr_work_142 (fun H locs hP hD hS => ?_)
    have hP : va_P D vwCl (wP ad cI cS rp re g2.2.1 g2.2.2 fc fv (upd rr (xh &&& (7 : Int32)).toNatClampNeg g2.1) rw gn gp gh) H := hP
    have hD : va_D _ (wP ad cI cS rp re g2.2.1 g2.2.2 fc fv (upd rr (xh &&& (7 : Int32)).toNatClampNeg g2.1) rw gn gp gh) := hD
    refine lv_goto (tgt := 229) hx hb dPr_work_143 (by decide) ?_
    refine lv_aload_n hx hb dPr_work_229 rfl (lv_at hl 3 rfl) ?_
    refine pq_calli (fr := ((FPr_next rp).1)) (wc := (wP ad cI cS rp re g2.2.1 g2.2.2 fc fv (upd rr (xh &&& (7 : Int32)).toNatClampNeg g2.1) rw gn gp gh)) (wr := ([] : List Nat).filterMap (fun i => (wP ad cI cS rp re g2.2.1 g2.2.2 fc fv (upd rr (xh &&& (7 : Int32)).toNatClampNeg g2.1) rw gn gp gh)[i]?)) hP hD hS hA [0, 1, 2, 3, 4] [] rfl rfl (by decide) (by decide) (va_runV (own := RPr) (C := RPr) (As := []) (rest := []) ⟨hx, hb, hml, hown, hw⟩ (k_Pr_next l D ad cI cS rp re g2.2.1 g2.2.2 fc fv (upd rr (xh &&& (7 : Int32)).toNatClampNeg g2.1) rw gn gp gh H.size) ⟨pq_cwB 0 hw wd_38 wd_33 wd_37 rfl rfl (by decide +kernel) ⟨Nat.le_of_ble_eq_true rfl, Nat.le_of_ble_eq_true rfl⟩, hw _ wd_39, hw _ wd_40⟩ (pq_preV (ci := 2) (C := RPr) (T := TPr) (N := 9) hE (hP.sub [0, 1, 2, 3, 4] rfl) (hD.sub [0, 1, 2, 3, 4] (by decide) rfl) rfl 0 rfl) rfl rfl hl.1 rfl (lv_room (Nat.le_of_ble_eq_true rfl)) dPr_work_230 ⟨Nat.zero_le _, Nat.zero_le _⟩) (fun H locs hP hD hS => ?_)
    have hP : va_P D vwCl (wP ad cI cS ((FPr_next rp).2) re g2.2.1 g2.2.2 fc fv (upd rr (xh &&& (7 : Int32)).toNatClampNeg g2.1) rw gn gp gh) H := hP.sub [0, 1, 2, 3, 4] rfl
    have hD : va_D _ (wP ad cI cS ((FPr_next rp).2) re g2.2.1 g2.2.2 fc fv (upd rr (xh &&& (7 : Int32)).toNatClampNeg g2.1) rw gn gp gh) := hD.sub [0, 1, 2, 3, 4] (by decide) rfl
    have e9 : FPr_work xh rp fn fz fc fv rr = (((FPr_next rp).1), upd rr (xh &&& (7 : Int32)).toNatClampNeg g2.1, (FPr_next rp).2, g2.2.1, g2.2.2, fc, fv) := by simp only [FPr_work, hg2, if_neg h1, if_pos h2]
    exact W.iret (v := ((FPr_next rp).1)) hx hb hr (fun t ht hW => ⟨⟨((FPr_next rp).1), (), rfl, (by show _ = _; rw [e9]), by rw [e9, ht]; exact hP, by rw [e9]; exact hD⟩, hS.F ht⟩) hS.2.2 dPr_work_233
  by_cases h3 : ((xh - 16384) >>> ((6 : Int32) &&& 31)) = 2
  · refine lv_tableIn (off := 194) (tgt := 227) hx hb dPr_work_33 (by rw [h3]; decide) (by rw [h3]; decide) (by rw [h3]; rfl) (by decide) ?_
    refine lv_iconst (v := 2) hx hb dPr_work_227 (by first | rfl | decide) ?_
    have e9 : FPr_work xh rp fn fz fc fv rr = (2, rr, rp, fn, fz, fc, fv) := by simp only [FPr_work, if_neg h1, if_neg h2, if_pos h3]
    exact W.iret (v := 2) hx hb hr (fun t ht hW => ⟨⟨2, (), rfl, (by show _ = _; rw [e9]), by rw [e9, ht]; exact hP, by rw [e9]; exact hD⟩, hS.F ht⟩) hS.2.2 dPr_work_228
  by_cases h4 : ((xh - 16384) >>> ((6 : Int32) &&& 31)) = 3
  · refine lv_tableIn (off := 194) (tgt := 227) hx hb dPr_work_33 (by rw [h4]; decide) (by rw [h4]; decide) (by rw [h4]; rfl) (by decide) ?_
    refine lv_iconst (v := 2) hx hb dPr_work_227 (by first | rfl | decide) ?_
    have e9 : FPr_work xh rp fn fz fc fv rr = (2, rr, rp, fn, fz, fc, fv) := by simp only [FPr_work, if_neg h1, if_neg h2, if_neg h3, if_pos h4]
    exact W.iret (v := 2) hx hb hr (fun t ht hW => ⟨⟨2, (), rfl, (by show _ = _; rw [e9]), by rw [e9, ht]; exact hP, by rw [e9]; exact hD⟩, hS.F ht⟩) hS.2.2 dPr_work_228
  by_cases h5 : ((xh - 16384) >>> ((6 : Int32) &&& 31)) = 4
  · refine lv_tableIn (off := 194) (tgt := 227) hx hb dPr_work_33 (by rw [h5]; decide) (by rw [h5]; decide) (by rw [h5]; rfl) (by decide) ?_
    refine lv_iconst (v := 2) hx hb dPr_work_227 (by first | rfl | decide) ?_
    have e9 : FPr_work xh rp fn fz fc fv rr = (2, rr, rp, fn, fz, fc, fv) := by simp only [FPr_work, if_neg h1, if_neg h2, if_neg h3, if_neg h4, if_pos h5]
    exact W.iret (v := 2) hx hb hr (fun t ht hW => ⟨⟨2, (), rfl, (by show _ = _; rw [e9]), by rw [e9, ht]; exact hP, by rw [e9]; exact hD⟩, hS.F ht⟩) hS.2.2 dPr_work_228
  by_cases h6 : ((xh - 16384) >>> ((6 : Int32) &&& 31)) = 5
  · refine lv_tableIn (off := 194) (tgt := 227) hx hb dPr_work_33 (by rw [h6]; decide) (by rw [h6]; decide) (by rw [h6]; rfl) (by decide) ?_
    refine lv_iconst (v := 2) hx hb dPr_work_227 (by first | rfl | decide) ?_
    have e9 : FPr_work xh rp fn fz fc fv rr = (2, rr, rp, fn, fz, fc, fv) := by simp only [FPr_work, if_neg h1, if_neg h2, if_neg h3, if_neg h4, if_neg h5, if_pos h6]
    exact W.iret (v := 2) hx hb hr (fun t ht hW => ⟨⟨2, (), rfl, (by show _ = _; rw [e9]), by rw [e9, ht]; exact hP, by rw [e9]; exact hD⟩, hS.F ht⟩) hS.2.2 dPr_work_228
  by_cases h7 : ((xh - 16384) >>> ((6 : Int32) &&& 31)) = 6
  · refine lv_tableIn (off := 194) (tgt := 227) hx hb dPr_work_33 (by rw [h7]; decide) (by rw [h7]; decide) (by rw [h7]; rfl) (by decide) ?_
    refine lv_iconst (v := 2) hx hb dPr_work_227 (by first | rfl | decide) ?_
    have e9 : FPr_work xh rp fn fz fc fv rr = (2, rr, rp, fn, fz, fc, fv) := by simp only [FPr_work, if_neg h1, if_neg h2, if_neg h3, if_neg h4, if_neg h5, if_neg h6, if_pos h7]
    exact W.iret (v := 2) hx hb hr (fun t ht hW => ⟨⟨2, (), rfl, (by show _ = _; rw [e9]), by rw [e9, ht]; exact hP, by rw [e9]; exact hD⟩, hS.F ht⟩) hS.2.2 dPr_work_228
  by_cases h8 : ((xh - 16384) >>> ((6 : Int32) &&& 31)) = 7
  · refine lv_tableIn (off := 194) (tgt := 227) hx hb dPr_work_33 (by rw [h8]; decide) (by rw [h8]; decide) (by rw [h8]; rfl) (by decide) ?_
    refine lv_iconst (v := 2) hx hb dPr_work_227 (by first | rfl | decide) ?_
    have e9 : FPr_work xh rp fn fz fc fv rr = (2, rr, rp, fn, fz, fc, fv) := by simp only [FPr_work, if_neg h1, if_neg h2, if_neg h3, if_neg h4, if_neg h5, if_neg h6, if_neg h7, if_pos h8]
    exact W.iret (v := 2) hx hb hr (fun t ht hW => ⟨⟨2, (), rfl, (by show _ = _; rw [e9]), by rw [e9, ht]; exact hP, by rw [e9]; exact hD⟩, hS.F ht⟩) hS.2.2 dPr_work_228
  by_cases h9 : ((xh - 16384) >>> ((6 : Int32) &&& 31)) = 8
  · refine lv_tableIn (off := 194) (tgt := 227) hx hb dPr_work_33 (by rw [h9]; decide) (by rw [h9]; decide) (by rw [h9]; rfl) (by decide) ?_
    refine lv_iconst (v := 2) hx hb dPr_work_227 (by first | rfl | decide) ?_
    have e9 : FPr_work xh rp fn fz fc fv rr = (2, rr, rp, fn, fz, fc, fv) := by simp only [FPr_work, if_neg h1, if_neg h2, if_neg h3, if_neg h4, if_neg h5, if_neg h6, if_neg h7, if_neg h8, if_pos h9]
    exact W.iret (v := 2) hx hb hr (fun t ht hW => ⟨⟨2, (), rfl, (by show _ = _; rw [e9]), by rw [e9, ht]; exact hP, by rw [e9]; exact hD⟩, hS.F ht⟩) hS.2.2 dPr_work_228
  by_cases h10 : ((xh - 16384) >>> ((6 : Int32) &&& 31)) = 9
  · refine lv_tableIn (off := 194) (tgt := 227) hx hb dPr_work_33 (by rw [h10]; decide) (by rw [h10]; decide) (by rw [h10]; rfl) (by decide) ?_
    refine lv_iconst (v := 2) hx hb dPr_work_227 (by first | rfl | decide) ?_
    have e9 : FPr_work xh rp fn fz fc fv rr = (2, rr, rp, fn, fz, fc, fv) := by simp only [FPr_work, if_neg h1, if_neg h2, if_neg h3, if_neg h4, if_neg h5, if_neg h6, if_neg h7, if_neg h8, if_neg h9, if_pos h10]
    exact W.iret (v := 2) hx hb hr (fun t ht hW => ⟨⟨2, (), rfl, (by show _ = _; rw [e9]), by rw [e9, ht]; exact hP, by rw [e9]; exact hD⟩, hS.F ht⟩) hS.2.2 dPr_work_228
  by_cases h11 : ((xh - 16384) >>> ((6 : Int32) &&& 31)) = 10
  · refine lv_tableIn (off := 113) (tgt := 146) hx hb dPr_work_33 (by rw [h11]; decide) (by rw [h11]; decide) (by rw [h11]; rfl) (by decide) ?_
    refine lv_aload_n hx hb dPr_work_146 rfl (lv_at hl 3 rfl) ?_
    refine lv_iload_n hx hb dPr_work_147 rfl (lv_at hl 1 rfl) ?_
    refine lv_iload hx hb dPr_work_148 (lv_at hl 0 rfl) ?_
    obtain ⟨g3, hg3⟩ : ∃ g9, FPr_difference (rr (xh &&& (7 : Int32)).toNatClampNeg) (rr ((xh >>> ((3 : Int32) &&& 31)) &&& (7 : Int32)).toNatClampNeg) = g9 := ⟨_, rfl⟩
    have cg3 := k_Pr_difference l D ad cI cS (rr (xh &&& (7 : Int32)).toNatClampNeg) (rr ((xh >>> ((3 : Int32) &&& 31)) &&& (7 : Int32)).toNatClampNeg) rp re fn fz fc fv rr rw gn gp gh
    rw [hg3] at cg3
    refine pq_calli (fr := g3.1) (wc := (wP ad cI cS rp re fn fz fc fv rr rw gn gp gh)) (wr := ([] : List Nat).filterMap (fun i => (wP ad cI cS rp re fn fz fc fv rr rw gn gp gh)[i]?)) hP hD hS hA [0, 1, 2, 3, 4] [] rfl rfl (by decide) (by decide) (va_runV (own := RPr) (C := RPr) (As := [.int (rr (xh &&& (7 : Int32)).toNatClampNeg), .int (rr ((xh >>> ((3 : Int32) &&& 31)) &&& (7 : Int32)).toNatClampNeg)]) (rest := []) ⟨hx, hb, hml, hown, hw⟩ (cg3 s.heap.size) ⟨pq_cwB 2 hw wd_52 wd_33 wd_51 rfl rfl (by decide +kernel) ⟨Nat.le_of_ble_eq_true rfl, Nat.le_of_ble_eq_true rfl⟩, hw _ wd_53, hw _ wd_54⟩ (pq_preV (ci := 2) (C := RPr) (T := TPr) (N := 9) hE (hP.sub [0, 1, 2, 3, 4] rfl) (hD.sub [0, 1, 2, 3, 4] (by decide) rfl) rfl 0 rfl) rfl rfl hl.1 rfl (lv_room (Nat.le_of_ble_eq_true rfl)) dPr_work_150 ⟨Nat.zero_le _, Nat.zero_le _⟩) (fun H locs hP hD hS => ?_)
    have hP : va_P D vwCl (wP ad cI cS rp re g3.2.1 g3.2.2.1 g3.2.2.2.1 g3.2.2.2.2 rr rw gn gp gh) H := hP.sub [0, 1, 2, 3, 4] rfl
    have hD : va_D _ (wP ad cI cS rp re g3.2.1 g3.2.2.1 g3.2.2.2.1 g3.2.2.2.2 rr rw gn gp gh) := hD.sub [0, 1, 2, 3, 4] (by decide) rfl
    refine lv_pop hx hb dPr_work_153 rfl ?_
    refine lv_goto (tgt := 229) hx hb dPr_work_154 (by decide) ?_
    refine lv_aload_n hx hb dPr_work_229 rfl (lv_at hl 3 rfl) ?_
    refine pq_calli (fr := ((FPr_next rp).1)) (wc := (wP ad cI cS rp re g3.2.1 g3.2.2.1 g3.2.2.2.1 g3.2.2.2.2 rr rw gn gp gh)) (wr := ([] : List Nat).filterMap (fun i => (wP ad cI cS rp re g3.2.1 g3.2.2.1 g3.2.2.2.1 g3.2.2.2.2 rr rw gn gp gh)[i]?)) hP hD hS hA [0, 1, 2, 3, 4] [] rfl rfl (by decide) (by decide) (va_runV (own := RPr) (C := RPr) (As := []) (rest := []) ⟨hx, hb, hml, hown, hw⟩ (k_Pr_next l D ad cI cS rp re g3.2.1 g3.2.2.1 g3.2.2.2.1 g3.2.2.2.2 rr rw gn gp gh H.size) ⟨pq_cwB 0 hw wd_38 wd_33 wd_37 rfl rfl (by decide +kernel) ⟨Nat.le_of_ble_eq_true rfl, Nat.le_of_ble_eq_true rfl⟩, hw _ wd_39, hw _ wd_40⟩ (pq_preV (ci := 2) (C := RPr) (T := TPr) (N := 9) hE (hP.sub [0, 1, 2, 3, 4] rfl) (hD.sub [0, 1, 2, 3, 4] (by decide) rfl) rfl 0 rfl) rfl rfl hl.1 rfl (lv_room (Nat.le_of_ble_eq_true rfl)) dPr_work_230 ⟨Nat.zero_le _, Nat.zero_le _⟩) (fun H locs hP hD hS => ?_)
    have hP : va_P D vwCl (wP ad cI cS ((FPr_next rp).2) re g3.2.1 g3.2.2.1 g3.2.2.2.1 g3.2.2.2.2 rr rw gn gp gh) H := hP.sub [0, 1, 2, 3, 4] rfl
    have hD : va_D _ (wP ad cI cS ((FPr_next rp).2) re g3.2.1 g3.2.2.1 g3.2.2.2.1 g3.2.2.2.2 rr rw gn gp gh) := hD.sub [0, 1, 2, 3, 4] (by decide) rfl
    have e9 : FPr_work xh rp fn fz fc fv rr = (((FPr_next rp).1), rr, (FPr_next rp).2, g3.2.1, g3.2.2.1, g3.2.2.2.1, g3.2.2.2.2) := by simp only [FPr_work, hg3, if_neg h1, if_neg h2, if_neg h3, if_neg h4, if_neg h5, if_neg h6, if_neg h7, if_neg h8, if_neg h9, if_neg h10, if_pos h11]
    exact W.iret (v := ((FPr_next rp).1)) hx hb hr (fun t ht hW => ⟨⟨((FPr_next rp).1), (), rfl, (by show _ = _; rw [e9]), by rw [e9, ht]; exact hP, by rw [e9]; exact hD⟩, hS.F ht⟩) hS.2.2 dPr_work_233
  by_cases h12 : ((xh - 16384) >>> ((6 : Int32) &&& 31)) = 11
  · refine lv_tableIn (off := 194) (tgt := 227) hx hb dPr_work_33 (by rw [h12]; decide) (by rw [h12]; decide) (by rw [h12]; rfl) (by decide) ?_
    refine lv_iconst (v := 2) hx hb dPr_work_227 (by first | rfl | decide) ?_
    have e9 : FPr_work xh rp fn fz fc fv rr = (2, rr, rp, fn, fz, fc, fv) := by simp only [FPr_work, if_neg h1, if_neg h2, if_neg h3, if_neg h4, if_neg h5, if_neg h6, if_neg h7, if_neg h8, if_neg h9, if_neg h10, if_neg h11, if_pos h12]
    exact W.iret (v := 2) hx hb hr (fun t ht hW => ⟨⟨2, (), rfl, (by show _ = _; rw [e9]), by rw [e9, ht]; exact hP, by rw [e9]; exact hD⟩, hS.F ht⟩) hS.2.2 dPr_work_228
  by_cases h13 : ((xh - 16384) >>> ((6 : Int32) &&& 31)) = 12
  · refine lv_tableIn (off := 124) (tgt := 157) hx hb dPr_work_33 (by rw [h13]; decide) (by rw [h13]; decide) (by rw [h13]; rfl) (by decide) ?_
    refine lv_aload_n hx hb dPr_work_157 rfl (lv_at hl 3 rfl) ?_
    refine va_get (D := D) (ci := 2) (v := .ref (ad 15)) (C := RPr) (T := TPr) (N := 9) hx hb hw pinPr hown hE.1 hP 0 rfl rfl 1 (by decide) (hw _ wd_50) (fun _ h9 => h9) rfl dPr_work_158 ?_
    refine lv_iload_n hx hb dPr_work_161 rfl (lv_at hl 2 rfl) ?_
    refine lv_aload_n hx hb dPr_work_162 rfl (lv_at hl 3 rfl) ?_
    refine lv_iload_n hx hb dPr_work_163 rfl (lv_at hl 1 rfl) ?_
    refine lv_iload hx hb dPr_work_164 (lv_at hl 0 rfl) ?_
    refine lv_ior hx hb dPr_work_166 ?_
    obtain ⟨g4, hg4⟩ : ∃ g9, FPr_noted ((rr (xh &&& (7 : Int32)).toNatClampNeg) ||| (rr ((xh >>> ((3 : Int32) &&& 31)) &&& (7 : Int32)).toNatClampNeg)) = g9 := ⟨_, rfl⟩
    have cg4 := k_Pr_noted l D ad cI cS ((rr (xh &&& (7 : Int32)).toNatClampNeg) ||| (rr ((xh >>> ((3 : Int32) &&& 31)) &&& (7 : Int32)).toNatClampNeg)) rp re fn fz fc fv rr rw gn gp gh
    rw [hg4] at cg4
    refine pq_calli (fr := g4.1) (wc := (wP ad cI cS rp re fn fz fc fv rr rw gn gp gh)) (wr := ([] : List Nat).filterMap (fun i => (wP ad cI cS rp re fn fz fc fv rr rw gn gp gh)[i]?)) hP hD hS hA [0, 1, 2, 3, 4] [] rfl rfl (by decide) (by decide) (va_runV (own := RPr) (C := RPr) (As := [.int ((rr (xh &&& (7 : Int32)).toNatClampNeg) ||| (rr ((xh >>> ((3 : Int32) &&& 31)) &&& (7 : Int32)).toNatClampNeg))]) (rest := [.int (xh &&& (7 : Int32)), .ref (ad 15)]) ⟨hx, hb, hml, hown, hw⟩ (cg4 s.heap.size) ⟨pq_cwB 1 hw wd_47 wd_33 wd_46 rfl rfl (by decide +kernel) ⟨Nat.le_of_ble_eq_true rfl, Nat.le_of_ble_eq_true rfl⟩, hw _ wd_48, hw _ wd_49⟩ (pq_preV (ci := 2) (C := RPr) (T := TPr) (N := 9) hE (hP.sub [0, 1, 2, 3, 4] rfl) (hD.sub [0, 1, 2, 3, 4] (by decide) rfl) rfl 0 rfl) rfl rfl hl.1 rfl (lv_room (Nat.le_of_ble_eq_true rfl)) dPr_work_167 ⟨Nat.zero_le _, Nat.zero_le _⟩) (fun H locs hP hD hS => ?_)
    have hP : va_P D vwCl (wP ad cI cS rp re g4.2.1 g4.2.2 fc fv rr rw gn gp gh) H := hP.sub [0, 1, 2, 3, 4] rfl
    have hD : va_D _ (wP ad cI cS rp re g4.2.1 g4.2.2 fc fv rr rw gn gp gh) := hD.sub [0, 1, 2, 3, 4] (by decide) rfl
    refine va_iast hx hb hE.1 hP hD hS 1 0 rfl rfl (show vp_in _ (2 ^ 3) from pk_andIn _ 3 (by decide) (by decide)) dPr_work_170 (fun H locs hP hD hS => ?_)
    have hP : va_P D vwCl (wP ad cI cS rp re g4.2.1 g4.2.2 fc fv (upd rr (xh &&& (7 : Int32)).toNatClampNeg g4.1) rw gn gp gh) H := hP
    have hD : va_D _ (wP ad cI cS rp re g4.2.1 g4.2.2 fc fv (upd rr (xh &&& (7 : Int32)).toNatClampNeg g4.1) rw gn gp gh) := hD
    refine lv_goto (tgt := 229) hx hb dPr_work_171 (by decide) ?_
    refine lv_aload_n hx hb dPr_work_229 rfl (lv_at hl 3 rfl) ?_
    refine pq_calli (fr := ((FPr_next rp).1)) (wc := (wP ad cI cS rp re g4.2.1 g4.2.2 fc fv (upd rr (xh &&& (7 : Int32)).toNatClampNeg g4.1) rw gn gp gh)) (wr := ([] : List Nat).filterMap (fun i => (wP ad cI cS rp re g4.2.1 g4.2.2 fc fv (upd rr (xh &&& (7 : Int32)).toNatClampNeg g4.1) rw gn gp gh)[i]?)) hP hD hS hA [0, 1, 2, 3, 4] [] rfl rfl (by decide) (by decide) (va_runV (own := RPr) (C := RPr) (As := []) (rest := []) ⟨hx, hb, hml, hown, hw⟩ (k_Pr_next l D ad cI cS rp re g4.2.1 g4.2.2 fc fv (upd rr (xh &&& (7 : Int32)).toNatClampNeg g4.1) rw gn gp gh H.size) ⟨pq_cwB 0 hw wd_38 wd_33 wd_37 rfl rfl (by decide +kernel) ⟨Nat.le_of_ble_eq_true rfl, Nat.le_of_ble_eq_true rfl⟩, hw _ wd_39, hw _ wd_40⟩ (pq_preV (ci := 2) (C := RPr) (T := TPr) (N := 9) hE (hP.sub [0, 1, 2, 3, 4] rfl) (hD.sub [0, 1, 2, 3, 4] (by decide) rfl) rfl 0 rfl) rfl rfl hl.1 rfl (lv_room (Nat.le_of_ble_eq_true rfl)) dPr_work_230 ⟨Nat.zero_le _, Nat.zero_le _⟩) (fun H locs hP hD hS => ?_)
    have hP : va_P D vwCl (wP ad cI cS ((FPr_next rp).2) re g4.2.1 g4.2.2 fc fv (upd rr (xh &&& (7 : Int32)).toNatClampNeg g4.1) rw gn gp gh) H := hP.sub [0, 1, 2, 3, 4] rfl
    have hD : va_D _ (wP ad cI cS ((FPr_next rp).2) re g4.2.1 g4.2.2 fc fv (upd rr (xh &&& (7 : Int32)).toNatClampNeg g4.1) rw gn gp gh) := hD.sub [0, 1, 2, 3, 4] (by decide) rfl
    have e9 : FPr_work xh rp fn fz fc fv rr = (((FPr_next rp).1), upd rr (xh &&& (7 : Int32)).toNatClampNeg g4.1, (FPr_next rp).2, g4.2.1, g4.2.2, fc, fv) := by simp only [FPr_work, hg4, if_neg h1, if_neg h2, if_neg h3, if_neg h4, if_neg h5, if_neg h6, if_neg h7, if_neg h8, if_neg h9, if_neg h10, if_neg h11, if_neg h12, if_pos h13]
    exact W.iret (v := ((FPr_next rp).1)) hx hb hr (fun t ht hW => ⟨⟨((FPr_next rp).1), (), rfl, (by show _ = _; rw [e9]), by rw [e9, ht]; exact hP, by rw [e9]; exact hD⟩, hS.F ht⟩) hS.2.2 dPr_work_233
  by_cases h14 : ((xh - 16384) >>> ((6 : Int32) &&& 31)) = 13
  · refine lv_tableIn (off := 141) (tgt := 174) hx hb dPr_work_33 (by rw [h14]; decide) (by rw [h14]; decide) (by rw [h14]; rfl) (by decide) ?_
    refine lv_aload_n hx hb dPr_work_174 rfl (lv_at hl 3 rfl) ?_
    refine va_get (D := D) (ci := 2) (v := .ref (ad 15)) (C := RPr) (T := TPr) (N := 9) hx hb hw pinPr hown hE.1 hP 0 rfl rfl 1 (by decide) (hw _ wd_50) (fun _ h9 => h9) rfl dPr_work_175 ?_
    refine lv_iload_n hx hb dPr_work_178 rfl (lv_at hl 2 rfl) ?_
    refine lv_aload_n hx hb dPr_work_179 rfl (lv_at hl 3 rfl) ?_
    refine lv_iload_n hx hb dPr_work_180 rfl (lv_at hl 1 rfl) ?_
    refine lv_iload hx hb dPr_work_181 (lv_at hl 0 rfl) ?_
    refine lv_imul hx hb dPr_work_183 ?_
    obtain ⟨g5, hg5⟩ : ∃ g9, FPr_noted ((rr (xh &&& (7 : Int32)).toNatClampNeg) * (rr ((xh >>> ((3 : Int32) &&& 31)) &&& (7 : Int32)).toNatClampNeg)) = g9 := ⟨_, rfl⟩
    have cg5 := k_Pr_noted l D ad cI cS ((rr (xh &&& (7 : Int32)).toNatClampNeg) * (rr ((xh >>> ((3 : Int32) &&& 31)) &&& (7 : Int32)).toNatClampNeg)) rp re fn fz fc fv rr rw gn gp gh
    rw [hg5] at cg5
    refine pq_calli (fr := g5.1) (wc := (wP ad cI cS rp re fn fz fc fv rr rw gn gp gh)) (wr := ([] : List Nat).filterMap (fun i => (wP ad cI cS rp re fn fz fc fv rr rw gn gp gh)[i]?)) hP hD hS hA [0, 1, 2, 3, 4] [] rfl rfl (by decide) (by decide) (va_runV (own := RPr) (C := RPr) (As := [.int ((rr (xh &&& (7 : Int32)).toNatClampNeg) * (rr ((xh >>> ((3 : Int32) &&& 31)) &&& (7 : Int32)).toNatClampNeg))]) (rest := [.int (xh &&& (7 : Int32)), .ref (ad 15)]) ⟨hx, hb, hml, hown, hw⟩ (cg5 s.heap.size) ⟨pq_cwB 1 hw wd_47 wd_33 wd_46 rfl rfl (by decide +kernel) ⟨Nat.le_of_ble_eq_true rfl, Nat.le_of_ble_eq_true rfl⟩, hw _ wd_48, hw _ wd_49⟩ (pq_preV (ci := 2) (C := RPr) (T := TPr) (N := 9) hE (hP.sub [0, 1, 2, 3, 4] rfl) (hD.sub [0, 1, 2, 3, 4] (by decide) rfl) rfl 0 rfl) rfl rfl hl.1 rfl (lv_room (Nat.le_of_ble_eq_true rfl)) dPr_work_184 ⟨Nat.zero_le _, Nat.zero_le _⟩) (fun H locs hP hD hS => ?_)
    have hP : va_P D vwCl (wP ad cI cS rp re g5.2.1 g5.2.2 fc fv rr rw gn gp gh) H := hP.sub [0, 1, 2, 3, 4] rfl
    have hD : va_D _ (wP ad cI cS rp re g5.2.1 g5.2.2 fc fv rr rw gn gp gh) := hD.sub [0, 1, 2, 3, 4] (by decide) rfl
    refine va_iast hx hb hE.1 hP hD hS 1 0 rfl rfl (show vp_in _ (2 ^ 3) from pk_andIn _ 3 (by decide) (by decide)) dPr_work_187 (fun H locs hP hD hS => ?_)
    have hP : va_P D vwCl (wP ad cI cS rp re g5.2.1 g5.2.2 fc fv (upd rr (xh &&& (7 : Int32)).toNatClampNeg g5.1) rw gn gp gh) H := hP
    have hD : va_D _ (wP ad cI cS rp re g5.2.1 g5.2.2 fc fv (upd rr (xh &&& (7 : Int32)).toNatClampNeg g5.1) rw gn gp gh) := hD
    refine lv_goto (tgt := 229) hx hb dPr_work_188 (by decide) ?_
    refine lv_aload_n hx hb dPr_work_229 rfl (lv_at hl 3 rfl) ?_
    refine pq_calli (fr := ((FPr_next rp).1)) (wc := (wP ad cI cS rp re g5.2.1 g5.2.2 fc fv (upd rr (xh &&& (7 : Int32)).toNatClampNeg g5.1) rw gn gp gh)) (wr := ([] : List Nat).filterMap (fun i => (wP ad cI cS rp re g5.2.1 g5.2.2 fc fv (upd rr (xh &&& (7 : Int32)).toNatClampNeg g5.1) rw gn gp gh)[i]?)) hP hD hS hA [0, 1, 2, 3, 4] [] rfl rfl (by decide) (by decide) (va_runV (own := RPr) (C := RPr) (As := []) (rest := []) ⟨hx, hb, hml, hown, hw⟩ (k_Pr_next l D ad cI cS rp re g5.2.1 g5.2.2 fc fv (upd rr (xh &&& (7 : Int32)).toNatClampNeg g5.1) rw gn gp gh H.size) ⟨pq_cwB 0 hw wd_38 wd_33 wd_37 rfl rfl (by decide +kernel) ⟨Nat.le_of_ble_eq_true rfl, Nat.le_of_ble_eq_true rfl⟩, hw _ wd_39, hw _ wd_40⟩ (pq_preV (ci := 2) (C := RPr) (T := TPr) (N := 9) hE (hP.sub [0, 1, 2, 3, 4] rfl) (hD.sub [0, 1, 2, 3, 4] (by decide) rfl) rfl 0 rfl) rfl rfl hl.1 rfl (lv_room (Nat.le_of_ble_eq_true rfl)) dPr_work_230 ⟨Nat.zero_le _, Nat.zero_le _⟩) (fun H locs hP hD hS => ?_)
    have hP : va_P D vwCl (wP ad cI cS ((FPr_next rp).2) re g5.2.1 g5.2.2 fc fv (upd rr (xh &&& (7 : Int32)).toNatClampNeg g5.1) rw gn gp gh) H := hP.sub [0, 1, 2, 3, 4] rfl
    have hD : va_D _ (wP ad cI cS ((FPr_next rp).2) re g5.2.1 g5.2.2 fc fv (upd rr (xh &&& (7 : Int32)).toNatClampNeg g5.1) rw gn gp gh) := hD.sub [0, 1, 2, 3, 4] (by decide) rfl
    have e9 : FPr_work xh rp fn fz fc fv rr = (((FPr_next rp).1), upd rr (xh &&& (7 : Int32)).toNatClampNeg g5.1, (FPr_next rp).2, g5.2.1, g5.2.2, fc, fv) := by simp only [FPr_work, hg5, if_neg h1, if_neg h2, if_neg h3, if_neg h4, if_neg h5, if_neg h6, if_neg h7, if_neg h8, if_neg h9, if_neg h10, if_neg h11, if_neg h12, if_neg h13, if_pos h14]
    exact W.iret (v := ((FPr_next rp).1)) hx hb hr (fun t ht hW => ⟨⟨((FPr_next rp).1), (), rfl, (by show _ = _; rw [e9]), by rw [e9, ht]; exact hP, by rw [e9]; exact hD⟩, hS.F ht⟩) hS.2.2 dPr_work_233
  by_cases h15 : ((xh - 16384) >>> ((6 : Int32) &&& 31)) = 14
  · refine lv_tableIn (off := 158) (tgt := 191) hx hb dPr_work_33 (by rw [h15]; decide) (by rw [h15]; decide) (by rw [h15]; rfl) (by decide) ?_
    refine lv_aload_n hx hb dPr_work_191 rfl (lv_at hl 3 rfl) ?_
    refine va_get (D := D) (ci := 2) (v := .ref (ad 15)) (C := RPr) (T := TPr) (N := 9) hx hb hw pinPr hown hE.1 hP 0 rfl rfl 1 (by decide) (hw _ wd_50) (fun _ h9 => h9) rfl dPr_work_192 ?_
    refine lv_iload_n hx hb dPr_work_195 rfl (lv_at hl 2 rfl) ?_
    refine lv_aload_n hx hb dPr_work_196 rfl (lv_at hl 3 rfl) ?_
    refine lv_iload_n hx hb dPr_work_197 rfl (lv_at hl 1 rfl) ?_
    refine lv_iload hx hb dPr_work_198 (lv_at hl 0 rfl) ?_
    refine lv_iconst (v := (-1)) hx hb dPr_work_200 (by first | rfl | decide) ?_
    refine lv_ixor hx hb dPr_work_201 ?_
    refine lv_iand hx hb dPr_work_202 ?_
    obtain ⟨g6, hg6⟩ : ∃ g9, FPr_noted ((rr (xh &&& (7 : Int32)).toNatClampNeg) &&& ((rr ((xh >>> ((3 : Int32) &&& 31)) &&& (7 : Int32)).toNatClampNeg) ^^^ ((-1) : Int32))) = g9 := ⟨_, rfl⟩
    have cg6 := k_Pr_noted l D ad cI cS ((rr (xh &&& (7 : Int32)).toNatClampNeg) &&& ((rr ((xh >>> ((3 : Int32) &&& 31)) &&& (7 : Int32)).toNatClampNeg) ^^^ ((-1) : Int32))) rp re fn fz fc fv rr rw gn gp gh
    rw [hg6] at cg6
    refine pq_calli (fr := g6.1) (wc := (wP ad cI cS rp re fn fz fc fv rr rw gn gp gh)) (wr := ([] : List Nat).filterMap (fun i => (wP ad cI cS rp re fn fz fc fv rr rw gn gp gh)[i]?)) hP hD hS hA [0, 1, 2, 3, 4] [] rfl rfl (by decide) (by decide) (va_runV (own := RPr) (C := RPr) (As := [.int ((rr (xh &&& (7 : Int32)).toNatClampNeg) &&& ((rr ((xh >>> ((3 : Int32) &&& 31)) &&& (7 : Int32)).toNatClampNeg) ^^^ ((-1) : Int32)))]) (rest := [.int (xh &&& (7 : Int32)), .ref (ad 15)]) ⟨hx, hb, hml, hown, hw⟩ (cg6 s.heap.size) ⟨pq_cwB 1 hw wd_47 wd_33 wd_46 rfl rfl (by decide +kernel) ⟨Nat.le_of_ble_eq_true rfl, Nat.le_of_ble_eq_true rfl⟩, hw _ wd_48, hw _ wd_49⟩ (pq_preV (ci := 2) (C := RPr) (T := TPr) (N := 9) hE (hP.sub [0, 1, 2, 3, 4] rfl) (hD.sub [0, 1, 2, 3, 4] (by decide) rfl) rfl 0 rfl) rfl rfl hl.1 rfl (lv_room (Nat.le_of_ble_eq_true rfl)) dPr_work_203 ⟨Nat.zero_le _, Nat.zero_le _⟩) (fun H locs hP hD hS => ?_)
    have hP : va_P D vwCl (wP ad cI cS rp re g6.2.1 g6.2.2 fc fv rr rw gn gp gh) H := hP.sub [0, 1, 2, 3, 4] rfl
    have hD : va_D _ (wP ad cI cS rp re g6.2.1 g6.2.2 fc fv rr rw gn gp gh) := hD.sub [0, 1, 2, 3, 4] (by decide) rfl
    refine va_iast hx hb hE.1 hP hD hS 1 0 rfl rfl (show vp_in _ (2 ^ 3) from pk_andIn _ 3 (by decide) (by decide)) dPr_work_206 (fun H locs hP hD hS => ?_)
    have hP : va_P D vwCl (wP ad cI cS rp re g6.2.1 g6.2.2 fc fv (upd rr (xh &&& (7 : Int32)).toNatClampNeg g6.1) rw gn gp gh) H := hP
    have hD : va_D _ (wP ad cI cS rp re g6.2.1 g6.2.2 fc fv (upd rr (xh &&& (7 : Int32)).toNatClampNeg g6.1) rw gn gp gh) := hD
    refine lv_goto (tgt := 229) hx hb dPr_work_207 (by decide) ?_
    refine lv_aload_n hx hb dPr_work_229 rfl (lv_at hl 3 rfl) ?_
    refine pq_calli (fr := ((FPr_next rp).1)) (wc := (wP ad cI cS rp re g6.2.1 g6.2.2 fc fv (upd rr (xh &&& (7 : Int32)).toNatClampNeg g6.1) rw gn gp gh)) (wr := ([] : List Nat).filterMap (fun i => (wP ad cI cS rp re g6.2.1 g6.2.2 fc fv (upd rr (xh &&& (7 : Int32)).toNatClampNeg g6.1) rw gn gp gh)[i]?)) hP hD hS hA [0, 1, 2, 3, 4] [] rfl rfl (by decide) (by decide) (va_runV (own := RPr) (C := RPr) (As := []) (rest := []) ⟨hx, hb, hml, hown, hw⟩ (k_Pr_next l D ad cI cS rp re g6.2.1 g6.2.2 fc fv (upd rr (xh &&& (7 : Int32)).toNatClampNeg g6.1) rw gn gp gh H.size) ⟨pq_cwB 0 hw wd_38 wd_33 wd_37 rfl rfl (by decide +kernel) ⟨Nat.le_of_ble_eq_true rfl, Nat.le_of_ble_eq_true rfl⟩, hw _ wd_39, hw _ wd_40⟩ (pq_preV (ci := 2) (C := RPr) (T := TPr) (N := 9) hE (hP.sub [0, 1, 2, 3, 4] rfl) (hD.sub [0, 1, 2, 3, 4] (by decide) rfl) rfl 0 rfl) rfl rfl hl.1 rfl (lv_room (Nat.le_of_ble_eq_true rfl)) dPr_work_230 ⟨Nat.zero_le _, Nat.zero_le _⟩) (fun H locs hP hD hS => ?_)
    have hP : va_P D vwCl (wP ad cI cS ((FPr_next rp).2) re g6.2.1 g6.2.2 fc fv (upd rr (xh &&& (7 : Int32)).toNatClampNeg g6.1) rw gn gp gh) H := hP.sub [0, 1, 2, 3, 4] rfl
    have hD : va_D _ (wP ad cI cS ((FPr_next rp).2) re g6.2.1 g6.2.2 fc fv (upd rr (xh &&& (7 : Int32)).toNatClampNeg g6.1) rw gn gp gh) := hD.sub [0, 1, 2, 3, 4] (by decide) rfl
    have e9 : FPr_work xh rp fn fz fc fv rr = (((FPr_next rp).1), upd rr (xh &&& (7 : Int32)).toNatClampNeg g6.1, (FPr_next rp).2, g6.2.1, g6.2.2, fc, fv) := by simp only [FPr_work, hg6, if_neg h1, if_neg h2, if_neg h3, if_neg h4, if_neg h5, if_neg h6, if_neg h7, if_neg h8, if_neg h9, if_neg h10, if_neg h11, if_neg h12, if_neg h13, if_neg h14, if_pos h15]
    exact W.iret (v := ((FPr_next rp).1)) hx hb hr (fun t ht hW => ⟨⟨((FPr_next rp).1), (), rfl, (by show _ = _; rw [e9]), by rw [e9, ht]; exact hP, by rw [e9]; exact hD⟩, hS.F ht⟩) hS.2.2 dPr_work_233
  by_cases h16 : ((xh - 16384) >>> ((6 : Int32) &&& 31)) = 15
  · refine lv_tableIn (off := 177) (tgt := 210) hx hb dPr_work_33 (by rw [h16]; decide) (by rw [h16]; decide) (by rw [h16]; rfl) (by decide) ?_
    refine lv_aload_n hx hb dPr_work_210 rfl (lv_at hl 3 rfl) ?_
    refine va_get (D := D) (ci := 2) (v := .ref (ad 15)) (C := RPr) (T := TPr) (N := 9) hx hb hw pinPr hown hE.1 hP 0 rfl rfl 1 (by decide) (hw _ wd_50) (fun _ h9 => h9) rfl dPr_work_211 ?_
    refine lv_iload_n hx hb dPr_work_214 rfl (lv_at hl 2 rfl) ?_
    refine lv_aload_n hx hb dPr_work_215 rfl (lv_at hl 3 rfl) ?_
    refine lv_iload hx hb dPr_work_216 (lv_at hl 0 rfl) ?_
    refine lv_iconst (v := (-1)) hx hb dPr_work_218 (by first | rfl | decide) ?_
    refine lv_ixor hx hb dPr_work_219 ?_
    obtain ⟨g7, hg7⟩ : ∃ g9, FPr_noted ((rr ((xh >>> ((3 : Int32) &&& 31)) &&& (7 : Int32)).toNatClampNeg) ^^^ ((-1) : Int32)) = g9 := ⟨_, rfl⟩
    have cg7 := k_Pr_noted l D ad cI cS ((rr ((xh >>> ((3 : Int32) &&& 31)) &&& (7 : Int32)).toNatClampNeg) ^^^ ((-1) : Int32)) rp re fn fz fc fv rr rw gn gp gh
    rw [hg7] at cg7
    refine pq_calli (fr := g7.1) (wc := (wP ad cI cS rp re fn fz fc fv rr rw gn gp gh)) (wr := ([] : List Nat).filterMap (fun i => (wP ad cI cS rp re fn fz fc fv rr rw gn gp gh)[i]?)) hP hD hS hA [0, 1, 2, 3, 4] [] rfl rfl (by decide) (by decide) (va_runV (own := RPr) (C := RPr) (As := [.int ((rr ((xh >>> ((3 : Int32) &&& 31)) &&& (7 : Int32)).toNatClampNeg) ^^^ ((-1) : Int32))]) (rest := [.int (xh &&& (7 : Int32)), .ref (ad 15)]) ⟨hx, hb, hml, hown, hw⟩ (cg7 s.heap.size) ⟨pq_cwB 1 hw wd_47 wd_33 wd_46 rfl rfl (by decide +kernel) ⟨Nat.le_of_ble_eq_true rfl, Nat.le_of_ble_eq_true rfl⟩, hw _ wd_48, hw _ wd_49⟩ (pq_preV (ci := 2) (C := RPr) (T := TPr) (N := 9) hE (hP.sub [0, 1, 2, 3, 4] rfl) (hD.sub [0, 1, 2, 3, 4] (by decide) rfl) rfl 0 rfl) rfl rfl hl.1 rfl (lv_room (Nat.le_of_ble_eq_true rfl)) dPr_work_220 ⟨Nat.zero_le _, Nat.zero_le _⟩) (fun H locs hP hD hS => ?_)
    have hP : va_P D vwCl (wP ad cI cS rp re g7.2.1 g7.2.2 fc fv rr rw gn gp gh) H := hP.sub [0, 1, 2, 3, 4] rfl
    have hD : va_D _ (wP ad cI cS rp re g7.2.1 g7.2.2 fc fv rr rw gn gp gh) := hD.sub [0, 1, 2, 3, 4] (by decide) rfl
    refine va_iast hx hb hE.1 hP hD hS 1 0 rfl rfl (show vp_in _ (2 ^ 3) from pk_andIn _ 3 (by decide) (by decide)) dPr_work_223 (fun H locs hP hD hS => ?_)
    have hP : va_P D vwCl (wP ad cI cS rp re g7.2.1 g7.2.2 fc fv (upd rr (xh &&& (7 : Int32)).toNatClampNeg g7.1) rw gn gp gh) H := hP
    have hD : va_D _ (wP ad cI cS rp re g7.2.1 g7.2.2 fc fv (upd rr (xh &&& (7 : Int32)).toNatClampNeg g7.1) rw gn gp gh) := hD
    refine lv_goto (tgt := 229) hx hb dPr_work_224 (by decide) ?_
    refine lv_aload_n hx hb dPr_work_229 rfl (lv_at hl 3 rfl) ?_
    refine pq_calli (fr := ((FPr_next rp).1)) (wc := (wP ad cI cS rp re g7.2.1 g7.2.2 fc fv (upd rr (xh &&& (7 : Int32)).toNatClampNeg g7.1) rw gn gp gh)) (wr := ([] : List Nat).filterMap (fun i => (wP ad cI cS rp re g7.2.1 g7.2.2 fc fv (upd rr (xh &&& (7 : Int32)).toNatClampNeg g7.1) rw gn gp gh)[i]?)) hP hD hS hA [0, 1, 2, 3, 4] [] rfl rfl (by decide) (by decide) (va_runV (own := RPr) (C := RPr) (As := []) (rest := []) ⟨hx, hb, hml, hown, hw⟩ (k_Pr_next l D ad cI cS rp re g7.2.1 g7.2.2 fc fv (upd rr (xh &&& (7 : Int32)).toNatClampNeg g7.1) rw gn gp gh H.size) ⟨pq_cwB 0 hw wd_38 wd_33 wd_37 rfl rfl (by decide +kernel) ⟨Nat.le_of_ble_eq_true rfl, Nat.le_of_ble_eq_true rfl⟩, hw _ wd_39, hw _ wd_40⟩ (pq_preV (ci := 2) (C := RPr) (T := TPr) (N := 9) hE (hP.sub [0, 1, 2, 3, 4] rfl) (hD.sub [0, 1, 2, 3, 4] (by decide) rfl) rfl 0 rfl) rfl rfl hl.1 rfl (lv_room (Nat.le_of_ble_eq_true rfl)) dPr_work_230 ⟨Nat.zero_le _, Nat.zero_le _⟩) (fun H locs hP hD hS => ?_)
    have hP : va_P D vwCl (wP ad cI cS ((FPr_next rp).2) re g7.2.1 g7.2.2 fc fv (upd rr (xh &&& (7 : Int32)).toNatClampNeg g7.1) rw gn gp gh) H := hP.sub [0, 1, 2, 3, 4] rfl
    have hD : va_D _ (wP ad cI cS ((FPr_next rp).2) re g7.2.1 g7.2.2 fc fv (upd rr (xh &&& (7 : Int32)).toNatClampNeg g7.1) rw gn gp gh) := hD.sub [0, 1, 2, 3, 4] (by decide) rfl
    have e9 : FPr_work xh rp fn fz fc fv rr = (((FPr_next rp).1), upd rr (xh &&& (7 : Int32)).toNatClampNeg g7.1, (FPr_next rp).2, g7.2.1, g7.2.2, fc, fv) := by simp only [FPr_work, hg7, if_neg h1, if_neg h2, if_neg h3, if_neg h4, if_neg h5, if_neg h6, if_neg h7, if_neg h8, if_neg h9, if_neg h10, if_neg h11, if_neg h12, if_neg h13, if_neg h14, if_neg h15, if_pos h16]
    exact W.iret (v := ((FPr_next rp).1)) hx hb hr (fun t ht hW => ⟨⟨((FPr_next rp).1), (), rfl, (by show _ = _; rw [e9]), by rw [e9, ht]; exact hP, by rw [e9]; exact hD⟩, hS.F ht⟩) hS.2.2 dPr_work_233
  have th1 := pq_ne (x := (xh - 16384) >>> ((6 : Int32) &&& 31)) (k := 0) (y := 0) (by first | rfl | decide) h1
  have th2 := pq_ne (x := (xh - 16384) >>> ((6 : Int32) &&& 31)) (k := 1) (y := 1) (by first | rfl | decide) h2
  have th3 := pq_ne (x := (xh - 16384) >>> ((6 : Int32) &&& 31)) (k := 2) (y := 2) (by first | rfl | decide) h3
  have th4 := pq_ne (x := (xh - 16384) >>> ((6 : Int32) &&& 31)) (k := 3) (y := 3) (by first | rfl | decide) h4
  have th5 := pq_ne (x := (xh - 16384) >>> ((6 : Int32) &&& 31)) (k := 4) (y := 4) (by first | rfl | decide) h5
  have th6 := pq_ne (x := (xh - 16384) >>> ((6 : Int32) &&& 31)) (k := 5) (y := 5) (by first | rfl | decide) h6
  have th7 := pq_ne (x := (xh - 16384) >>> ((6 : Int32) &&& 31)) (k := 6) (y := 6) (by first | rfl | decide) h7
  have th8 := pq_ne (x := (xh - 16384) >>> ((6 : Int32) &&& 31)) (k := 7) (y := 7) (by first | rfl | decide) h8
  have th9 := pq_ne (x := (xh - 16384) >>> ((6 : Int32) &&& 31)) (k := 8) (y := 8) (by first | rfl | decide) h9
  have th10 := pq_ne (x := (xh - 16384) >>> ((6 : Int32) &&& 31)) (k := 9) (y := 9) (by first | rfl | decide) h10
  have th11 := pq_ne (x := (xh - 16384) >>> ((6 : Int32) &&& 31)) (k := 10) (y := 10) (by first | rfl | decide) h11
  have th12 := pq_ne (x := (xh - 16384) >>> ((6 : Int32) &&& 31)) (k := 11) (y := 11) (by first | rfl | decide) h12
  have th13 := pq_ne (x := (xh - 16384) >>> ((6 : Int32) &&& 31)) (k := 12) (y := 12) (by first | rfl | decide) h13
  have th14 := pq_ne (x := (xh - 16384) >>> ((6 : Int32) &&& 31)) (k := 13) (y := 13) (by first | rfl | decide) h14
  have th15 := pq_ne (x := (xh - 16384) >>> ((6 : Int32) &&& 31)) (k := 14) (y := 14) (by first | rfl | decide) h15
  have th16 := pq_ne (x := (xh - 16384) >>> ((6 : Int32) &&& 31)) (k := 15) (y := 15) (by first | rfl | decide) h16
  refine lv_tableOut (tgt := 227) hx hb dPr_work_33 (by omega) (by decide) ?_
  refine lv_iconst (v := 2) hx hb dPr_work_227 (by first | rfl | decide) ?_
  have e9 : FPr_work xh rp fn fz fc fv rr = (2, rr, rp, fn, fz, fc, fv) := by simp only [FPr_work, if_neg h1, if_neg h2, if_neg h3, if_neg h4, if_neg h5, if_neg h6, if_neg h7, if_neg h8, if_neg h9, if_neg h10, if_neg h11, if_neg h12, if_neg h13, if_neg h14, if_neg h15, if_neg h16]
  exact W.iret (v := 2) hx hb hr (fun t ht hW => ⟨⟨2, (), rfl, (by show _ = _; rw [e9]), by rw [e9, ht]; exact hP, by rw [e9]; exact hD⟩, hS.F ht⟩) hS.2.2 dPr_work_228
def FPr_loadConstant (xh : Int32) (rp : Int32) (rr : Nat → Int32) (gn : Int32) (gh : Nat → Int32) : Int32 × (Nat → Int32) × Int32 := if (FIm_holds ((FFo_baseOf rp) + (4 * (xh &&& (255 : Int32)))) gn) = 0 then (2, rr, rp) else if (FIm_holds (((FFo_baseOf rp) + (4 * (xh &&& (255 : Int32)))) + 2) gn) = 0 then (2, rr, rp) else (((FPr_next rp).1), upd rr ((xh >>> ((8 : Int32) &&& 31)) &&& (7 : Int32)).toNatClampNeg (FIm_wordAt ((FFo_baseOf rp) + (4 * (xh &&& (255 : Int32)))) gn gh), (FPr_next rp).2)
set_option maxHeartbeats 4000000 in
set_option maxRecDepth 100000 in
theorem k_Pr_loadConstant (l : Launch) (D : va_G) (ad : Nat → Nat) (cI cS : ClassId) (xh : Int32) (rp : Int32) (re : Int32) (fn : Int32) (fz : Int32) (fc : Int32) (fv : Int32) (rr : Nat → Int32) (rw : Nat → Int32) (gn : Int32) (gp : Int32) (gh : Nat → Int32) (hgn : gn.toInt ≤ 6400) : pq_I l yPr_loadConstant (.code yPr_loadConstant cPr_loadConstant 3 (some .int) :: pq_ws) { frames := 2, cells := 0, slots := 0, locals := 43 } D cI cS [.ref (ad 4), .int xh] (wP ad cI cS rp re fn fz fc fv rr rw gn gp gh) ((FPr_loadConstant xh rp rr gn gh).1) (wP ad cI cS ((FPr_loadConstant xh rp rr gn gh).2.2) re fn fz fc fv ((FPr_loadConstant xh rp rr gn gh).2.1) rw gn gp gh) := by
  intro sz
  refine Met.ofW (cc := cPr_loadConstant) (maxL := 3) (ret := (some .int)) (by decide) rfl ?_
  intro p e s m args below meth c s₁ B hml hv
  obtain ⟨rfl, hsz, hP, hD0, hE⟩ := hv
  have hx := B.exec
  have hb := B.bytes
  have hr := B.returns
  have hts := atoms_spec (ws := (.code yPr_loadConstant cPr_loadConstant 3 (some .int) :: pq_ws : List Cond)) B.pre
  have hw : ∀ w ∈ pq_ws, w.before _ s = true := fun w h => hts w (List.mem_cons_of_mem _ h)
  have hown : s.vm.findClass RPr = some m.cls := findClass_of_methodNamed B.named
  have hlocks := B.notSynchronized
  subst hsz
  have hD := hD0.self (sz := s.heap.size)
  have hA : ∀ q : Nat, s.heap.size ≤ q → va_A (wP ad cI cS rp re fn fz fc fv rr rw gn gp gh) s.heap.size q := fun q h => Or.inr h
  have hS : va_S (va_A (wP ad cI cS rp re fn fz fc fv rr rw gn gp gh) s.heap.size) s.heap s.heap [] := va_S.rf
  have hl := lv_entry ([.ref (ad 4), .int xh] : List Value) (n := 3) (Nat.le_of_ble_eq_true rfl)
  rw [lg_entry_eq]
  generalize (lg_sl ([.ref (ad 4), .int xh] : List Value) ++ List.replicate (3 - (lg_sl ([.ref (ad 4), .int xh] : List Value)).length) Slot.unset).toArray = ls at hl ⊢
  have hl : lv_has ls 3 [(0, .ref (ad 4)), (1, .int xh)] := hl
  refine lv_aload_n hx hb dPr_loadConstant_0 rfl (lv_at hl 0 rfl) ?_
  refine va_get (D := D) (ci := 2) (v := .int rp) (C := RPr) (T := TPr) (N := 9) hx hb hw pinPr hown hE.1 hP 0 rfl rfl 3 (by decide) (hw _ wd_31) (fun _ h9 => h9) rfl dPr_loadConstant_1 ?_
  refine pq_calli (fr := (FFo_baseOf rp)) (wc := (wN ad cI cS)) (wr := ([0, 1, 2, 3, 4] : List Nat).filterMap (fun i => (wP ad cI cS rp re fn fz fc fv rr rw gn gp gh)[i]?)) hP hD hS hA [] [0, 1, 2, 3, 4] rfl rfl (by decide) (by decide) (va_runSN (own := RPr) (As := [.int rp]) (rest := []) ⟨hx, hb, hml, hown, hw⟩ (k_Fo_baseOf l D ad cI cS rp s.heap.size) ⟨pq_cnB 1 hw (hE.2 _ nw_1) wd_1 wd_59 rfl rfl (by decide +kernel) ⟨Nat.le_of_ble_eq_true rfl, Nat.le_of_ble_eq_true rfl⟩, hw _ wd_60, trivial⟩ (pq_preS hE (hP.sub [] rfl) (hD.sub [] (by decide) rfl)) rfl rfl hl.1 rfl (lv_room (Nat.le_of_ble_eq_true rfl)) dPr_loadConstant_4 ⟨Nat.zero_le _, Nat.zero_le _⟩) (fun H locs hP hD hS => ?_)
  have hP : va_P D vwCl (wP ad cI cS rp re fn fz fc fv rr rw gn gp gh) H := hP.sub [0, 1, 2, 3, 4] rfl
  have hD : va_D _ (wP ad cI cS rp re fn fz fc fv rr rw gn gp gh) := hD.sub [0, 1, 2, 3, 4] (by decide) rfl
  refine lv_iconst (v := 4) hx hb dPr_loadConstant_7 (by first | rfl | decide) ?_
  refine lv_iload_n hx hb dPr_loadConstant_8 rfl (lv_at hl 1 rfl) ?_
  refine lv_sipush (v := 255) hx hb dPr_loadConstant_9 (by first | rfl | decide) ?_
  refine lv_iand hx hb dPr_loadConstant_12 ?_
  refine lv_imul hx hb dPr_loadConstant_13 ?_
  refine lv_iadd hx hb dPr_loadConstant_14 ?_
  refine lv_istore_n (lv' := [(2, .int ((FFo_baseOf rp) + (4 * (xh &&& (255 : Int32))))), (0, .ref (ad 4)), (1, .int xh)]) hx hb dPr_loadConstant_15 rfl hl (by decide) rfl (fun ls hl => ?_)
  refine lv_aload_n hx hb dPr_loadConstant_16 rfl (lv_at hl 1 rfl) ?_
  refine va_get (D := D) (ci := 2) (v := .ref (ad 2)) (C := RPr) (T := TPr) (N := 9) hx hb hw pinPr hown hE.1 hP 0 rfl rfl 0 (by decide) (hw _ wd_61) (fun _ h9 => h9) rfl dPr_loadConstant_17 ?_
  refine lv_iload_n hx hb dPr_loadConstant_20 rfl (lv_at hl 0 rfl) ?_
  refine pq_calli (fr := (FIm_holds ((FFo_baseOf rp) + (4 * (xh &&& (255 : Int32)))) gn)) (wc := (wI ad cI cS gn gp gh)) (wr := ([0, 1, 2] : List Nat).filterMap (fun i => (wP ad cI cS rp re fn fz fc fv rr rw gn gp gh)[i]?)) hP hD hS hA [3, 4] [0, 1, 2] rfl rfl (by decide) (by decide) (va_runVN (own := RPr) (C := RIm) (As := [.int ((FFo_baseOf rp) + (4 * (xh &&& (255 : Int32))))]) (rest := []) ⟨hx, hb, hml, hown, hw⟩ (k_Im_holds l D ad cI cS ((FFo_baseOf rp) + (4 * (xh &&& (255 : Int32)))) gn gp gh H.size) ⟨pq_cnB 1 hw (hE.2 _ nw_2) wd_22 wd_62 rfl rfl (by decide +kernel) ⟨Nat.le_of_ble_eq_true rfl, Nat.le_of_ble_eq_true rfl⟩, hw _ wd_63, hw _ wd_64⟩ (pq_preV (ci := 0) (C := RIm) (T := TIm) (N := 3) hE (hP.sub [3, 4] rfl) (hD.sub [3, 4] (by decide) rfl) rfl 0 rfl) rfl rfl hl.1 rfl (lv_room (Nat.le_of_ble_eq_true rfl)) dPr_loadConstant_21 ⟨Nat.zero_le _, Nat.zero_le _⟩) (fun H locs hP hD hS => ?_)
  have hP : va_P D vwCl (wP ad cI cS rp re fn fz fc fv rr rw gn gp gh) H := hP.sub [0, 1, 2, 3, 4] rfl
  have hD : va_D _ (wP ad cI cS rp re fn fz fc fv rr rw gn gp gh) := hD.sub [0, 1, 2, 3, 4] (by decide) rfl
  refine lv_if_eq (tgt := 40) hx hb dPr_loadConstant_24 (by decide) (fun h1 => ?_) (fun h1 => ?_)
  · refine lv_iconst (v := 2) hx hb dPr_loadConstant_40 (by first | rfl | decide) ?_
    have e9 : FPr_loadConstant xh rp rr gn gh = (2, rr, rp) := by simp only [FPr_loadConstant, if_pos h1]
    exact W.iret (v := 2) hx hb hr (fun t ht hW => ⟨⟨2, (), rfl, (by show _ = _; rw [e9]), by rw [e9, ht]; exact hP, by rw [e9]; exact hD⟩, hS.F ht⟩) hS.2.2 dPr_loadConstant_41
  · refine lv_aload_n hx hb dPr_loadConstant_27 rfl (lv_at hl 1 rfl) ?_
    refine va_get (D := D) (ci := 2) (v := .ref (ad 2)) (C := RPr) (T := TPr) (N := 9) hx hb hw pinPr hown hE.1 hP 0 rfl rfl 0 (by decide) (hw _ wd_61) (fun _ h9 => h9) rfl dPr_loadConstant_28 ?_
    refine lv_iload_n hx hb dPr_loadConstant_31 rfl (lv_at hl 0 rfl) ?_
    refine lv_iconst (v := 2) hx hb dPr_loadConstant_32 (by first | rfl | decide) ?_
    refine lv_iadd hx hb dPr_loadConstant_33 ?_
    refine pq_calli (fr := (FIm_holds (((FFo_baseOf rp) + (4 * (xh &&& (255 : Int32)))) + 2) gn)) (wc := (wI ad cI cS gn gp gh)) (wr := ([0, 1, 2] : List Nat).filterMap (fun i => (wP ad cI cS rp re fn fz fc fv rr rw gn gp gh)[i]?)) hP hD hS hA [3, 4] [0, 1, 2] rfl rfl (by decide) (by decide) (va_runVN (own := RPr) (C := RIm) (As := [.int (((FFo_baseOf rp) + (4 * (xh &&& (255 : Int32)))) + 2)]) (rest := []) ⟨hx, hb, hml, hown, hw⟩ (k_Im_holds l D ad cI cS (((FFo_baseOf rp) + (4 * (xh &&& (255 : Int32)))) + 2) gn gp gh H.size) ⟨pq_cnB 1 hw (hE.2 _ nw_2) wd_22 wd_62 rfl rfl (by decide +kernel) ⟨Nat.le_of_ble_eq_true rfl, Nat.le_of_ble_eq_true rfl⟩, hw _ wd_63, hw _ wd_64⟩ (pq_preV (ci := 0) (C := RIm) (T := TIm) (N := 3) hE (hP.sub [3, 4] rfl) (hD.sub [3, 4] (by decide) rfl) rfl 0 rfl) rfl rfl hl.1 rfl (lv_room (Nat.le_of_ble_eq_true rfl)) dPr_loadConstant_34 ⟨Nat.zero_le _, Nat.zero_le _⟩) (fun H locs hP hD hS => ?_)
    have hP : va_P D vwCl (wP ad cI cS rp re fn fz fc fv rr rw gn gp gh) H := hP.sub [0, 1, 2, 3, 4] rfl
    have hD : va_D _ (wP ad cI cS rp re fn fz fc fv rr rw gn gp gh) := hD.sub [0, 1, 2, 3, 4] (by decide) rfl
    refine lv_if_ne (tgt := 42) hx hb dPr_loadConstant_37 (by decide) (fun h2 => ?_) (fun h2 => ?_)
    · refine lv_aload_n hx hb dPr_loadConstant_42 rfl (lv_at hl 1 rfl) ?_
      refine va_get (D := D) (ci := 2) (v := .ref (ad 15)) (C := RPr) (T := TPr) (N := 9) hx hb hw pinPr hown hE.1 hP 0 rfl rfl 1 (by decide) (hw _ wd_50) (fun _ h9 => h9) rfl dPr_loadConstant_43 ?_
      refine lv_iload_n hx hb dPr_loadConstant_46 rfl (lv_at hl 2 rfl) ?_
      refine lv_bipush (v := 8) hx hb dPr_loadConstant_47 (by first | rfl | decide) ?_
      refine lv_ishr hx hb dPr_loadConstant_49 ?_
      refine lv_bipush (v := 7) hx hb dPr_loadConstant_50 (by first | rfl | decide) ?_
      refine lv_iand hx hb dPr_loadConstant_52 ?_
      refine lv_aload_n hx hb dPr_loadConstant_53 rfl (lv_at hl 1 rfl) ?_
      refine va_get (D := D) (ci := 2) (v := .ref (ad 2)) (C := RPr) (T := TPr) (N := 9) hx hb hw pinPr hown hE.1 hP 0 rfl rfl 0 (by decide) (hw _ wd_61) (fun _ h9 => h9) rfl dPr_loadConstant_54 ?_
      refine lv_iload_n hx hb dPr_loadConstant_57 rfl (lv_at hl 0 rfl) ?_
      refine pq_calli (fr := (FIm_wordAt ((FFo_baseOf rp) + (4 * (xh &&& (255 : Int32)))) gn gh)) (wc := (wI ad cI cS gn gp gh)) (wr := ([0, 1, 2] : List Nat).filterMap (fun i => (wP ad cI cS rp re fn fz fc fv rr rw gn gp gh)[i]?)) hP hD hS hA [3, 4] [0, 1, 2] rfl rfl (by decide) (by decide) (va_runVN (own := RPr) (C := RIm) (As := [.int ((FFo_baseOf rp) + (4 * (xh &&& (255 : Int32))))]) (rest := [.int ((xh >>> ((8 : Int32) &&& 31)) &&& (7 : Int32)), .ref (ad 15)]) ⟨hx, hb, hml, hown, hw⟩ (k_Im_wordAt l D ad cI cS ((FFo_baseOf rp) + (4 * (xh &&& (255 : Int32)))) gn gp gh hgn H.size) ⟨pq_cnB 1 hw (hE.2 _ nw_3) wd_22 wd_65 rfl rfl (by decide +kernel) ⟨Nat.le_of_ble_eq_true rfl, Nat.le_of_ble_eq_true rfl⟩, hw _ wd_66, hw _ wd_67⟩ (pq_preV (ci := 0) (C := RIm) (T := TIm) (N := 3) hE (hP.sub [3, 4] rfl) (hD.sub [3, 4] (by decide) rfl) rfl 0 rfl) rfl rfl hl.1 rfl (lv_room (Nat.le_of_ble_eq_true rfl)) dPr_loadConstant_58 ⟨Nat.zero_le _, Nat.zero_le _⟩) (fun H locs hP hD hS => ?_)
      have hP : va_P D vwCl (wP ad cI cS rp re fn fz fc fv rr rw gn gp gh) H := hP.sub [0, 1, 2, 3, 4] rfl
      have hD : va_D _ (wP ad cI cS rp re fn fz fc fv rr rw gn gp gh) := hD.sub [0, 1, 2, 3, 4] (by decide) rfl
      refine va_iast hx hb hE.1 hP hD hS 1 0 rfl rfl (show vp_in _ (2 ^ 3) from pk_andIn _ 3 (by decide) (by decide)) dPr_loadConstant_61 (fun H locs hP hD hS => ?_)
      have hP : va_P D vwCl (wP ad cI cS rp re fn fz fc fv (upd rr ((xh >>> ((8 : Int32) &&& 31)) &&& (7 : Int32)).toNatClampNeg (FIm_wordAt ((FFo_baseOf rp) + (4 * (xh &&& (255 : Int32)))) gn gh)) rw gn gp gh) H := hP
      have hD : va_D _ (wP ad cI cS rp re fn fz fc fv (upd rr ((xh >>> ((8 : Int32) &&& 31)) &&& (7 : Int32)).toNatClampNeg (FIm_wordAt ((FFo_baseOf rp) + (4 * (xh &&& (255 : Int32)))) gn gh)) rw gn gp gh) := hD
      refine lv_aload_n hx hb dPr_loadConstant_62 rfl (lv_at hl 1 rfl) ?_
      refine pq_calli (fr := ((FPr_next rp).1)) (wc := (wP ad cI cS rp re fn fz fc fv (upd rr ((xh >>> ((8 : Int32) &&& 31)) &&& (7 : Int32)).toNatClampNeg (FIm_wordAt ((FFo_baseOf rp) + (4 * (xh &&& (255 : Int32)))) gn gh)) rw gn gp gh)) (wr := ([] : List Nat).filterMap (fun i => (wP ad cI cS rp re fn fz fc fv (upd rr ((xh >>> ((8 : Int32) &&& 31)) &&& (7 : Int32)).toNatClampNeg (FIm_wordAt ((FFo_baseOf rp) + (4 * (xh &&& (255 : Int32)))) gn gh)) rw gn gp gh)[i]?)) hP hD hS hA [0, 1, 2, 3, 4] [] rfl rfl (by decide) (by decide) (va_runV (own := RPr) (C := RPr) (As := []) (rest := []) ⟨hx, hb, hml, hown, hw⟩ (k_Pr_next l D ad cI cS rp re fn fz fc fv (upd rr ((xh >>> ((8 : Int32) &&& 31)) &&& (7 : Int32)).toNatClampNeg (FIm_wordAt ((FFo_baseOf rp) + (4 * (xh &&& (255 : Int32)))) gn gh)) rw gn gp gh H.size) ⟨pq_cwB 0 hw wd_38 wd_33 wd_37 rfl rfl (by decide +kernel) ⟨Nat.le_of_ble_eq_true rfl, Nat.le_of_ble_eq_true rfl⟩, hw _ wd_39, hw _ wd_40⟩ (pq_preV (ci := 2) (C := RPr) (T := TPr) (N := 9) hE (hP.sub [0, 1, 2, 3, 4] rfl) (hD.sub [0, 1, 2, 3, 4] (by decide) rfl) rfl 0 rfl) rfl rfl hl.1 rfl (lv_room (Nat.le_of_ble_eq_true rfl)) dPr_loadConstant_63 ⟨Nat.zero_le _, Nat.zero_le _⟩) (fun H locs hP hD hS => ?_)
      have hP : va_P D vwCl (wP ad cI cS ((FPr_next rp).2) re fn fz fc fv (upd rr ((xh >>> ((8 : Int32) &&& 31)) &&& (7 : Int32)).toNatClampNeg (FIm_wordAt ((FFo_baseOf rp) + (4 * (xh &&& (255 : Int32)))) gn gh)) rw gn gp gh) H := hP.sub [0, 1, 2, 3, 4] rfl
      have hD : va_D _ (wP ad cI cS ((FPr_next rp).2) re fn fz fc fv (upd rr ((xh >>> ((8 : Int32) &&& 31)) &&& (7 : Int32)).toNatClampNeg (FIm_wordAt ((FFo_baseOf rp) + (4 * (xh &&& (255 : Int32)))) gn gh)) rw gn gp gh) := hD.sub [0, 1, 2, 3, 4] (by decide) rfl
      have e9 : FPr_loadConstant xh rp rr gn gh = (((FPr_next rp).1), upd rr ((xh >>> ((8 : Int32) &&& 31)) &&& (7 : Int32)).toNatClampNeg (FIm_wordAt ((FFo_baseOf rp) + (4 * (xh &&& (255 : Int32)))) gn gh), (FPr_next rp).2) := by simp only [FPr_loadConstant, if_neg h1, if_neg h2]
      exact W.iret (v := ((FPr_next rp).1)) hx hb hr (fun t ht hW => ⟨⟨((FPr_next rp).1), (), rfl, (by show _ = _; rw [e9]), by rw [e9, ht]; exact hP, by rw [e9]; exact hD⟩, hS.F ht⟩) hS.2.2 dPr_loadConstant_66
    · refine lv_iconst (v := 2) hx hb dPr_loadConstant_40 (by first | rfl | decide) ?_
      have e9 : FPr_loadConstant xh rp rr gn gh = (2, rr, rp) := by simp only [FPr_loadConstant, if_neg h1, if_pos h2]
      exact W.iret (v := 2) hx hb hr (fun t ht hW => ⟨⟨2, (), rfl, (by show _ = _; rw [e9]), by rw [e9, ht]; exact hP, by rw [e9]; exact hD⟩, hS.F ht⟩) hS.2.2 dPr_loadConstant_41
def FPr_storeOrLoad (xh : Int32) (rp : Int32) (rr : Nat → Int32) (rw : Nat → Int32) : Int32 × (Nat → Int32) × (Nat → Int32) × Int32 := if ((((rr ((xh >>> ((3 : Int32) &&& 31)) &&& (7 : Int32)).toNatClampNeg) + (4 * ((xh >>> ((6 : Int32) &&& 31)) &&& (31 : Int32)))) - 4096) - (((rr ((xh >>> ((3 : Int32) &&& 31)) &&& (7 : Int32)).toNatClampNeg) + (4 * ((xh >>> ((6 : Int32) &&& 31)) &&& (31 : Int32)))) - 4096) / 4 * 4) = 0 then if (((rr ((xh >>> ((3 : Int32) &&& 31)) &&& (7 : Int32)).toNatClampNeg) + (4 * ((xh >>> ((6 : Int32) &&& 31)) &&& (31 : Int32)))) - 4096) < 0 then (2, rr, rw, rp) else if (((rr ((xh >>> ((3 : Int32) &&& 31)) &&& (7 : Int32)).toNatClampNeg) + (4 * ((xh >>> ((6 : Int32) &&& 31)) &&& (31 : Int32)))) - 4096) < 128 then if 26624 ≤ xh then (((FPr_next rp).1), upd rr (xh &&& (7 : Int32)).toNatClampNeg (rw ((((rr ((xh >>> ((3 : Int32) &&& 31)) &&& (7 : Int32)).toNatClampNeg) + (4 * ((xh >>> ((6 : Int32) &&& 31)) &&& (31 : Int32)))) - 4096) / 4).toNatClampNeg), rw, (FPr_next rp).2) else (((FPr_next rp).1), rr, upd rw ((((rr ((xh >>> ((3 : Int32) &&& 31)) &&& (7 : Int32)).toNatClampNeg) + (4 * ((xh >>> ((6 : Int32) &&& 31)) &&& (31 : Int32)))) - 4096) / 4).toNatClampNeg (rr (xh &&& (7 : Int32)).toNatClampNeg), (FPr_next rp).2) else (2, rr, rw, rp) else (2, rr, rw, rp)
set_option maxHeartbeats 4000000 in
set_option maxRecDepth 100000 in
theorem k_Pr_storeOrLoad (l : Launch) (D : va_G) (ad : Nat → Nat) (cI cS : ClassId) (xh : Int32) (rp : Int32) (re : Int32) (fn : Int32) (fz : Int32) (fc : Int32) (fv : Int32) (rr : Nat → Int32) (rw : Nat → Int32) (gn : Int32) (gp : Int32) (gh : Nat → Int32) : pq_I l yPr_storeOrLoad (.code yPr_storeOrLoad cPr_storeOrLoad 3 (some .int) :: pq_ws) { frames := 1, cells := 0, slots := 0, locals := 20 } D cI cS [.ref (ad 4), .int xh] (wP ad cI cS rp re fn fz fc fv rr rw gn gp gh) ((FPr_storeOrLoad xh rp rr rw).1) (wP ad cI cS ((FPr_storeOrLoad xh rp rr rw).2.2.2) re fn fz fc fv ((FPr_storeOrLoad xh rp rr rw).2.1) ((FPr_storeOrLoad xh rp rr rw).2.2.1) gn gp gh) := by
  intro sz
  refine Met.ofW (cc := cPr_storeOrLoad) (maxL := 3) (ret := (some .int)) (by decide) rfl ?_
  intro p e s m args below meth c s₁ B hml hv
  obtain ⟨rfl, hsz, hP, hD0, hE⟩ := hv
  have hx := B.exec
  have hb := B.bytes
  have hr := B.returns
  have hts := atoms_spec (ws := (.code yPr_storeOrLoad cPr_storeOrLoad 3 (some .int) :: pq_ws : List Cond)) B.pre
  have hw : ∀ w ∈ pq_ws, w.before _ s = true := fun w h => hts w (List.mem_cons_of_mem _ h)
  have hown : s.vm.findClass RPr = some m.cls := findClass_of_methodNamed B.named
  have hlocks := B.notSynchronized
  subst hsz
  have hD := hD0.self (sz := s.heap.size)
  have hA : ∀ q : Nat, s.heap.size ≤ q → va_A (wP ad cI cS rp re fn fz fc fv rr rw gn gp gh) s.heap.size q := fun q h => Or.inr h
  have hS : va_S (va_A (wP ad cI cS rp re fn fz fc fv rr rw gn gp gh) s.heap.size) s.heap s.heap [] := va_S.rf
  have hl := lv_entry ([.ref (ad 4), .int xh] : List Value) (n := 3) (Nat.le_of_ble_eq_true rfl)
  rw [lg_entry_eq]
  generalize (lg_sl ([.ref (ad 4), .int xh] : List Value) ++ List.replicate (3 - (lg_sl ([.ref (ad 4), .int xh] : List Value)).length) Slot.unset).toArray = ls at hl ⊢
  have hl : lv_has ls 3 [(0, .ref (ad 4)), (1, .int xh)] := hl
  refine lv_aload_n hx hb dPr_storeOrLoad_0 rfl (lv_at hl 0 rfl) ?_
  refine va_get (D := D) (ci := 2) (v := .ref (ad 15)) (C := RPr) (T := TPr) (N := 9) hx hb hw pinPr hown hE.1 hP 0 rfl rfl 1 (by decide) (hw _ wd_50) (fun _ h9 => h9) rfl dPr_storeOrLoad_1 ?_
  refine lv_iload_n hx hb dPr_storeOrLoad_4 rfl (lv_at hl 1 rfl) ?_
  refine lv_iconst (v := 3) hx hb dPr_storeOrLoad_5 (by first | rfl | decide) ?_
  refine lv_ishr hx hb dPr_storeOrLoad_6 ?_
  refine lv_bipush (v := 7) hx hb dPr_storeOrLoad_7 (by first | rfl | decide) ?_
  refine lv_iand hx hb dPr_storeOrLoad_9 ?_
  refine va_iald hx hb hE.1 hP 1 0 rfl rfl (show vp_in _ (2 ^ 3) from pk_andIn _ 3 (by decide) (by decide)) dPr_storeOrLoad_10 ?_
  refine lv_iconst (v := 4) hx hb dPr_storeOrLoad_11 (by first | rfl | decide) ?_
  refine lv_iload_n hx hb dPr_storeOrLoad_12 rfl (lv_at hl 1 rfl) ?_
  refine lv_bipush (v := 6) hx hb dPr_storeOrLoad_13 (by first | rfl | decide) ?_
  refine lv_ishr hx hb dPr_storeOrLoad_15 ?_
  refine lv_bipush (v := 31) hx hb dPr_storeOrLoad_16 (by first | rfl | decide) ?_
  refine lv_iand hx hb dPr_storeOrLoad_18 ?_
  refine lv_imul hx hb dPr_storeOrLoad_19 ?_
  refine lv_iadd hx hb dPr_storeOrLoad_20 ?_
  refine lv_sipush (v := 4096) hx hb dPr_storeOrLoad_21 (by first | rfl | decide) ?_
  refine lv_isub hx hb dPr_storeOrLoad_24 ?_
  refine lv_istore_n (lv' := [(2, .int (((rr ((xh >>> ((3 : Int32) &&& 31)) &&& (7 : Int32)).toNatClampNeg) + (4 * ((xh >>> ((6 : Int32) &&& 31)) &&& (31 : Int32)))) - 4096)), (0, .ref (ad 4)), (1, .int xh)]) hx hb dPr_storeOrLoad_25 rfl hl (by decide) rfl (fun ls hl => ?_)
  refine lv_iload_n hx hb dPr_storeOrLoad_26 rfl (lv_at hl 0 rfl) ?_
  refine lv_iconst (v := 4) hx hb dPr_storeOrLoad_27 (by first | rfl | decide) ?_
  refine lv_irem hx hb dPr_storeOrLoad_28 (by decide) ?_
  refine lv_if_ne (tgt := 43) hx hb dPr_storeOrLoad_29 (by decide) (fun h1 => ?_) (fun h1 => ?_)
  · refine lv_iconst (v := 2) hx hb dPr_storeOrLoad_43 (by first | rfl | decide) ?_
    have e9 : FPr_storeOrLoad xh rp rr rw = (2, rr, rw, rp) := by simp only [FPr_storeOrLoad, if_neg h1]
    exact W.iret (v := 2) hx hb hr (fun t ht hW => ⟨⟨2, (), rfl, (by show _ = _; rw [e9]), by rw [e9, ht]; exact hP, by rw [e9]; exact hD⟩, hS.F ht⟩) hS.2.2 dPr_storeOrLoad_44
  · refine lv_iload_n hx hb dPr_storeOrLoad_32 rfl (lv_at hl 0 rfl) ?_
    refine lv_if_lt (tgt := 43) hx hb dPr_storeOrLoad_33 (by decide) (fun h2 => ?_) (fun h2 => ?_)
    · refine lv_iconst (v := 2) hx hb dPr_storeOrLoad_43 (by first | rfl | decide) ?_
      have e9 : FPr_storeOrLoad xh rp rr rw = (2, rr, rw, rp) := by simp only [FPr_storeOrLoad, if_pos h1, if_pos h2]
      exact W.iret (v := 2) hx hb hr (fun t ht hW => ⟨⟨2, (), rfl, (by show _ = _; rw [e9]), by rw [e9, ht]; exact hP, by rw [e9]; exact hD⟩, hS.F ht⟩) hS.2.2 dPr_storeOrLoad_44
    · refine lv_iload_n hx hb dPr_storeOrLoad_36 rfl (lv_at hl 0 rfl) ?_
      refine lv_sipush (v := 128) hx hb dPr_storeOrLoad_37 (by first | rfl | decide) ?_
      refine lv_icmp_lt (tgt := 45) hx hb dPr_storeOrLoad_40 (by decide) (fun h3 => ?_) (fun h3 => ?_)
      · refine lv_iload_n hx hb dPr_storeOrLoad_45 rfl (lv_at hl 2 rfl) ?_
        refine lv_sipush (v := 26624) hx hb dPr_storeOrLoad_46 (by first | rfl | decide) ?_
        refine lv_icmp_ge (tgt := 72) hx hb dPr_storeOrLoad_49 (by decide) (fun h4 => ?_) (fun h4 => ?_)
        · refine lv_aload_n hx hb dPr_storeOrLoad_72 rfl (lv_at hl 1 rfl) ?_
          refine va_get (D := D) (ci := 2) (v := .ref (ad 15)) (C := RPr) (T := TPr) (N := 9) hx hb hw pinPr hown hE.1 hP 0 rfl rfl 1 (by decide) (hw _ wd_50) (fun _ h9 => h9) rfl dPr_storeOrLoad_73 ?_
          refine lv_iload_n hx hb dPr_storeOrLoad_76 rfl (lv_at hl 2 rfl) ?_
          refine lv_bipush (v := 7) hx hb dPr_storeOrLoad_77 (by first | rfl | decide) ?_
          refine lv_iand hx hb dPr_storeOrLoad_79 ?_
          refine lv_aload_n hx hb dPr_storeOrLoad_80 rfl (lv_at hl 1 rfl) ?_
          refine va_get (D := D) (ci := 2) (v := .ref (ad 16)) (C := RPr) (T := TPr) (N := 9) hx hb hw pinPr hown hE.1 hP 0 rfl rfl 2 (by decide) (hw _ wd_68) (fun _ h9 => h9) rfl dPr_storeOrLoad_81 ?_
          refine lv_iload_n hx hb dPr_storeOrLoad_84 rfl (lv_at hl 0 rfl) ?_
          refine lv_iconst (v := 4) hx hb dPr_storeOrLoad_85 (by first | rfl | decide) ?_
          refine lv_idiv hx hb dPr_storeOrLoad_86 (by decide) ?_
          refine va_iald hx hb hE.1 hP 2 0 rfl rfl (pq_div4 (by assumption) (by assumption)) dPr_storeOrLoad_87 ?_
          refine va_iast hx hb hE.1 hP hD hS 1 0 rfl rfl (show vp_in _ (2 ^ 3) from pk_andIn _ 3 (by decide) (by decide)) dPr_storeOrLoad_88 (fun H locs hP hD hS => ?_)
          have hP : va_P D vwCl (wP ad cI cS rp re fn fz fc fv (upd rr (xh &&& (7 : Int32)).toNatClampNeg (rw ((((rr ((xh >>> ((3 : Int32) &&& 31)) &&& (7 : Int32)).toNatClampNeg) + (4 * ((xh >>> ((6 : Int32) &&& 31)) &&& (31 : Int32)))) - 4096) / 4).toNatClampNeg)) rw gn gp gh) H := hP
          have hD : va_D _ (wP ad cI cS rp re fn fz fc fv (upd rr (xh &&& (7 : Int32)).toNatClampNeg (rw ((((rr ((xh >>> ((3 : Int32) &&& 31)) &&& (7 : Int32)).toNatClampNeg) + (4 * ((xh >>> ((6 : Int32) &&& 31)) &&& (31 : Int32)))) - 4096) / 4).toNatClampNeg)) rw gn gp gh) := hD
          refine lv_aload_n hx hb dPr_storeOrLoad_89 rfl (lv_at hl 1 rfl) ?_
          refine pq_calli (fr := ((FPr_next rp).1)) (wc := (wP ad cI cS rp re fn fz fc fv (upd rr (xh &&& (7 : Int32)).toNatClampNeg (rw ((((rr ((xh >>> ((3 : Int32) &&& 31)) &&& (7 : Int32)).toNatClampNeg) + (4 * ((xh >>> ((6 : Int32) &&& 31)) &&& (31 : Int32)))) - 4096) / 4).toNatClampNeg)) rw gn gp gh)) (wr := ([] : List Nat).filterMap (fun i => (wP ad cI cS rp re fn fz fc fv (upd rr (xh &&& (7 : Int32)).toNatClampNeg (rw ((((rr ((xh >>> ((3 : Int32) &&& 31)) &&& (7 : Int32)).toNatClampNeg) + (4 * ((xh >>> ((6 : Int32) &&& 31)) &&& (31 : Int32)))) - 4096) / 4).toNatClampNeg)) rw gn gp gh)[i]?)) hP hD hS hA [0, 1, 2, 3, 4] [] rfl rfl (by decide) (by decide) (va_runV (own := RPr) (C := RPr) (As := []) (rest := []) ⟨hx, hb, hml, hown, hw⟩ (k_Pr_next l D ad cI cS rp re fn fz fc fv (upd rr (xh &&& (7 : Int32)).toNatClampNeg (rw ((((rr ((xh >>> ((3 : Int32) &&& 31)) &&& (7 : Int32)).toNatClampNeg) + (4 * ((xh >>> ((6 : Int32) &&& 31)) &&& (31 : Int32)))) - 4096) / 4).toNatClampNeg)) rw gn gp gh H.size) ⟨pq_cwB 0 hw wd_38 wd_33 wd_37 rfl rfl (by decide +kernel) ⟨Nat.le_of_ble_eq_true rfl, Nat.le_of_ble_eq_true rfl⟩, hw _ wd_39, hw _ wd_40⟩ (pq_preV (ci := 2) (C := RPr) (T := TPr) (N := 9) hE (hP.sub [0, 1, 2, 3, 4] rfl) (hD.sub [0, 1, 2, 3, 4] (by decide) rfl) rfl 0 rfl) rfl rfl hl.1 rfl (lv_room (Nat.le_of_ble_eq_true rfl)) dPr_storeOrLoad_90 ⟨Nat.zero_le _, Nat.zero_le _⟩) (fun H locs hP hD hS => ?_)
          have hP : va_P D vwCl (wP ad cI cS ((FPr_next rp).2) re fn fz fc fv (upd rr (xh &&& (7 : Int32)).toNatClampNeg (rw ((((rr ((xh >>> ((3 : Int32) &&& 31)) &&& (7 : Int32)).toNatClampNeg) + (4 * ((xh >>> ((6 : Int32) &&& 31)) &&& (31 : Int32)))) - 4096) / 4).toNatClampNeg)) rw gn gp gh) H := hP.sub [0, 1, 2, 3, 4] rfl
          have hD : va_D _ (wP ad cI cS ((FPr_next rp).2) re fn fz fc fv (upd rr (xh &&& (7 : Int32)).toNatClampNeg (rw ((((rr ((xh >>> ((3 : Int32) &&& 31)) &&& (7 : Int32)).toNatClampNeg) + (4 * ((xh >>> ((6 : Int32) &&& 31)) &&& (31 : Int32)))) - 4096) / 4).toNatClampNeg)) rw gn gp gh) := hD.sub [0, 1, 2, 3, 4] (by decide) rfl
          have e9 : FPr_storeOrLoad xh rp rr rw = (((FPr_next rp).1), upd rr (xh &&& (7 : Int32)).toNatClampNeg (rw ((((rr ((xh >>> ((3 : Int32) &&& 31)) &&& (7 : Int32)).toNatClampNeg) + (4 * ((xh >>> ((6 : Int32) &&& 31)) &&& (31 : Int32)))) - 4096) / 4).toNatClampNeg), rw, (FPr_next rp).2) := by simp only [FPr_storeOrLoad, if_pos h1, if_neg h2, if_pos h3, if_pos h4]
          exact W.iret (v := ((FPr_next rp).1)) hx hb hr (fun t ht hW => ⟨⟨((FPr_next rp).1), (), rfl, (by show _ = _; rw [e9]), by rw [e9, ht]; exact hP, by rw [e9]; exact hD⟩, hS.F ht⟩) hS.2.2 dPr_storeOrLoad_93
        · refine lv_aload_n hx hb dPr_storeOrLoad_52 rfl (lv_at hl 1 rfl) ?_
          refine va_get (D := D) (ci := 2) (v := .ref (ad 16)) (C := RPr) (T := TPr) (N := 9) hx hb hw pinPr hown hE.1 hP 0 rfl rfl 2 (by decide) (hw _ wd_68) (fun _ h9 => h9) rfl dPr_storeOrLoad_53 ?_
          refine lv_iload_n hx hb dPr_storeOrLoad_56 rfl (lv_at hl 0 rfl) ?_
          refine lv_iconst (v := 4) hx hb dPr_storeOrLoad_57 (by first | rfl | decide) ?_
          refine lv_idiv hx hb dPr_storeOrLoad_58 (by decide) ?_
          refine lv_aload_n hx hb dPr_storeOrLoad_59 rfl (lv_at hl 1 rfl) ?_
          refine va_get (D := D) (ci := 2) (v := .ref (ad 15)) (C := RPr) (T := TPr) (N := 9) hx hb hw pinPr hown hE.1 hP 0 rfl rfl 1 (by decide) (hw _ wd_50) (fun _ h9 => h9) rfl dPr_storeOrLoad_60 ?_
          refine lv_iload_n hx hb dPr_storeOrLoad_63 rfl (lv_at hl 2 rfl) ?_
          refine lv_bipush (v := 7) hx hb dPr_storeOrLoad_64 (by first | rfl | decide) ?_
          refine lv_iand hx hb dPr_storeOrLoad_66 ?_
          refine va_iald hx hb hE.1 hP 1 0 rfl rfl (show vp_in _ (2 ^ 3) from pk_andIn _ 3 (by decide) (by decide)) dPr_storeOrLoad_67 ?_
          refine va_iast hx hb hE.1 hP hD hS 2 0 rfl rfl (pq_div4 (by assumption) (by assumption)) dPr_storeOrLoad_68 (fun H locs hP hD hS => ?_)
          have hP : va_P D vwCl (wP ad cI cS rp re fn fz fc fv rr (upd rw ((((rr ((xh >>> ((3 : Int32) &&& 31)) &&& (7 : Int32)).toNatClampNeg) + (4 * ((xh >>> ((6 : Int32) &&& 31)) &&& (31 : Int32)))) - 4096) / 4).toNatClampNeg (rr (xh &&& (7 : Int32)).toNatClampNeg)) gn gp gh) H := hP
          have hD : va_D _ (wP ad cI cS rp re fn fz fc fv rr (upd rw ((((rr ((xh >>> ((3 : Int32) &&& 31)) &&& (7 : Int32)).toNatClampNeg) + (4 * ((xh >>> ((6 : Int32) &&& 31)) &&& (31 : Int32)))) - 4096) / 4).toNatClampNeg (rr (xh &&& (7 : Int32)).toNatClampNeg)) gn gp gh) := hD
          refine lv_goto (tgt := 89) hx hb dPr_storeOrLoad_69 (by decide) ?_
          refine lv_aload_n hx hb dPr_storeOrLoad_89 rfl (lv_at hl 1 rfl) ?_
          refine pq_calli (fr := ((FPr_next rp).1)) (wc := (wP ad cI cS rp re fn fz fc fv rr (upd rw ((((rr ((xh >>> ((3 : Int32) &&& 31)) &&& (7 : Int32)).toNatClampNeg) + (4 * ((xh >>> ((6 : Int32) &&& 31)) &&& (31 : Int32)))) - 4096) / 4).toNatClampNeg (rr (xh &&& (7 : Int32)).toNatClampNeg)) gn gp gh)) (wr := ([] : List Nat).filterMap (fun i => (wP ad cI cS rp re fn fz fc fv rr (upd rw ((((rr ((xh >>> ((3 : Int32) &&& 31)) &&& (7 : Int32)).toNatClampNeg) + (4 * ((xh >>> ((6 : Int32) &&& 31)) &&& (31 : Int32)))) - 4096) / 4).toNatClampNeg (rr (xh &&& (7 : Int32)).toNatClampNeg)) gn gp gh)[i]?)) hP hD hS hA [0, 1, 2, 3, 4] [] rfl rfl (by decide) (by decide) (va_runV (own := RPr) (C := RPr) (As := []) (rest := []) ⟨hx, hb, hml, hown, hw⟩ (k_Pr_next l D ad cI cS rp re fn fz fc fv rr (upd rw ((((rr ((xh >>> ((3 : Int32) &&& 31)) &&& (7 : Int32)).toNatClampNeg) + (4 * ((xh >>> ((6 : Int32) &&& 31)) &&& (31 : Int32)))) - 4096) / 4).toNatClampNeg (rr (xh &&& (7 : Int32)).toNatClampNeg)) gn gp gh H.size) ⟨pq_cwB 0 hw wd_38 wd_33 wd_37 rfl rfl (by decide +kernel) ⟨Nat.le_of_ble_eq_true rfl, Nat.le_of_ble_eq_true rfl⟩, hw _ wd_39, hw _ wd_40⟩ (pq_preV (ci := 2) (C := RPr) (T := TPr) (N := 9) hE (hP.sub [0, 1, 2, 3, 4] rfl) (hD.sub [0, 1, 2, 3, 4] (by decide) rfl) rfl 0 rfl) rfl rfl hl.1 rfl (lv_room (Nat.le_of_ble_eq_true rfl)) dPr_storeOrLoad_90 ⟨Nat.zero_le _, Nat.zero_le _⟩) (fun H locs hP hD hS => ?_)
          have hP : va_P D vwCl (wP ad cI cS ((FPr_next rp).2) re fn fz fc fv rr (upd rw ((((rr ((xh >>> ((3 : Int32) &&& 31)) &&& (7 : Int32)).toNatClampNeg) + (4 * ((xh >>> ((6 : Int32) &&& 31)) &&& (31 : Int32)))) - 4096) / 4).toNatClampNeg (rr (xh &&& (7 : Int32)).toNatClampNeg)) gn gp gh) H := hP.sub [0, 1, 2, 3, 4] rfl
          have hD : va_D _ (wP ad cI cS ((FPr_next rp).2) re fn fz fc fv rr (upd rw ((((rr ((xh >>> ((3 : Int32) &&& 31)) &&& (7 : Int32)).toNatClampNeg) + (4 * ((xh >>> ((6 : Int32) &&& 31)) &&& (31 : Int32)))) - 4096) / 4).toNatClampNeg (rr (xh &&& (7 : Int32)).toNatClampNeg)) gn gp gh) := hD.sub [0, 1, 2, 3, 4] (by decide) rfl
          have e9 : FPr_storeOrLoad xh rp rr rw = (((FPr_next rp).1), rr, upd rw ((((rr ((xh >>> ((3 : Int32) &&& 31)) &&& (7 : Int32)).toNatClampNeg) + (4 * ((xh >>> ((6 : Int32) &&& 31)) &&& (31 : Int32)))) - 4096) / 4).toNatClampNeg (rr (xh &&& (7 : Int32)).toNatClampNeg), (FPr_next rp).2) := by simp only [FPr_storeOrLoad, if_pos h1, if_neg h2, if_pos h3, if_neg h4]
          exact W.iret (v := ((FPr_next rp).1)) hx hb hr (fun t ht hW => ⟨⟨((FPr_next rp).1), (), rfl, (by show _ = _; rw [e9]), by rw [e9, ht]; exact hP, by rw [e9]; exact hD⟩, hS.F ht⟩) hS.2.2 dPr_storeOrLoad_93
      · refine lv_iconst (v := 2) hx hb dPr_storeOrLoad_43 (by first | rfl | decide) ?_
        have e9 : FPr_storeOrLoad xh rp rr rw = (2, rr, rw, rp) := by simp only [FPr_storeOrLoad, if_pos h1, if_neg h2, if_neg h3]
        exact W.iret (v := 2) hx hb hr (fun t ht hW => ⟨⟨2, (), rfl, (by show _ = _; rw [e9]), by rw [e9, ht]; exact hP, by rw [e9]; exact hD⟩, hS.F ht⟩) hS.2.2 dPr_storeOrLoad_44
def FPr_perform (xh : Int32) (rp : Int32) (fn : Int32) (fz : Int32) (fc : Int32) (fv : Int32) (rr : Nat → Int32) (rw : Nat → Int32) (gn : Int32) (gh : Nat → Int32) : Int32 × (Nat → Int32) × (Nat → Int32) × Int32 × Int32 × Int32 × Int32 × Int32 := if (xh >>> ((11 : Int32) &&& 31)) = 3 then ((FPr_addOrTake xh rp fn fz fc fv rr).1, (FPr_addOrTake xh rp fn fz fc fv rr).2.1, rw, (FPr_addOrTake xh rp fn fz fc fv rr).2.2.1, (FPr_addOrTake xh rp fn fz fc fv rr).2.2.2.1, (FPr_addOrTake xh rp fn fz fc fv rr).2.2.2.2.1, (FPr_addOrTake xh rp fn fz fc fv rr).2.2.2.2.2.1, (FPr_addOrTake xh rp fn fz fc fv rr).2.2.2.2.2.2) else if (xh >>> ((11 : Int32) &&& 31)) = 4 then ((FPr_workWithSmall xh rp fc fv rr).1, (FPr_workWithSmall xh rp fc fv rr).2.1, rw, (FPr_workWithSmall xh rp fc fv rr).2.2.1, (FPr_workWithSmall xh rp fc fv rr).2.2.2.1, (FPr_workWithSmall xh rp fc fv rr).2.2.2.2.1, (FPr_workWithSmall xh rp fc fv rr).2.2.2.2.2.1, (FPr_workWithSmall xh rp fc fv rr).2.2.2.2.2.2) else if (xh >>> ((11 : Int32) &&& 31)) = 5 then ((FPr_workWithSmall xh rp fc fv rr).1, (FPr_workWithSmall xh rp fc fv rr).2.1, rw, (FPr_workWithSmall xh rp fc fv rr).2.2.1, (FPr_workWithSmall xh rp fc fv rr).2.2.2.1, (FPr_workWithSmall xh rp fc fv rr).2.2.2.2.1, (FPr_workWithSmall xh rp fc fv rr).2.2.2.2.2.1, (FPr_workWithSmall xh rp fc fv rr).2.2.2.2.2.2) else if (xh >>> ((11 : Int32) &&& 31)) = 6 then ((FPr_workWithSmall xh rp fc fv rr).1, (FPr_workWithSmall xh rp fc fv rr).2.1, rw, (FPr_workWithSmall xh rp fc fv rr).2.2.1, (FPr_workWithSmall xh rp fc fv rr).2.2.2.1, (FPr_workWithSmall xh rp fc fv rr).2.2.2.2.1, (FPr_workWithSmall xh rp fc fv rr).2.2.2.2.2.1, (FPr_workWithSmall xh rp fc fv rr).2.2.2.2.2.2) else if (xh >>> ((11 : Int32) &&& 31)) = 7 then ((FPr_workWithSmall xh rp fc fv rr).1, (FPr_workWithSmall xh rp fc fv rr).2.1, rw, (FPr_workWithSmall xh rp fc fv rr).2.2.1, (FPr_workWithSmall xh rp fc fv rr).2.2.2.1, (FPr_workWithSmall xh rp fc fv rr).2.2.2.2.1, (FPr_workWithSmall xh rp fc fv rr).2.2.2.2.2.1, (FPr_workWithSmall xh rp fc fv rr).2.2.2.2.2.2) else if (xh >>> ((11 : Int32) &&& 31)) = 8 then if xh = 18112 then (((FPr_next rp).1), rr, rw, (FPr_next rp).2, fn, fz, fc, fv) else ((FPr_work xh rp fn fz fc fv rr).1, (FPr_work xh rp fn fz fc fv rr).2.1, rw, (FPr_work xh rp fn fz fc fv rr).2.2.1, (FPr_work xh rp fn fz fc fv rr).2.2.2.1, (FPr_work xh rp fn fz fc fv rr).2.2.2.2.1, (FPr_work xh rp fn fz fc fv rr).2.2.2.2.2.1, (FPr_work xh rp fn fz fc fv rr).2.2.2.2.2.2) else if (xh >>> ((11 : Int32) &&& 31)) = 9 then ((FPr_loadConstant xh rp rr gn gh).1, (FPr_loadConstant xh rp rr gn gh).2.1, rw, (FPr_loadConstant xh rp rr gn gh).2.2, fn, fz, fc, fv) else if (xh >>> ((11 : Int32) &&& 31)) = 10 then (2, rr, rw, rp, fn, fz, fc, fv) else if (xh >>> ((11 : Int32) &&& 31)) = 11 then (2, rr, rw, rp, fn, fz, fc, fv) else if (xh >>> ((11 : Int32) &&& 31)) = 12 then ((FPr_storeOrLoad xh rp rr rw).1, (FPr_storeOrLoad xh rp rr rw).2.1, (FPr_storeOrLoad xh rp rr rw).2.2.1, (FPr_storeOrLoad xh rp rr rw).2.2.2, fn, fz, fc, fv) else if (xh >>> ((11 : Int32) &&& 31)) = 13 then ((FPr_storeOrLoad xh rp rr rw).1, (FPr_storeOrLoad xh rp rr rw).2.1, (FPr_storeOrLoad xh rp rr rw).2.2.1, (FPr_storeOrLoad xh rp rr rw).2.2.2, fn, fz, fc, fv) else if (xh >>> ((11 : Int32) &&& 31)) = 14 then (2, rr, rw, rp, fn, fz, fc, fv) else if (xh >>> ((11 : Int32) &&& 31)) = 15 then (2, rr, rw, rp, fn, fz, fc, fv) else if (xh >>> ((11 : Int32) &&& 31)) = 16 then (2, rr, rw, rp, fn, fz, fc, fv) else if (xh >>> ((11 : Int32) &&& 31)) = 17 then (2, rr, rw, rp, fn, fz, fc, fv) else if (xh >>> ((11 : Int32) &&& 31)) = 18 then (2, rr, rw, rp, fn, fz, fc, fv) else if (xh >>> ((11 : Int32) &&& 31)) = 19 then (2, rr, rw, rp, fn, fz, fc, fv) else if (xh >>> ((11 : Int32) &&& 31)) = 20 then (2, rr, rw, rp, fn, fz, fc, fv) else if (xh >>> ((11 : Int32) &&& 31)) = 21 then (2, rr, rw, rp, fn, fz, fc, fv) else if (xh >>> ((11 : Int32) &&& 31)) = 22 then (2, rr, rw, rp, fn, fz, fc, fv) else if (xh >>> ((11 : Int32) &&& 31)) = 23 then if xh = 48640 then (1, rr, rw, rp, fn, fz, fc, fv) else (2, rr, rw, rp, fn, fz, fc, fv) else if (xh >>> ((11 : Int32) &&& 31)) = 24 then (2, rr, rw, rp, fn, fz, fc, fv) else if (xh >>> ((11 : Int32) &&& 31)) = 25 then (2, rr, rw, rp, fn, fz, fc, fv) else if (xh >>> ((11 : Int32) &&& 31)) = 26 then (((FPr_branchIf xh rp fn fz fc fv).1), rr, rw, (FPr_branchIf xh rp fn fz fc fv).2, fn, fz, fc, fv) else if (xh >>> ((11 : Int32) &&& 31)) = 27 then (((FPr_branchIf xh rp fn fz fc fv).1), rr, rw, (FPr_branchIf xh rp fn fz fc fv).2, fn, fz, fc, fv) else if (xh >>> ((11 : Int32) &&& 31)) = 28 then (((FPr_branch ((xh <<< ((21 : Int32) &&& 31)) >>> ((21 : Int32) &&& 31)) rp).1), rr, rw, (FPr_branch ((xh <<< ((21 : Int32) &&& 31)) >>> ((21 : Int32) &&& 31)) rp).2, fn, fz, fc, fv) else (2, rr, rw, rp, fn, fz, fc, fv)
set_option maxHeartbeats 4000000 in
set_option maxRecDepth 100000 in
theorem k_Pr_perform (l : Launch) (D : va_G) (ad : Nat → Nat) (cI cS : ClassId) (xh : Int32) (rp : Int32) (re : Int32) (fn : Int32) (fz : Int32) (fc : Int32) (fv : Int32) (rr : Nat → Int32) (rw : Nat → Int32) (gn : Int32) (gp : Int32) (gh : Nat → Int32) (hgn : gn.toInt ≤ 6400) : pq_I l yPr_perform (.code yPr_perform cPr_perform 2 (some .int) :: pq_ws) { frames := 3, cells := 0, slots := 0, locals := 68 } D cI cS [.ref (ad 4), .int xh] (wP ad cI cS rp re fn fz fc fv rr rw gn gp gh) ((FPr_perform xh rp fn fz fc fv rr rw gn gh).1) (wP ad cI cS ((FPr_perform xh rp fn fz fc fv rr rw gn gh).2.2.2.1) re ((FPr_perform xh rp fn fz fc fv rr rw gn gh).2.2.2.2.1) ((FPr_perform xh rp fn fz fc fv rr rw gn gh).2.2.2.2.2.1) ((FPr_perform xh rp fn fz fc fv rr rw gn gh).2.2.2.2.2.2.1) ((FPr_perform xh rp fn fz fc fv rr rw gn gh).2.2.2.2.2.2.2) ((FPr_perform xh rp fn fz fc fv rr rw gn gh).2.1) ((FPr_perform xh rp fn fz fc fv rr rw gn gh).2.2.1) gn gp gh) := by
  intro sz
  refine Met.ofW (cc := cPr_perform) (maxL := 2) (ret := (some .int)) (by decide) rfl ?_
  intro p e s m args below meth c s₁ B hml hv
  obtain ⟨rfl, hsz, hP, hD0, hE⟩ := hv
  have hx := B.exec
  have hb := B.bytes
  have hr := B.returns
  have hts := atoms_spec (ws := (.code yPr_perform cPr_perform 2 (some .int) :: pq_ws : List Cond)) B.pre
  have hw : ∀ w ∈ pq_ws, w.before _ s = true := fun w h => hts w (List.mem_cons_of_mem _ h)
  have hown : s.vm.findClass RPr = some m.cls := findClass_of_methodNamed B.named
  have hlocks := B.notSynchronized
  subst hsz
  have hD := hD0.self (sz := s.heap.size)
  have hA : ∀ q : Nat, s.heap.size ≤ q → va_A (wP ad cI cS rp re fn fz fc fv rr rw gn gp gh) s.heap.size q := fun q h => Or.inr h
  have hS : va_S (va_A (wP ad cI cS rp re fn fz fc fv rr rw gn gp gh) s.heap.size) s.heap s.heap [] := va_S.rf
  have hl := lv_entry ([.ref (ad 4), .int xh] : List Value) (n := 2) (Nat.le_of_ble_eq_true rfl)
  rw [lg_entry_eq]
  generalize (lg_sl ([.ref (ad 4), .int xh] : List Value) ++ List.replicate (2 - (lg_sl ([.ref (ad 4), .int xh] : List Value)).length) Slot.unset).toArray = ls at hl ⊢
  have hl : lv_has ls 2 [(0, .ref (ad 4)), (1, .int xh)] := hl
  refine lv_iload_n hx hb dPr_perform_0 rfl (lv_at hl 1 rfl) ?_
  refine lv_bipush (v := 11) hx hb dPr_perform_1 (by first | rfl | decide) ?_
  refine lv_ishr hx hb dPr_perform_3 ?_
  by_cases h1 : (xh >>> ((11 : Int32) &&& 31)) = 3
  · refine lv_tableIn (off := 120) (tgt := 124) hx hb dPr_perform_4 (by rw [h1]; decide) (by rw [h1]; decide) (by rw [h1]; rfl) (by decide) ?_
    refine lv_aload_n hx hb dPr_perform_124 rfl (lv_at hl 0 rfl) ?_
    refine lv_iload_n hx hb dPr_perform_125 rfl (lv_at hl 1 rfl) ?_
    obtain ⟨g1, hg1⟩ : ∃ g9, FPr_addOrTake xh rp fn fz fc fv rr = g9 := ⟨_, rfl⟩
    have cg1 := k_Pr_addOrTake l D ad cI cS xh rp re fn fz fc fv rr rw gn gp gh
    rw [hg1] at cg1
    refine pq_calli (fr := g1.1) (wc := (wP ad cI cS rp re fn fz fc fv rr rw gn gp gh)) (wr := ([] : List Nat).filterMap (fun i => (wP ad cI cS rp re fn fz fc fv rr rw gn gp gh)[i]?)) hP hD hS hA [0, 1, 2, 3, 4] [] rfl rfl (by decide) (by decide) (va_runV (own := RPr) (C := RPr) (As := [.int xh]) (rest := []) ⟨hx, hb, hml, hown, hw⟩ (cg1 s.heap.size) ⟨pq_cwB 1 hw wd_70 wd_33 wd_69 rfl rfl (by decide +kernel) ⟨Nat.le_of_ble_eq_true rfl, Nat.le_of_ble_eq_true rfl⟩, hw _ wd_71, hw _ wd_72⟩ (pq_preV (ci := 2) (C := RPr) (T := TPr) (N := 9) hE (hP.sub [0, 1, 2, 3, 4] rfl) (hD.sub [0, 1, 2, 3, 4] (by decide) rfl) rfl 0 rfl) rfl rfl hl.1 rfl (lv_room (Nat.le_of_ble_eq_true rfl)) dPr_perform_126 ⟨Nat.zero_le _, Nat.zero_le _⟩) (fun H locs hP hD hS => ?_)
    have hP : va_P D vwCl (wP ad cI cS g1.2.2.1 re g1.2.2.2.1 g1.2.2.2.2.1 g1.2.2.2.2.2.1 g1.2.2.2.2.2.2 g1.2.1 rw gn gp gh) H := hP.sub [0, 1, 2, 3, 4] rfl
    have hD : va_D _ (wP ad cI cS g1.2.2.1 re g1.2.2.2.1 g1.2.2.2.2.1 g1.2.2.2.2.2.1 g1.2.2.2.2.2.2 g1.2.1 rw gn gp gh) := hD.sub [0, 1, 2, 3, 4] (by decide) rfl
    have e9 : FPr_perform xh rp fn fz fc fv rr rw gn gh = (g1.1, g1.2.1, rw, g1.2.2.1, g1.2.2.2.1, g1.2.2.2.2.1, g1.2.2.2.2.2.1, g1.2.2.2.2.2.2) := by simp only [FPr_perform, hg1, if_pos h1]
    exact W.iret (v := g1.1) hx hb hr (fun t ht hW => ⟨⟨g1.1, (), rfl, (by show _ = _; rw [e9]), by rw [e9, ht]; exact hP, by rw [e9]; exact hD⟩, hS.F ht⟩) hS.2.2 dPr_perform_129
  by_cases h2 : (xh >>> ((11 : Int32) &&& 31)) = 4
  · refine lv_tableIn (off := 126) (tgt := 130) hx hb dPr_perform_4 (by rw [h2]; decide) (by rw [h2]; decide) (by rw [h2]; rfl) (by decide) ?_
    refine lv_aload_n hx hb dPr_perform_130 rfl (lv_at hl 0 rfl) ?_
    refine lv_iload_n hx hb dPr_perform_131 rfl (lv_at hl 1 rfl) ?_
    obtain ⟨g2, hg2⟩ : ∃ g9, FPr_workWithSmall xh rp fc fv rr = g9 := ⟨_, rfl⟩
    have cg2 := k_Pr_workWithSmall l D ad cI cS xh rp re fn fz fc fv rr rw gn gp gh
    rw [hg2] at cg2
    refine pq_calli (fr := g2.1) (wc := (wP ad cI cS rp re fn fz fc fv rr rw gn gp gh)) (wr := ([] : List Nat).filterMap (fun i => (wP ad cI cS rp re fn fz fc fv rr rw gn gp gh)[i]?)) hP hD hS hA [0, 1, 2, 3, 4] [] rfl rfl (by decide) (by decide) (va_runV (own := RPr) (C := RPr) (As := [.int xh]) (rest := []) ⟨hx, hb, hml, hown, hw⟩ (cg2 s.heap.size) ⟨pq_cwB 1 hw wd_74 wd_33 wd_73 rfl rfl (by decide +kernel) ⟨Nat.le_of_ble_eq_true rfl, Nat.le_of_ble_eq_true rfl⟩, hw _ wd_75, hw _ wd_76⟩ (pq_preV (ci := 2) (C := RPr) (T := TPr) (N := 9) hE (hP.sub [0, 1, 2, 3, 4] rfl) (hD.sub [0, 1, 2, 3, 4] (by decide) rfl) rfl 0 rfl) rfl rfl hl.1 rfl (lv_room (Nat.le_of_ble_eq_true rfl)) dPr_perform_132 ⟨Nat.zero_le _, Nat.zero_le _⟩) (fun H locs hP hD hS => ?_)
    have hP : va_P D vwCl (wP ad cI cS g2.2.2.1 re g2.2.2.2.1 g2.2.2.2.2.1 g2.2.2.2.2.2.1 g2.2.2.2.2.2.2 g2.2.1 rw gn gp gh) H := hP.sub [0, 1, 2, 3, 4] rfl
    have hD : va_D _ (wP ad cI cS g2.2.2.1 re g2.2.2.2.1 g2.2.2.2.2.1 g2.2.2.2.2.2.1 g2.2.2.2.2.2.2 g2.2.1 rw gn gp gh) := hD.sub [0, 1, 2, 3, 4] (by decide) rfl
    have e9 : FPr_perform xh rp fn fz fc fv rr rw gn gh = (g2.1, g2.2.1, rw, g2.2.2.1, g2.2.2.2.1, g2.2.2.2.2.1, g2.2.2.2.2.2.1, g2.2.2.2.2.2.2) := by simp only [FPr_perform, hg2, if_neg h1, if_pos h2]
    exact W.iret (v := g2.1) hx hb hr (fun t ht hW => ⟨⟨g2.1, (), rfl, (by show _ = _; rw [e9]), by rw [e9, ht]; exact hP, by rw [e9]; exact hD⟩, hS.F ht⟩) hS.2.2 dPr_perform_135
  by_cases h3 : (xh >>> ((11 : Int32) &&& 31)) = 5
  · refine lv_tableIn (off := 126) (tgt := 130) hx hb dPr_perform_4 (by rw [h3]; decide) (by rw [h3]; decide) (by rw [h3]; rfl) (by decide) ?_
    refine lv_aload_n hx hb dPr_perform_130 rfl (lv_at hl 0 rfl) ?_
    refine lv_iload_n hx hb dPr_perform_131 rfl (lv_at hl 1 rfl) ?_
    obtain ⟨g3, hg3⟩ : ∃ g9, FPr_workWithSmall xh rp fc fv rr = g9 := ⟨_, rfl⟩
    have cg3 := k_Pr_workWithSmall l D ad cI cS xh rp re fn fz fc fv rr rw gn gp gh
    rw [hg3] at cg3
    refine pq_calli (fr := g3.1) (wc := (wP ad cI cS rp re fn fz fc fv rr rw gn gp gh)) (wr := ([] : List Nat).filterMap (fun i => (wP ad cI cS rp re fn fz fc fv rr rw gn gp gh)[i]?)) hP hD hS hA [0, 1, 2, 3, 4] [] rfl rfl (by decide) (by decide) (va_runV (own := RPr) (C := RPr) (As := [.int xh]) (rest := []) ⟨hx, hb, hml, hown, hw⟩ (cg3 s.heap.size) ⟨pq_cwB 1 hw wd_74 wd_33 wd_73 rfl rfl (by decide +kernel) ⟨Nat.le_of_ble_eq_true rfl, Nat.le_of_ble_eq_true rfl⟩, hw _ wd_75, hw _ wd_76⟩ (pq_preV (ci := 2) (C := RPr) (T := TPr) (N := 9) hE (hP.sub [0, 1, 2, 3, 4] rfl) (hD.sub [0, 1, 2, 3, 4] (by decide) rfl) rfl 0 rfl) rfl rfl hl.1 rfl (lv_room (Nat.le_of_ble_eq_true rfl)) dPr_perform_132 ⟨Nat.zero_le _, Nat.zero_le _⟩) (fun H locs hP hD hS => ?_)
    have hP : va_P D vwCl (wP ad cI cS g3.2.2.1 re g3.2.2.2.1 g3.2.2.2.2.1 g3.2.2.2.2.2.1 g3.2.2.2.2.2.2 g3.2.1 rw gn gp gh) H := hP.sub [0, 1, 2, 3, 4] rfl
    have hD : va_D _ (wP ad cI cS g3.2.2.1 re g3.2.2.2.1 g3.2.2.2.2.1 g3.2.2.2.2.2.1 g3.2.2.2.2.2.2 g3.2.1 rw gn gp gh) := hD.sub [0, 1, 2, 3, 4] (by decide) rfl
    have e9 : FPr_perform xh rp fn fz fc fv rr rw gn gh = (g3.1, g3.2.1, rw, g3.2.2.1, g3.2.2.2.1, g3.2.2.2.2.1, g3.2.2.2.2.2.1, g3.2.2.2.2.2.2) := by simp only [FPr_perform, hg3, if_neg h1, if_neg h2, if_pos h3]
    exact W.iret (v := g3.1) hx hb hr (fun t ht hW => ⟨⟨g3.1, (), rfl, (by show _ = _; rw [e9]), by rw [e9, ht]; exact hP, by rw [e9]; exact hD⟩, hS.F ht⟩) hS.2.2 dPr_perform_135
  by_cases h4 : (xh >>> ((11 : Int32) &&& 31)) = 6
  · refine lv_tableIn (off := 126) (tgt := 130) hx hb dPr_perform_4 (by rw [h4]; decide) (by rw [h4]; decide) (by rw [h4]; rfl) (by decide) ?_
    refine lv_aload_n hx hb dPr_perform_130 rfl (lv_at hl 0 rfl) ?_
    refine lv_iload_n hx hb dPr_perform_131 rfl (lv_at hl 1 rfl) ?_
    obtain ⟨g4, hg4⟩ : ∃ g9, FPr_workWithSmall xh rp fc fv rr = g9 := ⟨_, rfl⟩
    have cg4 := k_Pr_workWithSmall l D ad cI cS xh rp re fn fz fc fv rr rw gn gp gh
    rw [hg4] at cg4
    refine pq_calli (fr := g4.1) (wc := (wP ad cI cS rp re fn fz fc fv rr rw gn gp gh)) (wr := ([] : List Nat).filterMap (fun i => (wP ad cI cS rp re fn fz fc fv rr rw gn gp gh)[i]?)) hP hD hS hA [0, 1, 2, 3, 4] [] rfl rfl (by decide) (by decide) (va_runV (own := RPr) (C := RPr) (As := [.int xh]) (rest := []) ⟨hx, hb, hml, hown, hw⟩ (cg4 s.heap.size) ⟨pq_cwB 1 hw wd_74 wd_33 wd_73 rfl rfl (by decide +kernel) ⟨Nat.le_of_ble_eq_true rfl, Nat.le_of_ble_eq_true rfl⟩, hw _ wd_75, hw _ wd_76⟩ (pq_preV (ci := 2) (C := RPr) (T := TPr) (N := 9) hE (hP.sub [0, 1, 2, 3, 4] rfl) (hD.sub [0, 1, 2, 3, 4] (by decide) rfl) rfl 0 rfl) rfl rfl hl.1 rfl (lv_room (Nat.le_of_ble_eq_true rfl)) dPr_perform_132 ⟨Nat.zero_le _, Nat.zero_le _⟩) (fun H locs hP hD hS => ?_)
    have hP : va_P D vwCl (wP ad cI cS g4.2.2.1 re g4.2.2.2.1 g4.2.2.2.2.1 g4.2.2.2.2.2.1 g4.2.2.2.2.2.2 g4.2.1 rw gn gp gh) H := hP.sub [0, 1, 2, 3, 4] rfl
    have hD : va_D _ (wP ad cI cS g4.2.2.1 re g4.2.2.2.1 g4.2.2.2.2.1 g4.2.2.2.2.2.1 g4.2.2.2.2.2.2 g4.2.1 rw gn gp gh) := hD.sub [0, 1, 2, 3, 4] (by decide) rfl
    have e9 : FPr_perform xh rp fn fz fc fv rr rw gn gh = (g4.1, g4.2.1, rw, g4.2.2.1, g4.2.2.2.1, g4.2.2.2.2.1, g4.2.2.2.2.2.1, g4.2.2.2.2.2.2) := by simp only [FPr_perform, hg4, if_neg h1, if_neg h2, if_neg h3, if_pos h4]
    exact W.iret (v := g4.1) hx hb hr (fun t ht hW => ⟨⟨g4.1, (), rfl, (by show _ = _; rw [e9]), by rw [e9, ht]; exact hP, by rw [e9]; exact hD⟩, hS.F ht⟩) hS.2.2 dPr_perform_135
  by_cases h5 : (xh >>> ((11 : Int32) &&& 31)) = 7
  · refine lv_tableIn (off := 126) (tgt := 130) hx hb dPr_perform_4 (by rw [h5]; decide) (by rw [h5]; decide) (by rw [h5]; rfl) (by decide) ?_
    refine lv_aload_n hx hb dPr_perform_130 rfl (lv_at hl 0 rfl) ?_
    refine lv_iload_n hx hb dPr_perform_131 rfl (lv_at hl 1 rfl) ?_
    obtain ⟨g5, hg5⟩ : ∃ g9, FPr_workWithSmall xh rp fc fv rr = g9 := ⟨_, rfl⟩
    have cg5 := k_Pr_workWithSmall l D ad cI cS xh rp re fn fz fc fv rr rw gn gp gh
    rw [hg5] at cg5
    refine pq_calli (fr := g5.1) (wc := (wP ad cI cS rp re fn fz fc fv rr rw gn gp gh)) (wr := ([] : List Nat).filterMap (fun i => (wP ad cI cS rp re fn fz fc fv rr rw gn gp gh)[i]?)) hP hD hS hA [0, 1, 2, 3, 4] [] rfl rfl (by decide) (by decide) (va_runV (own := RPr) (C := RPr) (As := [.int xh]) (rest := []) ⟨hx, hb, hml, hown, hw⟩ (cg5 s.heap.size) ⟨pq_cwB 1 hw wd_74 wd_33 wd_73 rfl rfl (by decide +kernel) ⟨Nat.le_of_ble_eq_true rfl, Nat.le_of_ble_eq_true rfl⟩, hw _ wd_75, hw _ wd_76⟩ (pq_preV (ci := 2) (C := RPr) (T := TPr) (N := 9) hE (hP.sub [0, 1, 2, 3, 4] rfl) (hD.sub [0, 1, 2, 3, 4] (by decide) rfl) rfl 0 rfl) rfl rfl hl.1 rfl (lv_room (Nat.le_of_ble_eq_true rfl)) dPr_perform_132 ⟨Nat.zero_le _, Nat.zero_le _⟩) (fun H locs hP hD hS => ?_)
    have hP : va_P D vwCl (wP ad cI cS g5.2.2.1 re g5.2.2.2.1 g5.2.2.2.2.1 g5.2.2.2.2.2.1 g5.2.2.2.2.2.2 g5.2.1 rw gn gp gh) H := hP.sub [0, 1, 2, 3, 4] rfl
    have hD : va_D _ (wP ad cI cS g5.2.2.1 re g5.2.2.2.1 g5.2.2.2.2.1 g5.2.2.2.2.2.1 g5.2.2.2.2.2.2 g5.2.1 rw gn gp gh) := hD.sub [0, 1, 2, 3, 4] (by decide) rfl
    have e9 : FPr_perform xh rp fn fz fc fv rr rw gn gh = (g5.1, g5.2.1, rw, g5.2.2.1, g5.2.2.2.1, g5.2.2.2.2.1, g5.2.2.2.2.2.1, g5.2.2.2.2.2.2) := by simp only [FPr_perform, hg5, if_neg h1, if_neg h2, if_neg h3, if_neg h4, if_pos h5]
    exact W.iret (v := g5.1) hx hb hr (fun t ht hW => ⟨⟨g5.1, (), rfl, (by show _ = _; rw [e9]), by rw [e9, ht]; exact hP, by rw [e9]; exact hD⟩, hS.F ht⟩) hS.2.2 dPr_perform_135
  by_cases h6 : (xh >>> ((11 : Int32) &&& 31)) = 8
  · refine lv_tableIn (off := 132) (tgt := 136) hx hb dPr_perform_4 (by rw [h6]; decide) (by rw [h6]; decide) (by rw [h6]; rfl) (by decide) ?_
    refine lv_iload_n hx hb dPr_perform_136 rfl (lv_at hl 1 rfl) ?_
    refine lv_sipush (v := 18112) hx hb dPr_perform_137 (by first | rfl | decide) ?_
    refine lv_icmp_ne (tgt := 150) hx hb dPr_perform_140 (by decide) (fun h7 => ?_) (fun h7 => ?_)
    · refine lv_aload_n hx hb dPr_perform_150 rfl (lv_at hl 0 rfl) ?_
      refine lv_iload_n hx hb dPr_perform_151 rfl (lv_at hl 1 rfl) ?_
      obtain ⟨g6, hg6⟩ : ∃ g9, FPr_work xh rp fn fz fc fv rr = g9 := ⟨_, rfl⟩
      have cg6 := k_Pr_work l D ad cI cS xh rp re fn fz fc fv rr rw gn gp gh
      rw [hg6] at cg6
      refine pq_calli (fr := g6.1) (wc := (wP ad cI cS rp re fn fz fc fv rr rw gn gp gh)) (wr := ([] : List Nat).filterMap (fun i => (wP ad cI cS rp re fn fz fc fv rr rw gn gp gh)[i]?)) hP hD hS hA [0, 1, 2, 3, 4] [] rfl rfl (by decide) (by decide) (va_runV (own := RPr) (C := RPr) (As := [.int xh]) (rest := []) ⟨hx, hb, hml, hown, hw⟩ (cg6 s.heap.size) ⟨pq_cwB 1 hw wd_78 wd_33 wd_77 rfl rfl (by decide +kernel) ⟨Nat.le_of_ble_eq_true rfl, Nat.le_of_ble_eq_true rfl⟩, hw _ wd_79, hw _ wd_80⟩ (pq_preV (ci := 2) (C := RPr) (T := TPr) (N := 9) hE (hP.sub [0, 1, 2, 3, 4] rfl) (hD.sub [0, 1, 2, 3, 4] (by decide) rfl) rfl 0 rfl) rfl rfl hl.1 rfl (lv_room (Nat.le_of_ble_eq_true rfl)) dPr_perform_152 ⟨Nat.zero_le _, Nat.zero_le _⟩) (fun H locs hP hD hS => ?_)
      have hP : va_P D vwCl (wP ad cI cS g6.2.2.1 re g6.2.2.2.1 g6.2.2.2.2.1 g6.2.2.2.2.2.1 g6.2.2.2.2.2.2 g6.2.1 rw gn gp gh) H := hP.sub [0, 1, 2, 3, 4] rfl
      have hD : va_D _ (wP ad cI cS g6.2.2.1 re g6.2.2.2.1 g6.2.2.2.2.1 g6.2.2.2.2.2.1 g6.2.2.2.2.2.2 g6.2.1 rw gn gp gh) := hD.sub [0, 1, 2, 3, 4] (by decide) rfl
      have e9 : FPr_perform xh rp fn fz fc fv rr rw gn gh = (g6.1, g6.2.1, rw, g6.2.2.1, g6.2.2.2.1, g6.2.2.2.2.1, g6.2.2.2.2.2.1, g6.2.2.2.2.2.2) := by simp only [FPr_perform, hg6, if_neg h1, if_neg h2, if_neg h3, if_neg h4, if_neg h5, if_pos h6, if_neg h7]
      exact W.iret (v := g6.1) hx hb hr (fun t ht hW => ⟨⟨g6.1, (), rfl, (by show _ = _; rw [e9]), by rw [e9, ht]; exact hP, by rw [e9]; exact hD⟩, hS.F ht⟩) hS.2.2 dPr_perform_155
    · refine lv_aload_n hx hb dPr_perform_143 rfl (lv_at hl 0 rfl) ?_
      refine pq_calli (fr := ((FPr_next rp).1)) (wc := (wP ad cI cS rp re fn fz fc fv rr rw gn gp gh)) (wr := ([] : List Nat).filterMap (fun i => (wP ad cI cS rp re fn fz fc fv rr rw gn gp gh)[i]?)) hP hD hS hA [0, 1, 2, 3, 4] [] rfl rfl (by decide) (by decide) (va_runV (own := RPr) (C := RPr) (As := []) (rest := []) ⟨hx, hb, hml, hown, hw⟩ (k_Pr_next l D ad cI cS rp re fn fz fc fv rr rw gn gp gh s.heap.size) ⟨pq_cwB 0 hw wd_38 wd_33 wd_37 rfl rfl (by decide +kernel) ⟨Nat.le_of_ble_eq_true rfl, Nat.le_of_ble_eq_true rfl⟩, hw _ wd_39, hw _ wd_40⟩ (pq_preV (ci := 2) (C := RPr) (T := TPr) (N := 9) hE (hP.sub [0, 1, 2, 3, 4] rfl) (hD.sub [0, 1, 2, 3, 4] (by decide) rfl) rfl 0 rfl) rfl rfl hl.1 rfl (lv_room (Nat.le_of_ble_eq_true rfl)) dPr_perform_144 ⟨Nat.zero_le _, Nat.zero_le _⟩) (fun H locs hP hD hS => ?_)
      have hP : va_P D vwCl (wP ad cI cS ((FPr_next rp).2) re fn fz fc fv rr rw gn gp gh) H := hP.sub [0, 1, 2, 3, 4] rfl
      have hD : va_D _ (wP ad cI cS ((FPr_next rp).2) re fn fz fc fv rr rw gn gp gh) := hD.sub [0, 1, 2, 3, 4] (by decide) rfl
      refine lv_goto (tgt := 155) hx hb dPr_perform_147 (by decide) ?_
      have e9 : FPr_perform xh rp fn fz fc fv rr rw gn gh = (((FPr_next rp).1), rr, rw, (FPr_next rp).2, fn, fz, fc, fv) := by simp only [FPr_perform, if_neg h1, if_neg h2, if_neg h3, if_neg h4, if_neg h5, if_pos h6, if_pos h7]
      exact W.iret (v := ((FPr_next rp).1)) hx hb hr (fun t ht hW => ⟨⟨((FPr_next rp).1), (), rfl, (by show _ = _; rw [e9]), by rw [e9, ht]; exact hP, by rw [e9]; exact hD⟩, hS.F ht⟩) hS.2.2 dPr_perform_155
  by_cases h8 : (xh >>> ((11 : Int32) &&& 31)) = 9
  · refine lv_tableIn (off := 152) (tgt := 156) hx hb dPr_perform_4 (by rw [h8]; decide) (by rw [h8]; decide) (by rw [h8]; rfl) (by decide) ?_
    refine lv_aload_n hx hb dPr_perform_156 rfl (lv_at hl 0 rfl) ?_
    refine lv_iload_n hx hb dPr_perform_157 rfl (lv_at hl 1 rfl) ?_
    obtain ⟨g7, hg7⟩ : ∃ g9, FPr_loadConstant xh rp rr gn gh = g9 := ⟨_, rfl⟩
    have cg7 := k_Pr_loadConstant l D ad cI cS xh rp re fn fz fc fv rr rw gn gp gh hgn
    rw [hg7] at cg7
    refine pq_calli (fr := g7.1) (wc := (wP ad cI cS rp re fn fz fc fv rr rw gn gp gh)) (wr := ([] : List Nat).filterMap (fun i => (wP ad cI cS rp re fn fz fc fv rr rw gn gp gh)[i]?)) hP hD hS hA [0, 1, 2, 3, 4] [] rfl rfl (by decide) (by decide) (va_runV (own := RPr) (C := RPr) (As := [.int xh]) (rest := []) ⟨hx, hb, hml, hown, hw⟩ (cg7 s.heap.size) ⟨pq_cwB 1 hw wd_82 wd_33 wd_81 rfl rfl (by decide +kernel) ⟨Nat.le_of_ble_eq_true rfl, Nat.le_of_ble_eq_true rfl⟩, hw _ wd_83, hw _ wd_84⟩ (pq_preV (ci := 2) (C := RPr) (T := TPr) (N := 9) hE (hP.sub [0, 1, 2, 3, 4] rfl) (hD.sub [0, 1, 2, 3, 4] (by decide) rfl) rfl 0 rfl) rfl rfl hl.1 rfl (lv_room (Nat.le_of_ble_eq_true rfl)) dPr_perform_158 ⟨Nat.zero_le _, Nat.zero_le _⟩) (fun H locs hP hD hS => ?_)
    have hP : va_P D vwCl (wP ad cI cS g7.2.2 re fn fz fc fv g7.2.1 rw gn gp gh) H := hP.sub [0, 1, 2, 3, 4] rfl
    have hD : va_D _ (wP ad cI cS g7.2.2 re fn fz fc fv g7.2.1 rw gn gp gh) := hD.sub [0, 1, 2, 3, 4] (by decide) rfl
    have e9 : FPr_perform xh rp fn fz fc fv rr rw gn gh = (g7.1, g7.2.1, rw, g7.2.2, fn, fz, fc, fv) := by simp only [FPr_perform, hg7, if_neg h1, if_neg h2, if_neg h3, if_neg h4, if_neg h5, if_neg h6, if_pos h8]
    exact W.iret (v := g7.1) hx hb hr (fun t ht hW => ⟨⟨g7.1, (), rfl, (by show _ = _; rw [e9]), by rw [e9, ht]; exact hP, by rw [e9]; exact hD⟩, hS.F ht⟩) hS.2.2 dPr_perform_161
  by_cases h9 : (xh >>> ((11 : Int32) &&& 31)) = 10
  · refine lv_tableIn (off := 194) (tgt := 198) hx hb dPr_perform_4 (by rw [h9]; decide) (by rw [h9]; decide) (by rw [h9]; rfl) (by decide) ?_
    refine lv_iconst (v := 2) hx hb dPr_perform_198 (by first | rfl | decide) ?_
    have e9 : FPr_perform xh rp fn fz fc fv rr rw gn gh = (2, rr, rw, rp, fn, fz, fc, fv) := by simp only [FPr_perform, if_neg h1, if_neg h2, if_neg h3, if_neg h4, if_neg h5, if_neg h6, if_neg h8, if_pos h9]
    exact W.iret (v := 2) hx hb hr (fun t ht hW => ⟨⟨2, (), rfl, (by show _ = _; rw [e9]), by rw [e9, ht]; exact hP, by rw [e9]; exact hD⟩, hS.F ht⟩) hS.2.2 dPr_perform_199
  by_cases h10 : (xh >>> ((11 : Int32) &&& 31)) = 11
  · refine lv_tableIn (off := 194) (tgt := 198) hx hb dPr_perform_4 (by rw [h10]; decide) (by rw [h10]; decide) (by rw [h10]; rfl) (by decide) ?_
    refine lv_iconst (v := 2) hx hb dPr_perform_198 (by first | rfl | decide) ?_
    have e9 : FPr_perform xh rp fn fz fc fv rr rw gn gh = (2, rr, rw, rp, fn, fz, fc, fv) := by simp only [FPr_perform, if_neg h1, if_neg h2, if_neg h3, if_neg h4, if_neg h5, if_neg h6, if_neg h8, if_neg h9, if_pos h10]
    exact W.iret (v := 2) hx hb hr (fun t ht hW => ⟨⟨2, (), rfl, (by show _ = _; rw [e9]), by rw [e9, ht]; exact hP, by rw [e9]; exact hD⟩, hS.F ht⟩) hS.2.2 dPr_perform_199
  by_cases h11 : (xh >>> ((11 : Int32) &&& 31)) = 12
  · refine lv_tableIn (off := 158) (tgt := 162) hx hb dPr_perform_4 (by rw [h11]; decide) (by rw [h11]; decide) (by rw [h11]; rfl) (by decide) ?_
    refine lv_aload_n hx hb dPr_perform_162 rfl (lv_at hl 0 rfl) ?_
    refine lv_iload_n hx hb dPr_perform_163 rfl (lv_at hl 1 rfl) ?_
    obtain ⟨g8, hg8⟩ : ∃ g9, FPr_storeOrLoad xh rp rr rw = g9 := ⟨_, rfl⟩
    have cg8 := k_Pr_storeOrLoad l D ad cI cS xh rp re fn fz fc fv rr rw gn gp gh
    rw [hg8] at cg8
    refine pq_calli (fr := g8.1) (wc := (wP ad cI cS rp re fn fz fc fv rr rw gn gp gh)) (wr := ([] : List Nat).filterMap (fun i => (wP ad cI cS rp re fn fz fc fv rr rw gn gp gh)[i]?)) hP hD hS hA [0, 1, 2, 3, 4] [] rfl rfl (by decide) (by decide) (va_runV (own := RPr) (C := RPr) (As := [.int xh]) (rest := []) ⟨hx, hb, hml, hown, hw⟩ (cg8 s.heap.size) ⟨pq_cwB 1 hw wd_86 wd_33 wd_85 rfl rfl (by decide +kernel) ⟨Nat.le_of_ble_eq_true rfl, Nat.le_of_ble_eq_true rfl⟩, hw _ wd_87, hw _ wd_88⟩ (pq_preV (ci := 2) (C := RPr) (T := TPr) (N := 9) hE (hP.sub [0, 1, 2, 3, 4] rfl) (hD.sub [0, 1, 2, 3, 4] (by decide) rfl) rfl 0 rfl) rfl rfl hl.1 rfl (lv_room (Nat.le_of_ble_eq_true rfl)) dPr_perform_164 ⟨Nat.zero_le _, Nat.zero_le _⟩) (fun H locs hP hD hS => ?_)
    have hP : va_P D vwCl (wP ad cI cS g8.2.2.2 re fn fz fc fv g8.2.1 g8.2.2.1 gn gp gh) H := hP.sub [0, 1, 2, 3, 4] rfl
    have hD : va_D _ (wP ad cI cS g8.2.2.2 re fn fz fc fv g8.2.1 g8.2.2.1 gn gp gh) := hD.sub [0, 1, 2, 3, 4] (by decide) rfl
    have e9 : FPr_perform xh rp fn fz fc fv rr rw gn gh = (g8.1, g8.2.1, g8.2.2.1, g8.2.2.2, fn, fz, fc, fv) := by simp only [FPr_perform, hg8, if_neg h1, if_neg h2, if_neg h3, if_neg h4, if_neg h5, if_neg h6, if_neg h8, if_neg h9, if_neg h10, if_pos h11]
    exact W.iret (v := g8.1) hx hb hr (fun t ht hW => ⟨⟨g8.1, (), rfl, (by show _ = _; rw [e9]), by rw [e9, ht]; exact hP, by rw [e9]; exact hD⟩, hS.F ht⟩) hS.2.2 dPr_perform_167
  by_cases h12 : (xh >>> ((11 : Int32) &&& 31)) = 13
  · refine lv_tableIn (off := 158) (tgt := 162) hx hb dPr_perform_4 (by rw [h12]; decide) (by rw [h12]; decide) (by rw [h12]; rfl) (by decide) ?_
    refine lv_aload_n hx hb dPr_perform_162 rfl (lv_at hl 0 rfl) ?_
    refine lv_iload_n hx hb dPr_perform_163 rfl (lv_at hl 1 rfl) ?_
    obtain ⟨g9, hg9⟩ : ∃ g9, FPr_storeOrLoad xh rp rr rw = g9 := ⟨_, rfl⟩
    have cg9 := k_Pr_storeOrLoad l D ad cI cS xh rp re fn fz fc fv rr rw gn gp gh
    rw [hg9] at cg9
    refine pq_calli (fr := g9.1) (wc := (wP ad cI cS rp re fn fz fc fv rr rw gn gp gh)) (wr := ([] : List Nat).filterMap (fun i => (wP ad cI cS rp re fn fz fc fv rr rw gn gp gh)[i]?)) hP hD hS hA [0, 1, 2, 3, 4] [] rfl rfl (by decide) (by decide) (va_runV (own := RPr) (C := RPr) (As := [.int xh]) (rest := []) ⟨hx, hb, hml, hown, hw⟩ (cg9 s.heap.size) ⟨pq_cwB 1 hw wd_86 wd_33 wd_85 rfl rfl (by decide +kernel) ⟨Nat.le_of_ble_eq_true rfl, Nat.le_of_ble_eq_true rfl⟩, hw _ wd_87, hw _ wd_88⟩ (pq_preV (ci := 2) (C := RPr) (T := TPr) (N := 9) hE (hP.sub [0, 1, 2, 3, 4] rfl) (hD.sub [0, 1, 2, 3, 4] (by decide) rfl) rfl 0 rfl) rfl rfl hl.1 rfl (lv_room (Nat.le_of_ble_eq_true rfl)) dPr_perform_164 ⟨Nat.zero_le _, Nat.zero_le _⟩) (fun H locs hP hD hS => ?_)
    have hP : va_P D vwCl (wP ad cI cS g9.2.2.2 re fn fz fc fv g9.2.1 g9.2.2.1 gn gp gh) H := hP.sub [0, 1, 2, 3, 4] rfl
    have hD : va_D _ (wP ad cI cS g9.2.2.2 re fn fz fc fv g9.2.1 g9.2.2.1 gn gp gh) := hD.sub [0, 1, 2, 3, 4] (by decide) rfl
    have e9 : FPr_perform xh rp fn fz fc fv rr rw gn gh = (g9.1, g9.2.1, g9.2.2.1, g9.2.2.2, fn, fz, fc, fv) := by simp only [FPr_perform, hg9, if_neg h1, if_neg h2, if_neg h3, if_neg h4, if_neg h5, if_neg h6, if_neg h8, if_neg h9, if_neg h10, if_neg h11, if_pos h12]
    exact W.iret (v := g9.1) hx hb hr (fun t ht hW => ⟨⟨g9.1, (), rfl, (by show _ = _; rw [e9]), by rw [e9, ht]; exact hP, by rw [e9]; exact hD⟩, hS.F ht⟩) hS.2.2 dPr_perform_167
  by_cases h13 : (xh >>> ((11 : Int32) &&& 31)) = 14
  · refine lv_tableIn (off := 194) (tgt := 198) hx hb dPr_perform_4 (by rw [h13]; decide) (by rw [h13]; decide) (by rw [h13]; rfl) (by decide) ?_
    refine lv_iconst (v := 2) hx hb dPr_perform_198 (by first | rfl | decide) ?_
    have e9 : FPr_perform xh rp fn fz fc fv rr rw gn gh = (2, rr, rw, rp, fn, fz, fc, fv) := by simp only [FPr_perform, if_neg h1, if_neg h2, if_neg h3, if_neg h4, if_neg h5, if_neg h6, if_neg h8, if_neg h9, if_neg h10, if_neg h11, if_neg h12, if_pos h13]
    exact W.iret (v := 2) hx hb hr (fun t ht hW => ⟨⟨2, (), rfl, (by show _ = _; rw [e9]), by rw [e9, ht]; exact hP, by rw [e9]; exact hD⟩, hS.F ht⟩) hS.2.2 dPr_perform_199
  by_cases h14 : (xh >>> ((11 : Int32) &&& 31)) = 15
  · refine lv_tableIn (off := 194) (tgt := 198) hx hb dPr_perform_4 (by rw [h14]; decide) (by rw [h14]; decide) (by rw [h14]; rfl) (by decide) ?_
    refine lv_iconst (v := 2) hx hb dPr_perform_198 (by first | rfl | decide) ?_
    have e9 : FPr_perform xh rp fn fz fc fv rr rw gn gh = (2, rr, rw, rp, fn, fz, fc, fv) := by simp only [FPr_perform, if_neg h1, if_neg h2, if_neg h3, if_neg h4, if_neg h5, if_neg h6, if_neg h8, if_neg h9, if_neg h10, if_neg h11, if_neg h12, if_neg h13, if_pos h14]
    exact W.iret (v := 2) hx hb hr (fun t ht hW => ⟨⟨2, (), rfl, (by show _ = _; rw [e9]), by rw [e9, ht]; exact hP, by rw [e9]; exact hD⟩, hS.F ht⟩) hS.2.2 dPr_perform_199
  by_cases h15 : (xh >>> ((11 : Int32) &&& 31)) = 16
  · refine lv_tableIn (off := 194) (tgt := 198) hx hb dPr_perform_4 (by rw [h15]; decide) (by rw [h15]; decide) (by rw [h15]; rfl) (by decide) ?_
    refine lv_iconst (v := 2) hx hb dPr_perform_198 (by first | rfl | decide) ?_
    have e9 : FPr_perform xh rp fn fz fc fv rr rw gn gh = (2, rr, rw, rp, fn, fz, fc, fv) := by simp only [FPr_perform, if_neg h1, if_neg h2, if_neg h3, if_neg h4, if_neg h5, if_neg h6, if_neg h8, if_neg h9, if_neg h10, if_neg h11, if_neg h12, if_neg h13, if_neg h14, if_pos h15]
    exact W.iret (v := 2) hx hb hr (fun t ht hW => ⟨⟨2, (), rfl, (by show _ = _; rw [e9]), by rw [e9, ht]; exact hP, by rw [e9]; exact hD⟩, hS.F ht⟩) hS.2.2 dPr_perform_199
  by_cases h16 : (xh >>> ((11 : Int32) &&& 31)) = 17
  · refine lv_tableIn (off := 194) (tgt := 198) hx hb dPr_perform_4 (by rw [h16]; decide) (by rw [h16]; decide) (by rw [h16]; rfl) (by decide) ?_
    refine lv_iconst (v := 2) hx hb dPr_perform_198 (by first | rfl | decide) ?_
    have e9 : FPr_perform xh rp fn fz fc fv rr rw gn gh = (2, rr, rw, rp, fn, fz, fc, fv) := by simp only [FPr_perform, if_neg h1, if_neg h2, if_neg h3, if_neg h4, if_neg h5, if_neg h6, if_neg h8, if_neg h9, if_neg h10, if_neg h11, if_neg h12, if_neg h13, if_neg h14, if_neg h15, if_pos h16]
    exact W.iret (v := 2) hx hb hr (fun t ht hW => ⟨⟨2, (), rfl, (by show _ = _; rw [e9]), by rw [e9, ht]; exact hP, by rw [e9]; exact hD⟩, hS.F ht⟩) hS.2.2 dPr_perform_199
  by_cases h17 : (xh >>> ((11 : Int32) &&& 31)) = 18
  · refine lv_tableIn (off := 194) (tgt := 198) hx hb dPr_perform_4 (by rw [h17]; decide) (by rw [h17]; decide) (by rw [h17]; rfl) (by decide) ?_
    refine lv_iconst (v := 2) hx hb dPr_perform_198 (by first | rfl | decide) ?_
    have e9 : FPr_perform xh rp fn fz fc fv rr rw gn gh = (2, rr, rw, rp, fn, fz, fc, fv) := by simp only [FPr_perform, if_neg h1, if_neg h2, if_neg h3, if_neg h4, if_neg h5, if_neg h6, if_neg h8, if_neg h9, if_neg h10, if_neg h11, if_neg h12, if_neg h13, if_neg h14, if_neg h15, if_neg h16, if_pos h17]
    exact W.iret (v := 2) hx hb hr (fun t ht hW => ⟨⟨2, (), rfl, (by show _ = _; rw [e9]), by rw [e9, ht]; exact hP, by rw [e9]; exact hD⟩, hS.F ht⟩) hS.2.2 dPr_perform_199
  by_cases h18 : (xh >>> ((11 : Int32) &&& 31)) = 19
  · refine lv_tableIn (off := 194) (tgt := 198) hx hb dPr_perform_4 (by rw [h18]; decide) (by rw [h18]; decide) (by rw [h18]; rfl) (by decide) ?_
    refine lv_iconst (v := 2) hx hb dPr_perform_198 (by first | rfl | decide) ?_
    have e9 : FPr_perform xh rp fn fz fc fv rr rw gn gh = (2, rr, rw, rp, fn, fz, fc, fv) := by simp only [FPr_perform, if_neg h1, if_neg h2, if_neg h3, if_neg h4, if_neg h5, if_neg h6, if_neg h8, if_neg h9, if_neg h10, if_neg h11, if_neg h12, if_neg h13, if_neg h14, if_neg h15, if_neg h16, if_neg h17, if_pos h18]
    exact W.iret (v := 2) hx hb hr (fun t ht hW => ⟨⟨2, (), rfl, (by show _ = _; rw [e9]), by rw [e9, ht]; exact hP, by rw [e9]; exact hD⟩, hS.F ht⟩) hS.2.2 dPr_perform_199
  by_cases h19 : (xh >>> ((11 : Int32) &&& 31)) = 20
  · refine lv_tableIn (off := 194) (tgt := 198) hx hb dPr_perform_4 (by rw [h19]; decide) (by rw [h19]; decide) (by rw [h19]; rfl) (by decide) ?_
    refine lv_iconst (v := 2) hx hb dPr_perform_198 (by first | rfl | decide) ?_
    have e9 : FPr_perform xh rp fn fz fc fv rr rw gn gh = (2, rr, rw, rp, fn, fz, fc, fv) := by simp only [FPr_perform, if_neg h1, if_neg h2, if_neg h3, if_neg h4, if_neg h5, if_neg h6, if_neg h8, if_neg h9, if_neg h10, if_neg h11, if_neg h12, if_neg h13, if_neg h14, if_neg h15, if_neg h16, if_neg h17, if_neg h18, if_pos h19]
    exact W.iret (v := 2) hx hb hr (fun t ht hW => ⟨⟨2, (), rfl, (by show _ = _; rw [e9]), by rw [e9, ht]; exact hP, by rw [e9]; exact hD⟩, hS.F ht⟩) hS.2.2 dPr_perform_199
  by_cases h20 : (xh >>> ((11 : Int32) &&& 31)) = 21
  · refine lv_tableIn (off := 194) (tgt := 198) hx hb dPr_perform_4 (by rw [h20]; decide) (by rw [h20]; decide) (by rw [h20]; rfl) (by decide) ?_
    refine lv_iconst (v := 2) hx hb dPr_perform_198 (by first | rfl | decide) ?_
    have e9 : FPr_perform xh rp fn fz fc fv rr rw gn gh = (2, rr, rw, rp, fn, fz, fc, fv) := by simp only [FPr_perform, if_neg h1, if_neg h2, if_neg h3, if_neg h4, if_neg h5, if_neg h6, if_neg h8, if_neg h9, if_neg h10, if_neg h11, if_neg h12, if_neg h13, if_neg h14, if_neg h15, if_neg h16, if_neg h17, if_neg h18, if_neg h19, if_pos h20]
    exact W.iret (v := 2) hx hb hr (fun t ht hW => ⟨⟨2, (), rfl, (by show _ = _; rw [e9]), by rw [e9, ht]; exact hP, by rw [e9]; exact hD⟩, hS.F ht⟩) hS.2.2 dPr_perform_199
  by_cases h21 : (xh >>> ((11 : Int32) &&& 31)) = 22
  · refine lv_tableIn (off := 194) (tgt := 198) hx hb dPr_perform_4 (by rw [h21]; decide) (by rw [h21]; decide) (by rw [h21]; rfl) (by decide) ?_
    refine lv_iconst (v := 2) hx hb dPr_perform_198 (by first | rfl | decide) ?_
    have e9 : FPr_perform xh rp fn fz fc fv rr rw gn gh = (2, rr, rw, rp, fn, fz, fc, fv) := by simp only [FPr_perform, if_neg h1, if_neg h2, if_neg h3, if_neg h4, if_neg h5, if_neg h6, if_neg h8, if_neg h9, if_neg h10, if_neg h11, if_neg h12, if_neg h13, if_neg h14, if_neg h15, if_neg h16, if_neg h17, if_neg h18, if_neg h19, if_neg h20, if_pos h21]
    exact W.iret (v := 2) hx hb hr (fun t ht hW => ⟨⟨2, (), rfl, (by show _ = _; rw [e9]), by rw [e9, ht]; exact hP, by rw [e9]; exact hD⟩, hS.F ht⟩) hS.2.2 dPr_perform_199
  by_cases h22 : (xh >>> ((11 : Int32) &&& 31)) = 23
  · refine lv_tableIn (off := 164) (tgt := 168) hx hb dPr_perform_4 (by rw [h22]; decide) (by rw [h22]; decide) (by rw [h22]; rfl) (by decide) ?_
    refine lv_iload_n hx hb dPr_perform_168 rfl (lv_at hl 1 rfl) ?_
    refine lv_ldc hx hb hown (hw _ wd_89) dPr_perform_169 ?_
    refine lv_icmp_ne (tgt := 178) hx hb dPr_perform_171 (by decide) (fun h23 => ?_) (fun h23 => ?_)
    · refine lv_iconst (v := 2) hx hb dPr_perform_178 (by first | rfl | decide) ?_
      have e9 : FPr_perform xh rp fn fz fc fv rr rw gn gh = (2, rr, rw, rp, fn, fz, fc, fv) := by simp only [FPr_perform, if_neg h1, if_neg h2, if_neg h3, if_neg h4, if_neg h5, if_neg h6, if_neg h8, if_neg h9, if_neg h10, if_neg h11, if_neg h12, if_neg h13, if_neg h14, if_neg h15, if_neg h16, if_neg h17, if_neg h18, if_neg h19, if_neg h20, if_neg h21, if_pos h22, if_neg h23]
      exact W.iret (v := 2) hx hb hr (fun t ht hW => ⟨⟨2, (), rfl, (by show _ = _; rw [e9]), by rw [e9, ht]; exact hP, by rw [e9]; exact hD⟩, hS.F ht⟩) hS.2.2 dPr_perform_179
    · refine lv_iconst (v := 1) hx hb dPr_perform_174 (by first | rfl | decide) ?_
      refine lv_goto (tgt := 179) hx hb dPr_perform_175 (by decide) ?_
      have e9 : FPr_perform xh rp fn fz fc fv rr rw gn gh = (1, rr, rw, rp, fn, fz, fc, fv) := by simp only [FPr_perform, if_neg h1, if_neg h2, if_neg h3, if_neg h4, if_neg h5, if_neg h6, if_neg h8, if_neg h9, if_neg h10, if_neg h11, if_neg h12, if_neg h13, if_neg h14, if_neg h15, if_neg h16, if_neg h17, if_neg h18, if_neg h19, if_neg h20, if_neg h21, if_pos h22, if_pos h23]
      exact W.iret (v := 1) hx hb hr (fun t ht hW => ⟨⟨1, (), rfl, (by show _ = _; rw [e9]), by rw [e9, ht]; exact hP, by rw [e9]; exact hD⟩, hS.F ht⟩) hS.2.2 dPr_perform_179
  by_cases h24 : (xh >>> ((11 : Int32) &&& 31)) = 24
  · refine lv_tableIn (off := 194) (tgt := 198) hx hb dPr_perform_4 (by rw [h24]; decide) (by rw [h24]; decide) (by rw [h24]; rfl) (by decide) ?_
    refine lv_iconst (v := 2) hx hb dPr_perform_198 (by first | rfl | decide) ?_
    have e9 : FPr_perform xh rp fn fz fc fv rr rw gn gh = (2, rr, rw, rp, fn, fz, fc, fv) := by simp only [FPr_perform, if_neg h1, if_neg h2, if_neg h3, if_neg h4, if_neg h5, if_neg h6, if_neg h8, if_neg h9, if_neg h10, if_neg h11, if_neg h12, if_neg h13, if_neg h14, if_neg h15, if_neg h16, if_neg h17, if_neg h18, if_neg h19, if_neg h20, if_neg h21, if_neg h22, if_pos h24]
    exact W.iret (v := 2) hx hb hr (fun t ht hW => ⟨⟨2, (), rfl, (by show _ = _; rw [e9]), by rw [e9, ht]; exact hP, by rw [e9]; exact hD⟩, hS.F ht⟩) hS.2.2 dPr_perform_199
  by_cases h25 : (xh >>> ((11 : Int32) &&& 31)) = 25
  · refine lv_tableIn (off := 194) (tgt := 198) hx hb dPr_perform_4 (by rw [h25]; decide) (by rw [h25]; decide) (by rw [h25]; rfl) (by decide) ?_
    refine lv_iconst (v := 2) hx hb dPr_perform_198 (by first | rfl | decide) ?_
    have e9 : FPr_perform xh rp fn fz fc fv rr rw gn gh = (2, rr, rw, rp, fn, fz, fc, fv) := by simp only [FPr_perform, if_neg h1, if_neg h2, if_neg h3, if_neg h4, if_neg h5, if_neg h6, if_neg h8, if_neg h9, if_neg h10, if_neg h11, if_neg h12, if_neg h13, if_neg h14, if_neg h15, if_neg h16, if_neg h17, if_neg h18, if_neg h19, if_neg h20, if_neg h21, if_neg h22, if_neg h24, if_pos h25]
    exact W.iret (v := 2) hx hb hr (fun t ht hW => ⟨⟨2, (), rfl, (by show _ = _; rw [e9]), by rw [e9, ht]; exact hP, by rw [e9]; exact hD⟩, hS.F ht⟩) hS.2.2 dPr_perform_199
  by_cases h26 : (xh >>> ((11 : Int32) &&& 31)) = 26
  · refine lv_tableIn (off := 176) (tgt := 180) hx hb dPr_perform_4 (by rw [h26]; decide) (by rw [h26]; decide) (by rw [h26]; rfl) (by decide) ?_
    refine lv_aload_n hx hb dPr_perform_180 rfl (lv_at hl 0 rfl) ?_
    refine lv_iload_n hx hb dPr_perform_181 rfl (lv_at hl 1 rfl) ?_
    refine pq_calli (fr := ((FPr_branchIf xh rp fn fz fc fv).1)) (wc := (wP ad cI cS rp re fn fz fc fv rr rw gn gp gh)) (wr := ([] : List Nat).filterMap (fun i => (wP ad cI cS rp re fn fz fc fv rr rw gn gp gh)[i]?)) hP hD hS hA [0, 1, 2, 3, 4] [] rfl rfl (by decide) (by decide) (va_runV (own := RPr) (C := RPr) (As := [.int xh]) (rest := []) ⟨hx, hb, hml, hown, hw⟩ (k_Pr_branchIf l D ad cI cS xh rp re fn fz fc fv rr rw gn gp gh s.heap.size) ⟨pq_cwB 1 hw wd_91 wd_33 wd_90 rfl rfl (by decide +kernel) ⟨Nat.le_of_ble_eq_true rfl, Nat.le_of_ble_eq_true rfl⟩, hw _ wd_92, hw _ wd_93⟩ (pq_preV (ci := 2) (C := RPr) (T := TPr) (N := 9) hE (hP.sub [0, 1, 2, 3, 4] rfl) (hD.sub [0, 1, 2, 3, 4] (by decide) rfl) rfl 0 rfl) rfl rfl hl.1 rfl (lv_room (Nat.le_of_ble_eq_true rfl)) dPr_perform_182 ⟨Nat.zero_le _, Nat.zero_le _⟩) (fun H locs hP hD hS => ?_)
    have hP : va_P D vwCl (wP ad cI cS ((FPr_branchIf xh rp fn fz fc fv).2) re fn fz fc fv rr rw gn gp gh) H := hP.sub [0, 1, 2, 3, 4] rfl
    have hD : va_D _ (wP ad cI cS ((FPr_branchIf xh rp fn fz fc fv).2) re fn fz fc fv rr rw gn gp gh) := hD.sub [0, 1, 2, 3, 4] (by decide) rfl
    have e9 : FPr_perform xh rp fn fz fc fv rr rw gn gh = (((FPr_branchIf xh rp fn fz fc fv).1), rr, rw, (FPr_branchIf xh rp fn fz fc fv).2, fn, fz, fc, fv) := by simp only [FPr_perform, if_neg h1, if_neg h2, if_neg h3, if_neg h4, if_neg h5, if_neg h6, if_neg h8, if_neg h9, if_neg h10, if_neg h11, if_neg h12, if_neg h13, if_neg h14, if_neg h15, if_neg h16, if_neg h17, if_neg h18, if_neg h19, if_neg h20, if_neg h21, if_neg h22, if_neg h24, if_neg h25, if_pos h26]
    exact W.iret (v := ((FPr_branchIf xh rp fn fz fc fv).1)) hx hb hr (fun t ht hW => ⟨⟨((FPr_branchIf xh rp fn fz fc fv).1), (), rfl, (by show _ = _; rw [e9]), by rw [e9, ht]; exact hP, by rw [e9]; exact hD⟩, hS.F ht⟩) hS.2.2 dPr_perform_185
  by_cases h27 : (xh >>> ((11 : Int32) &&& 31)) = 27
  · refine lv_tableIn (off := 176) (tgt := 180) hx hb dPr_perform_4 (by rw [h27]; decide) (by rw [h27]; decide) (by rw [h27]; rfl) (by decide) ?_
    refine lv_aload_n hx hb dPr_perform_180 rfl (lv_at hl 0 rfl) ?_
    refine lv_iload_n hx hb dPr_perform_181 rfl (lv_at hl 1 rfl) ?_
    refine pq_calli (fr := ((FPr_branchIf xh rp fn fz fc fv).1)) (wc := (wP ad cI cS rp re fn fz fc fv rr rw gn gp gh)) (wr := ([] : List Nat).filterMap (fun i => (wP ad cI cS rp re fn fz fc fv rr rw gn gp gh)[i]?)) hP hD hS hA [0, 1, 2, 3, 4] [] rfl rfl (by decide) (by decide) (va_runV (own := RPr) (C := RPr) (As := [.int xh]) (rest := []) ⟨hx, hb, hml, hown, hw⟩ (k_Pr_branchIf l D ad cI cS xh rp re fn fz fc fv rr rw gn gp gh s.heap.size) ⟨pq_cwB 1 hw wd_91 wd_33 wd_90 rfl rfl (by decide +kernel) ⟨Nat.le_of_ble_eq_true rfl, Nat.le_of_ble_eq_true rfl⟩, hw _ wd_92, hw _ wd_93⟩ (pq_preV (ci := 2) (C := RPr) (T := TPr) (N := 9) hE (hP.sub [0, 1, 2, 3, 4] rfl) (hD.sub [0, 1, 2, 3, 4] (by decide) rfl) rfl 0 rfl) rfl rfl hl.1 rfl (lv_room (Nat.le_of_ble_eq_true rfl)) dPr_perform_182 ⟨Nat.zero_le _, Nat.zero_le _⟩) (fun H locs hP hD hS => ?_)
    have hP : va_P D vwCl (wP ad cI cS ((FPr_branchIf xh rp fn fz fc fv).2) re fn fz fc fv rr rw gn gp gh) H := hP.sub [0, 1, 2, 3, 4] rfl
    have hD : va_D _ (wP ad cI cS ((FPr_branchIf xh rp fn fz fc fv).2) re fn fz fc fv rr rw gn gp gh) := hD.sub [0, 1, 2, 3, 4] (by decide) rfl
    have e9 : FPr_perform xh rp fn fz fc fv rr rw gn gh = (((FPr_branchIf xh rp fn fz fc fv).1), rr, rw, (FPr_branchIf xh rp fn fz fc fv).2, fn, fz, fc, fv) := by simp only [FPr_perform, if_neg h1, if_neg h2, if_neg h3, if_neg h4, if_neg h5, if_neg h6, if_neg h8, if_neg h9, if_neg h10, if_neg h11, if_neg h12, if_neg h13, if_neg h14, if_neg h15, if_neg h16, if_neg h17, if_neg h18, if_neg h19, if_neg h20, if_neg h21, if_neg h22, if_neg h24, if_neg h25, if_neg h26, if_pos h27]
    exact W.iret (v := ((FPr_branchIf xh rp fn fz fc fv).1)) hx hb hr (fun t ht hW => ⟨⟨((FPr_branchIf xh rp fn fz fc fv).1), (), rfl, (by show _ = _; rw [e9]), by rw [e9, ht]; exact hP, by rw [e9]; exact hD⟩, hS.F ht⟩) hS.2.2 dPr_perform_185
  by_cases h28 : (xh >>> ((11 : Int32) &&& 31)) = 28
  · refine lv_tableIn (off := 182) (tgt := 186) hx hb dPr_perform_4 (by rw [h28]; decide) (by rw [h28]; decide) (by rw [h28]; rfl) (by decide) ?_
    refine lv_aload_n hx hb dPr_perform_186 rfl (lv_at hl 0 rfl) ?_
    refine lv_iload_n hx hb dPr_perform_187 rfl (lv_at hl 1 rfl) ?_
    refine lv_bipush (v := 21) hx hb dPr_perform_188 (by first | rfl | decide) ?_
    refine lv_ishl hx hb dPr_perform_190 ?_
    refine lv_bipush (v := 21) hx hb dPr_perform_191 (by first | rfl | decide) ?_
    refine lv_ishr hx hb dPr_perform_193 ?_
    refine pq_calli (fr := ((FPr_branch ((xh <<< ((21 : Int32) &&& 31)) >>> ((21 : Int32) &&& 31)) rp).1)) (wc := (wP ad cI cS rp re fn fz fc fv rr rw gn gp gh)) (wr := ([] : List Nat).filterMap (fun i => (wP ad cI cS rp re fn fz fc fv rr rw gn gp gh)[i]?)) hP hD hS hA [0, 1, 2, 3, 4] [] rfl rfl (by decide) (by decide) (va_runV (own := RPr) (C := RPr) (As := [.int ((xh <<< ((21 : Int32) &&& 31)) >>> ((21 : Int32) &&& 31))]) (rest := []) ⟨hx, hb, hml, hown, hw⟩ (k_Pr_branch l D ad cI cS ((xh <<< ((21 : Int32) &&& 31)) >>> ((21 : Int32) &&& 31)) rp re fn fz fc fv rr rw gn gp gh s.heap.size) ⟨pq_cwB 1 hw wd_42 wd_33 wd_41 rfl rfl (by decide +kernel) ⟨Nat.le_of_ble_eq_true rfl, Nat.le_of_ble_eq_true rfl⟩, hw _ wd_43, hw _ wd_44⟩ (pq_preV (ci := 2) (C := RPr) (T := TPr) (N := 9) hE (hP.sub [0, 1, 2, 3, 4] rfl) (hD.sub [0, 1, 2, 3, 4] (by decide) rfl) rfl 0 rfl) rfl rfl hl.1 rfl (lv_room (Nat.le_of_ble_eq_true rfl)) dPr_perform_194 ⟨Nat.zero_le _, Nat.zero_le _⟩) (fun H locs hP hD hS => ?_)
    have hP : va_P D vwCl (wP ad cI cS ((FPr_branch ((xh <<< ((21 : Int32) &&& 31)) >>> ((21 : Int32) &&& 31)) rp).2) re fn fz fc fv rr rw gn gp gh) H := hP.sub [0, 1, 2, 3, 4] rfl
    have hD : va_D _ (wP ad cI cS ((FPr_branch ((xh <<< ((21 : Int32) &&& 31)) >>> ((21 : Int32) &&& 31)) rp).2) re fn fz fc fv rr rw gn gp gh) := hD.sub [0, 1, 2, 3, 4] (by decide) rfl
    have e9 : FPr_perform xh rp fn fz fc fv rr rw gn gh = (((FPr_branch ((xh <<< ((21 : Int32) &&& 31)) >>> ((21 : Int32) &&& 31)) rp).1), rr, rw, (FPr_branch ((xh <<< ((21 : Int32) &&& 31)) >>> ((21 : Int32) &&& 31)) rp).2, fn, fz, fc, fv) := by simp only [FPr_perform, if_neg h1, if_neg h2, if_neg h3, if_neg h4, if_neg h5, if_neg h6, if_neg h8, if_neg h9, if_neg h10, if_neg h11, if_neg h12, if_neg h13, if_neg h14, if_neg h15, if_neg h16, if_neg h17, if_neg h18, if_neg h19, if_neg h20, if_neg h21, if_neg h22, if_neg h24, if_neg h25, if_neg h26, if_neg h27, if_pos h28]
    exact W.iret (v := ((FPr_branch ((xh <<< ((21 : Int32) &&& 31)) >>> ((21 : Int32) &&& 31)) rp).1)) hx hb hr (fun t ht hW => ⟨⟨((FPr_branch ((xh <<< ((21 : Int32) &&& 31)) >>> ((21 : Int32) &&& 31)) rp).1), (), rfl, (by show _ = _; rw [e9]), by rw [e9, ht]; exact hP, by rw [e9]; exact hD⟩, hS.F ht⟩) hS.2.2 dPr_perform_197
  have th1 := pq_ne (x := xh >>> ((11 : Int32) &&& 31)) (k := 3) (y := 3) (by first | rfl | decide) h1
  have th2 := pq_ne (x := xh >>> ((11 : Int32) &&& 31)) (k := 4) (y := 4) (by first | rfl | decide) h2
  have th3 := pq_ne (x := xh >>> ((11 : Int32) &&& 31)) (k := 5) (y := 5) (by first | rfl | decide) h3
  have th4 := pq_ne (x := xh >>> ((11 : Int32) &&& 31)) (k := 6) (y := 6) (by first | rfl | decide) h4
  have th5 := pq_ne (x := xh >>> ((11 : Int32) &&& 31)) (k := 7) (y := 7) (by first | rfl | decide) h5
  have th6 := pq_ne (x := xh >>> ((11 : Int32) &&& 31)) (k := 8) (y := 8) (by first | rfl | decide) h6
  have th8 := pq_ne (x := xh >>> ((11 : Int32) &&& 31)) (k := 9) (y := 9) (by first | rfl | decide) h8
  have th9 := pq_ne (x := xh >>> ((11 : Int32) &&& 31)) (k := 10) (y := 10) (by first | rfl | decide) h9
  have th10 := pq_ne (x := xh >>> ((11 : Int32) &&& 31)) (k := 11) (y := 11) (by first | rfl | decide) h10
  have th11 := pq_ne (x := xh >>> ((11 : Int32) &&& 31)) (k := 12) (y := 12) (by first | rfl | decide) h11
  have th12 := pq_ne (x := xh >>> ((11 : Int32) &&& 31)) (k := 13) (y := 13) (by first | rfl | decide) h12
  have th13 := pq_ne (x := xh >>> ((11 : Int32) &&& 31)) (k := 14) (y := 14) (by first | rfl | decide) h13
  have th14 := pq_ne (x := xh >>> ((11 : Int32) &&& 31)) (k := 15) (y := 15) (by first | rfl | decide) h14
  have th15 := pq_ne (x := xh >>> ((11 : Int32) &&& 31)) (k := 16) (y := 16) (by first | rfl | decide) h15
  have th16 := pq_ne (x := xh >>> ((11 : Int32) &&& 31)) (k := 17) (y := 17) (by first | rfl | decide) h16
  have th17 := pq_ne (x := xh >>> ((11 : Int32) &&& 31)) (k := 18) (y := 18) (by first | rfl | decide) h17
  have th18 := pq_ne (x := xh >>> ((11 : Int32) &&& 31)) (k := 19) (y := 19) (by first | rfl | decide) h18
  have th19 := pq_ne (x := xh >>> ((11 : Int32) &&& 31)) (k := 20) (y := 20) (by first | rfl | decide) h19
  have th20 := pq_ne (x := xh >>> ((11 : Int32) &&& 31)) (k := 21) (y := 21) (by first | rfl | decide) h20
  have th21 := pq_ne (x := xh >>> ((11 : Int32) &&& 31)) (k := 22) (y := 22) (by first | rfl | decide) h21
  have th22 := pq_ne (x := xh >>> ((11 : Int32) &&& 31)) (k := 23) (y := 23) (by first | rfl | decide) h22
  have th24 := pq_ne (x := xh >>> ((11 : Int32) &&& 31)) (k := 24) (y := 24) (by first | rfl | decide) h24
  have th25 := pq_ne (x := xh >>> ((11 : Int32) &&& 31)) (k := 25) (y := 25) (by first | rfl | decide) h25
  have th26 := pq_ne (x := xh >>> ((11 : Int32) &&& 31)) (k := 26) (y := 26) (by first | rfl | decide) h26
  have th27 := pq_ne (x := xh >>> ((11 : Int32) &&& 31)) (k := 27) (y := 27) (by first | rfl | decide) h27
  have th28 := pq_ne (x := xh >>> ((11 : Int32) &&& 31)) (k := 28) (y := 28) (by first | rfl | decide) h28
  refine lv_tableOut (tgt := 198) hx hb dPr_perform_4 (by omega) (by decide) ?_
  refine lv_iconst (v := 2) hx hb dPr_perform_198 (by first | rfl | decide) ?_
  have e9 : FPr_perform xh rp fn fz fc fv rr rw gn gh = (2, rr, rw, rp, fn, fz, fc, fv) := by simp only [FPr_perform, if_neg h1, if_neg h2, if_neg h3, if_neg h4, if_neg h5, if_neg h6, if_neg h8, if_neg h9, if_neg h10, if_neg h11, if_neg h12, if_neg h13, if_neg h14, if_neg h15, if_neg h16, if_neg h17, if_neg h18, if_neg h19, if_neg h20, if_neg h21, if_neg h22, if_neg h24, if_neg h25, if_neg h26, if_neg h27, if_neg h28]
  exact W.iret (v := 2) hx hb hr (fun t ht hW => ⟨⟨2, (), rfl, (by show _ = _; rw [e9]), by rw [e9, ht]; exact hP, by rw [e9]; exact hD⟩, hS.F ht⟩) hS.2.2 dPr_perform_199
