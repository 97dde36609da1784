theorem wd_227 : Cond.constant RMo 107 48640 ∈ pq_ws := pq_memT 681 (by decide +kernel) (by decide +kernel)
theorem wd_228 : Cond.fieldLink RMo 142 RMo "ended" "I" ∈ pq_ws := pq_memT 565 (by decide +kernel) (by decide +kernel)
theorem wd_229 : Cond.constant RMo 93 57344 ∈ pq_ws := pq_memT 669 (by decide +kernel) (by decide +kernel)
theorem wd_230 : Cond.constant RMo 179 59392 ∈ pq_ws := pq_memT 759 (by decide +kernel) (by decide +kernel)
theorem wd_231 : Cond.code yMo_goal cMo_goal 3 (some .int) ∈ pq_ws := pq_memT 758 (by decide +kernel) (by decide +kernel)
theorem wd_232 : Cond.methodLink RMo 176 yMo_goal ∈ pq_ws := pq_memT 755 (by decide +kernel) (by decide +kernel)
theorem wd_233 : Cond.instanceMethod yMo_goal ∈ pq_ws := pq_memT 757 (by decide +kernel) (by decide +kernel)
theorem wd_234 : Cond.selects RMo yMo_goal yMo_goal ∈ pq_ws := pq_mem (by decide +kernel) (by decide +kernel)
theorem wd_235 : Cond.constant RMo 111 53248 ∈ pq_ws := pq_memT 686 (by decide +kernel) (by decide +kernel)
theorem wd_236 : Cond.code yMo_holds cMo_holds 3 (some .boolean) ∈ pq_ws := pq_memT 754 (by decide +kernel) (by decide +kernel)
theorem wd_237 : Cond.methodLink RMo 173 yMo_holds ∈ pq_ws := pq_memT 751 (by decide +kernel) (by decide +kernel)
theorem wd_238 : Cond.instanceMethod yMo_holds ∈ pq_ws := pq_memT 753 (by decide +kernel) (by decide +kernel)
theorem wd_239 : Cond.selects RMo yMo_holds yMo_holds ∈ pq_ws := pq_mem (by decide +kernel) (by decide +kernel)
theorem wd_240 : Cond.code yMo_memory cMo_memory 3 (some .boolean) ∈ pq_ws := pq_memT 750 (by decide +kernel) (by decide +kernel)
theorem wd_241 : Cond.methodLink RMo 170 yMo_memory ∈ pq_ws := pq_memT 747 (by decide +kernel) (by decide +kernel)
theorem wd_242 : Cond.instanceMethod yMo_memory ∈ pq_ws := pq_memT 749 (by decide +kernel) (by decide +kernel)
theorem wd_243 : Cond.selects RMo yMo_memory yMo_memory ∈ pq_ws := pq_mem (by decide +kernel) (by decide +kernel)
theorem wd_244 : Cond.code yMo_constantTo cMo_constantTo 3 (some .boolean) ∈ pq_ws := pq_memT 746 (by decide +kernel) (by decide +kernel)
theorem wd_245 : Cond.methodLink RMo 167 yMo_constantTo ∈ pq_ws := pq_memT 743 (by decide +kernel) (by decide +kernel)
theorem wd_246 : Cond.instanceMethod yMo_constantTo ∈ pq_ws := pq_memT 745 (by decide +kernel) (by decide +kernel)
theorem wd_247 : Cond.selects RMo yMo_constantTo yMo_constantTo ∈ pq_ws := pq_mem (by decide +kernel) (by decide +kernel)
theorem wd_248 : Cond.code yMo_deed cMo_deed 7 none ∈ pq_ws := pq_memT 742 (by decide +kernel) (by decide +kernel)
theorem wd_249 : Cond.methodLink RMo 164 yMo_deed ∈ pq_ws := pq_memT 739 (by decide +kernel) (by decide +kernel)
theorem wd_250 : Cond.instanceMethod yMo_deed ∈ pq_ws := pq_memT 741 (by decide +kernel) (by decide +kernel)
theorem wd_251 : Cond.selects RMo yMo_deed yMo_deed ∈ pq_ws := pq_mem (by decide +kernel) (by decide +kernel)
theorem wd_252 : Cond.code yMo_small cMo_small 6 none ∈ pq_ws := pq_memT 722 (by decide +kernel) (by decide +kernel)
theorem wd_253 : Cond.methodLink RMo 161 yMo_small ∈ pq_ws := pq_memT 719 (by decide +kernel) (by decide +kernel)
theorem wd_254 : Cond.instanceMethod yMo_small ∈ pq_ws := pq_memT 721 (by decide +kernel) (by decide +kernel)
theorem wd_255 : Cond.selects RMo yMo_small yMo_small ∈ pq_ws := pq_mem (by decide +kernel) (by decide +kernel)
theorem wd_256 : Cond.code yMo_one cMo_one 4 (some .boolean) ∈ pq_ws := pq_memT 718 (by decide +kernel) (by decide +kernel)
theorem wd_257 : Cond.methodLink RMo 183 yMo_one ∈ pq_ws := pq_memT 715 (by decide +kernel) (by decide +kernel)
theorem wd_258 : Cond.instanceMethod yMo_one ∈ pq_ws := pq_memT 717 (by decide +kernel) (by decide +kernel)
theorem wd_259 : Cond.selects RMo yMo_one yMo_one ∈ pq_ws := pq_mem (by decide +kernel) (by decide +kernel)
theorem wd_260 : Cond.code yMo_refuse cMo_refuse 2 (some .int) ∈ pq_ws := pq_memT 714 (by decide +kernel) (by decide +kernel)
theorem wd_261 : Cond.methodLink RMo 180 yMo_refuse ∈ pq_ws := pq_memT 711 (by decide +kernel) (by decide +kernel)
theorem wd_262 : Cond.instanceMethod yMo_refuse ∈ pq_ws := pq_memT 713 (by decide +kernel) (by decide +kernel)
theorem wd_263 : Cond.selects RMo yMo_refuse yMo_refuse ∈ pq_ws := pq_mem (by decide +kernel) (by decide +kernel)
def JMo_one_358 (vn : Int32) (vz : Int32) (vc : Int32) (vv : Int32) (vp : Int32) (ve : Int32) (mi : Nat → Int32) (mr : Nat → Int32) (mw : Nat → Int32) : Int32 × (Nat → Int32) × (Nat → Int32) × Int32 × Int32 × Int32 × Int32 × Int32 × Int32 := if (mi (vp / 2).toNatClampNeg) = 18112 then if (mi (vp / 2).toNatClampNeg) = 48640 then (1, mr, mw, vn, vz, vc, vv, vp, 1) else (1, mr, mw, vn, vz, vc, vv, vp + 2, ve) else if (mi (vp / 2).toNatClampNeg) = 48640 then (1, mr, mw, vn, vz, vc, vv, vp, 1) else (0, mr, mw, vn, vz, vc, vv, vp, ve)
def JMo_one_331 (vn : Int32) (vz : Int32) (vc : Int32) (vv : Int32) (vp : Int32) (ve : Int32) (mi : Nat → Int32) (mr : Nat → Int32) (mw : Nat → Int32) : Int32 × (Nat → Int32) × (Nat → Int32) × Int32 × Int32 × Int32 × Int32 × Int32 × Int32 := if (mi (vp / 2).toNatClampNeg) < 57344 then (JMo_one_358 vn vz vc vv vp ve mi mr mw) else if 59392 ≤ (mi (vp / 2).toNatClampNeg) then (JMo_one_358 vn vz vc vv vp ve mi mr mw) else if (mi (vp / 2).toNatClampNeg) = 48640 then (1, mr, mw, vn, vz, vc, vv, vp, 1) else (1, mr, mw, vn, vz, vc, vv, (FMo_goal ((mi (vp / 2).toNatClampNeg) - 57344) 2048 vp), ve)
def JMo_one_270 (vn : Int32) (vz : Int32) (vc : Int32) (vv : Int32) (vp : Int32) (ve : Int32) (mi : Nat → Int32) (mr : Nat → Int32) (mw : Nat → Int32) : Int32 × (Nat → Int32) × (Nat → Int32) × Int32 × Int32 × Int32 × Int32 × Int32 × Int32 := if (mi (vp / 2).toNatClampNeg) < 53248 then (JMo_one_331 vn vz vc vv vp ve mi mr mw) else if 57344 ≤ (mi (vp / 2).toNatClampNeg) then (JMo_one_331 vn vz vc vv vp ve mi mr mw) else if (FMo_isCondition (((mi (vp / 2).toNatClampNeg) - 53248) / 256)) = 0 then (JMo_one_331 vn vz vc vv vp ve mi mr mw) else if (FMo_holds (((mi (vp / 2).toNatClampNeg) - 53248) / 256) vn vz vc vv) = 0 then if (mi (vp / 2).toNatClampNeg) = 48640 then (1, mr, mw, vn, vz, vc, vv, vp, 1) else (1, mr, mw, vn, vz, vc, vv, vp + 2, ve) else if (mi (vp / 2).toNatClampNeg) = 48640 then (1, mr, mw, vn, vz, vc, vv, vp, 1) else (1, mr, mw, vn, vz, vc, vv, (FMo_goal ((mi (vp / 2).toNatClampNeg) - (mi (vp / 2).toNatClampNeg) / 256 * 256) 256 vp), ve)
def JMo_one_243 (vn : Int32) (vz : Int32) (vc : Int32) (vv : Int32) (vp : Int32) (ve : Int32) (mi : Nat → Int32) (mr : Nat → Int32) (mw : Nat → Int32) : Int32 × (Nat → Int32) × (Nat → Int32) × Int32 × Int32 × Int32 × Int32 × Int32 × Int32 := if (mi (vp / 2).toNatClampNeg) < 24576 then (JMo_one_270 vn vz vc vv vp ve mi mr mw) else if 28672 ≤ (mi (vp / 2).toNatClampNeg) then (JMo_one_270 vn vz vc vv vp ve mi mr mw) else if (mi (vp / 2).toNatClampNeg) = 48640 then if (FMo_memory ((mi (vp / 2).toNatClampNeg) - 24576) mr mw).1 = 0 then ((FMo_memory ((mi (vp / 2).toNatClampNeg) - 24576) mr mw).1, (FMo_memory ((mi (vp / 2).toNatClampNeg) - 24576) mr mw).2.1, (FMo_memory ((mi (vp / 2).toNatClampNeg) - 24576) mr mw).2.2, vn, vz, vc, vv, vp, 1) else ((FMo_memory ((mi (vp / 2).toNatClampNeg) - 24576) mr mw).1, (FMo_memory ((mi (vp / 2).toNatClampNeg) - 24576) mr mw).2.1, (FMo_memory ((mi (vp / 2).toNatClampNeg) - 24576) mr mw).2.2, vn, vz, vc, vv, vp, 1) else if (FMo_memory ((mi (vp / 2).toNatClampNeg) - 24576) mr mw).1 = 0 then ((FMo_memory ((mi (vp / 2).toNatClampNeg) - 24576) mr mw).1, (FMo_memory ((mi (vp / 2).toNatClampNeg) - 24576) mr mw).2.1, (FMo_memory ((mi (vp / 2).toNatClampNeg) - 24576) mr mw).2.2, vn, vz, vc, vv, vp, ve) else ((FMo_memory ((mi (vp / 2).toNatClampNeg) - 24576) mr mw).1, (FMo_memory ((mi (vp / 2).toNatClampNeg) - 24576) mr mw).2.1, (FMo_memory ((mi (vp / 2).toNatClampNeg) - 24576) mr mw).2.2, vn, vz, vc, vv, vp + 2, ve)
def JMo_one_216 (mz : Int32) (vn : Int32) (vz : Int32) (vc : Int32) (vv : Int32) (vp : Int32) (ve : Int32) (mi : Nat → Int32) (mr : Nat → Int32) (mw : Nat → Int32) : Int32 × (Nat → Int32) × (Nat → Int32) × Int32 × Int32 × Int32 × Int32 × Int32 × Int32 := if (mi (vp / 2).toNatClampNeg) < 18432 then (JMo_one_243 vn vz vc vv vp ve mi mr mw) else if 20480 ≤ (mi (vp / 2).toNatClampNeg) then (JMo_one_243 vn vz vc vv vp ve mi mr mw) else if (mi (vp / 2).toNatClampNeg) = 48640 then if ((FMo_constantTo ((mi (vp / 2).toNatClampNeg) - 18432) mz vp mi mr).1) = 0 then (((FMo_constantTo ((mi (vp / 2).toNatClampNeg) - 18432) mz vp mi mr).1), (FMo_constantTo ((mi (vp / 2).toNatClampNeg) - 18432) mz vp mi mr).2, mw, vn, vz, vc, vv, vp, 1) else (((FMo_constantTo ((mi (vp / 2).toNatClampNeg) - 18432) mz vp mi mr).1), (FMo_constantTo ((mi (vp / 2).toNatClampNeg) - 18432) mz vp mi mr).2, mw, vn, vz, vc, vv, vp, 1) else if ((FMo_constantTo ((mi (vp / 2).toNatClampNeg) - 18432) mz vp mi mr).1) = 0 then (((FMo_constantTo ((mi (vp / 2).toNatClampNeg) - 18432) mz vp mi mr).1), (FMo_constantTo ((mi (vp / 2).toNatClampNeg) - 18432) mz vp mi mr).2, mw, vn, vz, vc, vv, vp, ve) else (((FMo_constantTo ((mi (vp / 2).toNatClampNeg) - 18432) mz vp mi mr).1), (FMo_constantTo ((mi (vp / 2).toNatClampNeg) - 18432) mz vp mi mr).2, mw, vn, vz, vc, vv, vp + 2, ve)
def JMo_one_176 (mz : Int32) (vn : Int32) (vz : Int32) (vc : Int32) (vv : Int32) (vp : Int32) (ve : Int32) (mi : Nat → Int32) (mr : Nat → Int32) (mw : Nat → Int32) : Int32 × (Nat → Int32) × (Nat → Int32) × Int32 × Int32 × Int32 × Int32 × Int32 × Int32 := if (mi (vp / 2).toNatClampNeg) < 16384 then (JMo_one_216 mz vn vz vc vv vp ve mi mr mw) else if 17408 ≤ (mi (vp / 2).toNatClampNeg) then (JMo_one_216 mz vn vz vc vv vp ve mi mr mw) else if (FMo_isDeed (((mi (vp / 2).toNatClampNeg) - 16384) / 64)) = 0 then (JMo_one_216 mz vn vz vc vv vp ve mi mr mw) else if (mi (vp / 2).toNatClampNeg) = 48640 then (1, (FMo_deed ((mi (vp / 2).toNatClampNeg) - 16384) vc vv mr).1, mw, (FMo_deed ((mi (vp / 2).toNatClampNeg) - 16384) vc vv mr).2.1, (FMo_deed ((mi (vp / 2).toNatClampNeg) - 16384) vc vv mr).2.2.1, (FMo_deed ((mi (vp / 2).toNatClampNeg) - 16384) vc vv mr).2.2.2.1, (FMo_deed ((mi (vp / 2).toNatClampNeg) - 16384) vc vv mr).2.2.2.2, vp, 1) else (1, (FMo_deed ((mi (vp / 2).toNatClampNeg) - 16384) vc vv mr).1, mw, (FMo_deed ((mi (vp / 2).toNatClampNeg) - 16384) vc vv mr).2.1, (FMo_deed ((mi (vp / 2).toNatClampNeg) - 16384) vc vv mr).2.2.1, (FMo_deed ((mi (vp / 2).toNatClampNeg) - 16384) vc vv mr).2.2.2.1, (FMo_deed ((mi (vp / 2).toNatClampNeg) - 16384) vc vv mr).2.2.2.2, vp + 2, ve)
def JMo_one_122 (mz : Int32) (vn : Int32) (vz : Int32) (vc : Int32) (vv : Int32) (vp : Int32) (ve : Int32) (mi : Nat → Int32) (mr : Nat → Int32) (mw : Nat → Int32) : Int32 × (Nat → Int32) × (Nat → Int32) × Int32 × Int32 × Int32 × Int32 × Int32 × Int32 := if (mi (vp / 2).toNatClampNeg) < 6656 then (JMo_one_176 mz vn vz vc vv vp ve mi mr mw) else if 7168 ≤ (mi (vp / 2).toNatClampNeg) then (JMo_one_176 mz vn vz vc vv vp ve mi mr mw) else if (mi (vp / 2).toNatClampNeg) = 48640 then (1, upd mr ((mi (vp / 2).toNatClampNeg) - (mi (vp / 2).toNatClampNeg) / 8 * 8).toNatClampNeg (FMo_difference (mr (((mi (vp / 2).toNatClampNeg) / 8) - ((mi (vp / 2).toNatClampNeg) / 8) / 8 * 8).toNatClampNeg) (mr (((mi (vp / 2).toNatClampNeg) / 64) - ((mi (vp / 2).toNatClampNeg) / 64) / 8 * 8).toNatClampNeg)).1, mw, (FMo_difference (mr (((mi (vp / 2).toNatClampNeg) / 8) - ((mi (vp / 2).toNatClampNeg) / 8) / 8 * 8).toNatClampNeg) (mr (((mi (vp / 2).toNatClampNeg) / 64) - ((mi (vp / 2).toNatClampNeg) / 64) / 8 * 8).toNatClampNeg)).2.1, (FMo_difference (mr (((mi (vp / 2).toNatClampNeg) / 8) - ((mi (vp / 2).toNatClampNeg) / 8) / 8 * 8).toNatClampNeg) (mr (((mi (vp / 2).toNatClampNeg) / 64) - ((mi (vp / 2).toNatClampNeg) / 64) / 8 * 8).toNatClampNeg)).2.2.1, (FMo_difference (mr (((mi (vp / 2).toNatClampNeg) / 8) - ((mi (vp / 2).toNatClampNeg) / 8) / 8 * 8).toNatClampNeg) (mr (((mi (vp / 2).toNatClampNeg) / 64) - ((mi (vp / 2).toNatClampNeg) / 64) / 8 * 8).toNatClampNeg)).2.2.2.1, (FMo_difference (mr (((mi (vp / 2).toNatClampNeg) / 8) - ((mi (vp / 2).toNatClampNeg) / 8) / 8 * 8).toNatClampNeg) (mr (((mi (vp / 2).toNatClampNeg) / 64) - ((mi (vp / 2).toNatClampNeg) / 64) / 8 * 8).toNatClampNeg)).2.2.2.2, vp, 1) else (1, upd mr ((mi (vp / 2).toNatClampNeg) - (mi (vp / 2).toNatClampNeg) / 8 * 8).toNatClampNeg (FMo_difference (mr (((mi (vp / 2).toNatClampNeg) / 8) - ((mi (vp / 2).toNatClampNeg) / 8) / 8 * 8).toNatClampNeg) (mr (((mi (vp / 2).toNatClampNeg) / 64) - ((mi (vp / 2).toNatClampNeg) / 64) / 8 * 8).toNatClampNeg)).1, mw, (FMo_difference (mr (((mi (vp / 2).toNatClampNeg) / 8) - ((mi (vp / 2).toNatClampNeg) / 8) / 8 * 8).toNatClampNeg) (mr (((mi (vp / 2).toNatClampNeg) / 64) - ((mi (vp / 2).toNatClampNeg) / 64) / 8 * 8).toNatClampNeg)).2.1, (FMo_difference (mr (((mi (vp / 2).toNatClampNeg) / 8) - ((mi (vp / 2).toNatClampNeg) / 8) / 8 * 8).toNatClampNeg) (mr (((mi (vp / 2).toNatClampNeg) / 64) - ((mi (vp / 2).toNatClampNeg) / 64) / 8 * 8).toNatClampNeg)).2.2.1, (FMo_difference (mr (((mi (vp / 2).toNatClampNeg) / 8) - ((mi (vp / 2).toNatClampNeg) / 8) / 8 * 8).toNatClampNeg) (mr (((mi (vp / 2).toNatClampNeg) / 64) - ((mi (vp / 2).toNatClampNeg) / 64) / 8 * 8).toNatClampNeg)).2.2.2.1, (FMo_difference (mr (((mi (vp / 2).toNatClampNeg) / 8) - ((mi (vp / 2).toNatClampNeg) / 8) / 8 * 8).toNatClampNeg) (mr (((mi (vp / 2).toNatClampNeg) / 64) - ((mi (vp / 2).toNatClampNeg) / 64) / 8 * 8).toNatClampNeg)).2.2.2.2, vp + 2, ve)
def JMo_one_68 (mz : Int32) (vn : Int32) (vz : Int32) (vc : Int32) (vv : Int32) (vp : Int32) (ve : Int32) (mi : Nat → Int32) (mr : Nat → Int32) (mw : Nat → Int32) : Int32 × (Nat → Int32) × (Nat → Int32) × Int32 × Int32 × Int32 × Int32 × Int32 × Int32 := if (mi (vp / 2).toNatClampNeg) < 6144 then (JMo_one_122 mz vn vz vc vv vp ve mi mr mw) else if 6656 ≤ (mi (vp / 2).toNatClampNeg) then (JMo_one_122 mz vn vz vc vv vp ve mi mr mw) else if (mi (vp / 2).toNatClampNeg) = 48640 then (1, upd mr ((mi (vp / 2).toNatClampNeg) - (mi (vp / 2).toNatClampNeg) / 8 * 8).toNatClampNeg (FMo_sum (mr (((mi (vp / 2).toNatClampNeg) / 8) - ((mi (vp / 2).toNatClampNeg) / 8) / 8 * 8).toNatClampNeg) (mr (((mi (vp / 2).toNatClampNeg) / 64) - ((mi (vp / 2).toNatClampNeg) / 64) / 8 * 8).toNatClampNeg)).1, mw, (FMo_sum (mr (((mi (vp / 2).toNatClampNeg) / 8) - ((mi (vp / 2).toNatClampNeg) / 8) / 8 * 8).toNatClampNeg) (mr (((mi (vp / 2).toNatClampNeg) / 64) - ((mi (vp / 2).toNatClampNeg) / 64) / 8 * 8).toNatClampNeg)).2.1, (FMo_sum (mr (((mi (vp / 2).toNatClampNeg) / 8) - ((mi (vp / 2).toNatClampNeg) / 8) / 8 * 8).toNatClampNeg) (mr (((mi (vp / 2).toNatClampNeg) / 64) - ((mi (vp / 2).toNatClampNeg) / 64) / 8 * 8).toNatClampNeg)).2.2.1, (FMo_sum (mr (((mi (vp / 2).toNatClampNeg) / 8) - ((mi (vp / 2).toNatClampNeg) / 8) / 8 * 8).toNatClampNeg) (mr (((mi (vp / 2).toNatClampNeg) / 64) - ((mi (vp / 2).toNatClampNeg) / 64) / 8 * 8).toNatClampNeg)).2.2.2.1, (FMo_sum (mr (((mi (vp / 2).toNatClampNeg) / 8) - ((mi (vp / 2).toNatClampNeg) / 8) / 8 * 8).toNatClampNeg) (mr (((mi (vp / 2).toNatClampNeg) / 64) - ((mi (vp / 2).toNatClampNeg) / 64) / 8 * 8).toNatClampNeg)).2.2.2.2, vp, 1) else (1, upd mr ((mi (vp / 2).toNatClampNeg) - (mi (vp / 2).toNatClampNeg) / 8 * 8).toNatClampNeg (FMo_sum (mr (((mi (vp / 2).toNatClampNeg) / 8) - ((mi (vp / 2).toNatClampNeg) / 8) / 8 * 8).toNatClampNeg) (mr (((mi (vp / 2).toNatClampNeg) / 64) - ((mi (vp / 2).toNatClampNeg) / 64) / 8 * 8).toNatClampNeg)).1, mw, (FMo_sum (mr (((mi (vp / 2).toNatClampNeg) / 8) - ((mi (vp / 2).toNatClampNeg) / 8) / 8 * 8).toNatClampNeg) (mr (((mi (vp / 2).toNatClampNeg) / 64) - ((mi (vp / 2).toNatClampNeg) / 64) / 8 * 8).toNatClampNeg)).2.1, (FMo_sum (mr (((mi (vp / 2).toNatClampNeg) / 8) - ((mi (vp / 2).toNatClampNeg) / 8) / 8 * 8).toNatClampNeg) (mr (((mi (vp / 2).toNatClampNeg) / 64) - ((mi (vp / 2).toNatClampNeg) / 64) / 8 * 8).toNatClampNeg)).2.2.1, (FMo_sum (mr (((mi (vp / 2).toNatClampNeg) / 8) - ((mi (vp / 2).toNatClampNeg) / 8) / 8 * 8).toNatClampNeg) (mr (((mi (vp / 2).toNatClampNeg) / 64) - ((mi (vp / 2).toNatClampNeg) / 64) / 8 * 8).toNatClampNeg)).2.2.2.1, (FMo_sum (mr (((mi (vp / 2).toNatClampNeg) / 8) - ((mi (vp / 2).toNatClampNeg) / 8) / 8 * 8).toNatClampNeg) (mr (((mi (vp / 2).toNatClampNeg) / 64) - ((mi (vp / 2).toNatClampNeg) / 64) / 8 * 8).toNatClampNeg)).2.2.2.2, vp + 2, ve)
def FMo_one (mz : Int32) (vn : Int32) (vz : Int32) (vc : Int32) (vv : Int32) (vp : Int32) (ve : Int32) (mi : Nat → Int32) (mr : Nat → Int32) (mw : Nat → Int32) : Int32 × (Nat → Int32) × (Nat → Int32) × Int32 × Int32 × Int32 × Int32 × Int32 × Int32 := if (FMo_outside vp 0 ((2 * mz) - 1)) = 0 then if (mi (vp / 2).toNatClampNeg) < 8192 then (JMo_one_68 mz vn vz vc vv vp ve mi mr mw) else if 16384 ≤ (mi (vp / 2).toNatClampNeg) then (JMo_one_68 mz vn vz vc vv vp ve mi mr mw) else if (mi (vp / 2).toNatClampNeg) = 48640 then (1, (FMo_small ((mi (vp / 2).toNatClampNeg) - 8192) vc vv mr).1, mw, (FMo_small ((mi (vp / 2).toNatClampNeg) - 8192) vc vv mr).2.1, (FMo_small ((mi (vp / 2).toNatClampNeg) - 8192) vc vv mr).2.2.1, (FMo_small ((mi (vp / 2).toNatClampNeg) - 8192) vc vv mr).2.2.2.1, (FMo_small ((mi (vp / 2).toNatClampNeg) - 8192) vc vv mr).2.2.2.2, vp, 1) else (1, (FMo_small ((mi (vp / 2).toNatClampNeg) - 8192) vc vv mr).1, mw, (FMo_small ((mi (vp / 2).toNatClampNeg) - 8192) vc vv mr).2.1, (FMo_small ((mi (vp / 2).toNatClampNeg) - 8192) vc vv mr).2.2.1, (FMo_small ((mi (vp / 2).toNatClampNeg) - 8192) vc vv mr).2.2.2.1, (FMo_small ((mi (vp / 2).toNatClampNeg) - 8192) vc vv mr).2.2.2.2, vp + 2, ve) else (0, mr, mw, vn, vz, vc, vv, vp, ve)
set_option maxHeartbeats 4000000 in
set_option maxRecDepth 100000 in
theorem k_Mo_one (l : Launch) (D : va_G) (ad : Nat → Nat) (cI cS : ClassId) (mq : Int32) (mn : Int32) (me : Int32) (mo : Int32) (mt : Int32) (mx : Int32) (mp : Int32) (mz : Int32) (mu : Int32) (vn : Int32) (vz : Int32) (vc : Int32) (vv : Int32) (vp : Int32) (ve : Int32) (mK : Nat → Int32) (mA : Nat → Int32) (mB : Nat → Int32) (mC : Nat → Int32) (mf : Nat → Int32) (ml : Nat → Int32) (mc : Nat → Int32) (mL : Nat → Int32) (md : Nat → Int32) (mi : Nat → Int32) (mr : Nat → Int32) (mw : Nat → Int32) (hmz0 : ¬ mz < 0) (hmz : mz.toInt ≤ 7200) (bn : narrow .boolean (.int vn) = .int vn) (bz : narrow .boolean (.int vz) = .int vz) (bc : narrow .boolean (.int vc) = .int vc) : pq_IP l yMo_one (.code yMo_one cMo_one 4 (some .boolean) :: pq_ws) { frames := 3, cells := 0, slots := 0, locals := 69 } D cI cS [.ref (ad 17)] (wM ad cI cS mq mn me mo mt mx mp mz mu vn vz vc vv vp ve mK mA mB mC mf ml mc mL md mi mr mw) ((narrow .boolean (.int ((FMo_one mz vn vz vc vv vp ve mi mr mw).2.2.2.1)) = .int ((FMo_one mz vn vz vc vv vp ve mi mr mw).2.2.2.1)) ∧ (narrow .boolean (.int ((FMo_one mz vn vz vc vv vp ve mi mr mw).2.2.2.2.1)) = .int ((FMo_one mz vn vz vc vv vp ve mi mr mw).2.2.2.2.1)) ∧ (narrow .boolean (.int ((FMo_one mz vn vz vc vv vp ve mi mr mw).2.2.2.2.2.1)) = .int ((FMo_one mz vn vz vc vv vp ve mi mr mw).2.2.2.2.2.1))) ((FMo_one mz vn vz vc vv vp ve mi mr mw).1) (wM ad cI cS mq mn me mo mt mx mp mz mu ((FMo_one mz vn vz vc vv vp ve mi mr mw).2.2.2.1) ((FMo_one mz vn vz vc vv vp ve mi mr mw).2.2.2.2.1) ((FMo_one mz vn vz vc vv vp ve mi mr mw).2.2.2.2.2.1) ((FMo_one mz vn vz vc vv vp ve mi mr mw).2.2.2.2.2.2.1) ((FMo_one mz vn vz vc vv vp ve mi mr mw).2.2.2.2.2.2.2.1) ((FMo_one mz vn vz vc vv vp ve mi mr mw).2.2.2.2.2.2.2.2) mK mA mB mC mf ml mc mL md mi ((FMo_one mz vn vz vc vv vp ve mi mr mw).2.1) ((FMo_one mz vn vz vc vv vp ve mi mr mw).2.2.1)) := by
  intro sz
  refine Met.ofW (cc := cMo_one) (maxL := 4) (ret := (some .boolean)) (by decide) rfl ?_
  intro p e s m args below meth c s₁ B hml hv
  obtain ⟨rfl, hsz, hP, hD0, hE⟩ := hv
  have hx := B.exec
  have hb := B.bytes
  have hr := B.returns
  have hts := atoms_spec (ws := (.code yMo_one cMo_one 4 (some .boolean) :: pq_ws : List Cond)) B.pre
  have hw : ∀ w ∈ pq_ws, w.before _ s = true := fun w h => hts w (List.mem_cons_of_mem _ h)
  have hown : s.vm.findClass RMo = some m.cls := findClass_of_methodNamed B.named
  have hlocks := B.notSynchronized
  subst hsz
  have hD := hD0.self (sz := s.heap.size)
  have hA : ∀ q : Nat, s.heap.size ≤ q → va_A (wM ad cI cS mq mn me mo mt mx mp mz mu vn vz vc vv vp ve mK mA mB mC mf ml mc mL md mi mr mw) s.heap.size q := fun q h => Or.inr h
  have hS : va_S (va_A (wM ad cI cS mq mn me mo mt mx mp mz mu vn vz vc vv vp ve mK mA mB mC mf ml mc mL md mi mr mw) s.heap.size) s.heap s.heap [] := va_S.rf
  have hl := lv_entry ([.ref (ad 17)] : List Value) (n := 4) (Nat.le_of_ble_eq_true rfl)
  rw [lg_entry_eq]
  generalize (lg_sl ([.ref (ad 17)] : List Value) ++ List.replicate (4 - (lg_sl ([.ref (ad 17)] : List Value)).length) Slot.unset).toArray = ls at hl ⊢
  have hl : lv_has ls 4 [(0, .ref (ad 17))] := hl
  refine lv_aload_n hx hb dMo_one_0 rfl (lv_at hl 0 rfl) ?_
  refine va_get (D := D) (ci := 5) (v := .int vp) (C := RMo) (T := TMo) (N := 27) hx hb hw pinMo hown hE.1 hP 0 rfl rfl 25 (by decide) (hw _ wd_212) (fun _ h9 => h9) rfl dMo_one_1 ?_
  refine lv_iconst (v := 0) hx hb dMo_one_4 (by first | rfl | decide) ?_
  refine lv_iconst (v := 2) hx hb dMo_one_5 (by first | rfl | decide) ?_
  refine lv_aload_n hx hb dMo_one_6 rfl (lv_at hl 0 rfl) ?_
  refine va_get (D := D) (ci := 5) (v := .int mz) (C := RMo) (T := TMo) (N := 27) hx hb hw pinMo hown hE.1 hP 0 rfl rfl 16 (by decide) (hw _ wd_199) (fun _ h9 => h9) rfl dMo_one_7 ?_
  refine lv_imul hx hb dMo_one_10 ?_
  refine lv_iconst (v := 1) hx hb dMo_one_11 (by first | rfl | decide) ?_
  refine lv_isub hx hb dMo_one_12 ?_
  refine pq_calli (fr := (FMo_outside vp 0 ((2 * mz) - 1))) (wc := (wN ad cI cS)) (wr := ([0, 1, 2, 3, 4, 5, 6, 7, 8, 9, 10, 11, 12] : List Nat).filterMap (fun i => (wM ad cI cS mq mn me mo mt mx mp mz mu vn vz vc vv vp ve mK mA mB mC mf ml mc mL md mi mr mw)[i]?)) hP hD hS hA [] [0, 1, 2, 3, 4, 5, 6, 7, 8, 9, 10, 11, 12] rfl rfl (by decide) (by decide) (va_runS (own := RMo) (As := [.int vp, .int 0, .int ((2 * mz) - 1)]) (rest := []) ⟨hx, hb, hml, hown, hw⟩ (k_Mo_outside l D ad cI cS vp 0 ((2 * mz) - 1) s.heap.size) ⟨pq_cwB 3 hw wd_187 wd_186 wd_185 rfl rfl (by decide +kernel) ⟨Nat.le_of_ble_eq_true rfl, Nat.le_of_ble_eq_true rfl⟩, hw _ wd_188⟩ (pq_preS hE (hP.sub [] rfl) (hD.sub [] (by decide) rfl)) rfl rfl hl.1 rfl (lv_room (Nat.le_of_ble_eq_true rfl)) dMo_one_13 ⟨Nat.zero_le _, Nat.zero_le _⟩) (fun H locs hP hD hS => ?_)
  have hP : va_P D vwCl (wM ad cI cS mq mn me mo mt mx mp mz mu vn vz vc vv vp ve mK mA mB mC mf ml mc mL md mi mr mw) H := hP.sub [0, 1, 2, 3, 4, 5, 6, 7, 8, 9, 10, 11, 12] rfl
  have hD : va_D _ (wM ad cI cS mq mn me mo mt mx mp mz mu vn vz vc vv vp ve mK mA mB mC mf ml mc mL md mi mr mw) := hD.sub [0, 1, 2, 3, 4, 5, 6, 7, 8, 9, 10, 11, 12] (by decide) rfl
  refine lv_if_eq (tgt := 21) hx hb dMo_one_16 (by decide) (fun h1 => ?_) (fun h1 => ?_)
  · refine lv_aload_n hx hb dMo_one_21 rfl (lv_at hl 0 rfl) ?_
    refine va_get (D := D) (ci := 5) (v := .ref (ad 27)) (C := RMo) (T := TMo) (N := 27) hx hb hw pinMo hown hE.1 hP 0 rfl rfl 18 (by decide) (hw _ wd_226) (fun _ h9 => h9) rfl dMo_one_22 ?_
    refine lv_aload_n hx hb dMo_one_25 rfl (lv_at hl 0 rfl) ?_
    refine va_get (D := D) (ci := 5) (v := .int vp) (C := RMo) (T := TMo) (N := 27) hx hb hw pinMo hown hE.1 hP 0 rfl rfl 25 (by decide) (hw _ wd_212) (fun _ h9 => h9) rfl dMo_one_26 ?_
    refine lv_iconst (v := 2) hx hb dMo_one_29 (by first | rfl | decide) ?_
    refine lv_idiv hx hb dMo_one_30 (by decide) ?_
    refine va_iald hx hb hE.1 hP 10 0 rfl rfl (pq_vp2 hmz0 hmz (by assumption)) dMo_one_31 ?_
    refine lv_istore_n (lv' := [(1, .int (mi (vp / 2).toNatClampNeg)), (0, .ref (ad 17))]) hx hb dMo_one_32 rfl hl (by decide) rfl (fun ls hl => ?_)
    refine lv_aload_n hx hb dMo_one_33 rfl (lv_at hl 1 rfl) ?_
    refine va_get (D := D) (ci := 5) (v := .int vp) (C := RMo) (T := TMo) (N := 27) hx hb hw pinMo hown hE.1 hP 0 rfl rfl 25 (by decide) (hw _ wd_212) (fun _ h9 => h9) rfl dMo_one_34 ?_
    refine lv_iconst (v := 2) hx hb dMo_one_37 (by first | rfl | decide) ?_
    refine lv_iadd hx hb dMo_one_38 ?_
    refine lv_istore_n (lv' := [(2, .int (vp + 2)), (1, .int (mi (vp / 2).toNatClampNeg)), (0, .ref (ad 17))]) hx hb dMo_one_39 rfl hl (by decide) rfl (fun ls hl => ?_)
    refine lv_iconst (v := 1) hx hb dMo_one_40 (by first | rfl | decide) ?_
    refine lv_istore_n (lv' := [(3, .int 1), (2, .int (vp + 2)), (1, .int (mi (vp / 2).toNatClampNeg)), (0, .ref (ad 17))]) hx hb dMo_one_41 rfl hl (by decide) rfl (fun ls hl => ?_)
    have j358 : ∀ (ls : Array Slot) (H : Heap) (locs : List Loc), FMo_one mz vn vz vc vv vp ve mi mr mw = JMo_one_358 vn vz vc vv vp ve mi mr mw → lv_has ls 4 [(3, .int 1), (2, .int (vp + 2)), (1, .int (mi (vp / 2).toNatClampNeg)), (0, .ref (ad 17))] → va_P D vwCl (wM ad cI cS mq mn me mo mt mx mp mz mu vn vz vc vv vp ve mK mA mB mC mf ml mc mL md mi mr mw) H → va_D (va_A (wM ad cI cS mq mn me mo mt mx mp mz mu vn vz vc vv vp ve mK mA mB mC mf ml mc mL md mi mr mw) s.heap.size) (wM ad cI cS mq mn me mo mt mx mp mz mu vn vz vc vv vp ve mK mA mB mC mf ml mc mL md mi mr mw) → va_S (va_A (wM ad cI cS mq mn me mo mt mx mp mz mu vn vz vc vv vp ve mK mA mB mC mf ml mc mL md mi mr mw) s.heap.size) s.heap H locs → W p l e (headSpec (.code yMo_one cMo_one 4 (some .boolean) :: pq_ws) { frames := 3, cells := 0, slots := 0, locals := 69 }).room s m ([.ref (ad 17)] : List Value).toArray below meth c H locs 0 0 (MQ below (va_Qi (fun (r : Int32) (_ : Unit) => r = ((FMo_one mz vn vz vc vv vp ve mi mr mw).1) ∧ ((narrow .boolean (.int ((FMo_one mz vn vz vc vv vp ve mi mr mw).2.2.2.1)) = .int ((FMo_one mz vn vz vc vv vp ve mi mr mw).2.2.2.1)) ∧ (narrow .boolean (.int ((FMo_one mz vn vz vc vv vp ve mi mr mw).2.2.2.2.1)) = .int ((FMo_one mz vn vz vc vv vp ve mi mr mw).2.2.2.2.1)) ∧ (narrow .boolean (.int ((FMo_one mz vn vz vc vv vp ve mi mr mw).2.2.2.2.2.1)) = .int ((FMo_one mz vn vz vc vv vp ve mi mr mw).2.2.2.2.2.1)))) (pq_B D (wM ad cI cS mq mn me mo mt mx mp mz mu vn vz vc vv vp ve mK mA mB mC mf ml mc mL md mi mr mw) s.heap.size (fun _ => (wM ad cI cS mq mn me mo mt mx mp mz mu ((FMo_one mz vn vz vc vv vp ve mi mr mw).2.2.2.1) ((FMo_one mz vn vz vc vv vp ve mi mr mw).2.2.2.2.1) ((FMo_one mz vn vz vc vv vp ve mi mr mw).2.2.2.2.2.1) ((FMo_one mz vn vz vc vv vp ve mi mr mw).2.2.2.2.2.2.1) ((FMo_one mz vn vz vc vv vp ve mi mr mw).2.2.2.2.2.2.2.1) ((FMo_one mz vn vz vc vv vp ve mi mr mw).2.2.2.2.2.2.2.2) mK mA mB mC mf ml mc mL md mi ((FMo_one mz vn vz vc vv vp ve mi mr mw).2.1) ((FMo_one mz vn vz vc vv vp ve mi mr mw).2.2.1)))) (va_A (wM ad cI cS mq mn me mo mt mx mp mz mu vn vz vc vv vp ve mK mA mB mC mf ml mc mL md mi mr mw) s.heap.size)) ([.ref (ad 17)] : List Value).toArray s 0 0 (va_A (wM ad cI cS mq mn me mo mt mx mp mz mu vn vz vc vv vp ve mK mA mB mC mf ml mc mL md mi mr mw) s.heap.size)) (F0 m 358 ls []) := by
      intro ls H locs hF hl hP hD hS
      refine lv_iload_n hx hb dMo_one_358 rfl (lv_at hl 2 rfl) ?_
      refine lv_sipush (v := 18112) hx hb dMo_one_359 (by first | rfl | decide) ?_
      refine lv_icmp_eq (tgt := 371) hx hb dMo_one_362 (by decide) (fun h2 => ?_) (fun h2 => ?_)
      · refine lv_iconst (v := 1) hx hb dMo_one_371 (by first | rfl | decide) ?_
        refine lv_goto (tgt := 376) hx hb dMo_one_372 (by decide) ?_
        refine lv_istore_n (lv' := [(3, .int 1), (2, .int (vp + 2)), (1, .int (mi (vp / 2).toNatClampNeg)), (0, .ref (ad 17))]) hx hb dMo_one_376 rfl hl (by decide) rfl (fun ls hl => ?_)
        refine lv_iload_n hx hb dMo_one_377 rfl (lv_at hl 2 rfl) ?_
        refine lv_ldc hx hb hown (hw _ wd_227) dMo_one_378 ?_
        refine lv_icmp_ne (tgt := 388) hx hb dMo_one_380 (by decide) (fun h3 => ?_) (fun h3 => ?_)
        · refine lv_aload_n hx hb dMo_one_388 rfl (lv_at hl 3 rfl) ?_
          refine lv_iload_n hx hb dMo_one_389 rfl (lv_at hl 0 rfl) ?_
          refine lv_if_eq (tgt := 403) hx hb dMo_one_390 (by decide) (fun h9 => absurd h9 (by decide)) (fun _ => ?_)
          refine lv_iload_n hx hb dMo_one_393 rfl (lv_at hl 2 rfl) ?_
          refine lv_ldc hx hb hown (hw _ wd_227) dMo_one_394 ?_
          refine lv_icmp_eq (tgt := 403) hx hb dMo_one_396 (by decide) (fun h9 => absurd h9 h3) (fun _ => ?_)
          refine lv_iload_n hx hb dMo_one_399 rfl (lv_at hl 1 rfl) ?_
          refine lv_goto (tgt := 407) hx hb dMo_one_400 (by decide) ?_
          refine va_put (D := D) (ci := 5) (v := .int (vp + 2)) (ty := .int) (C := RMo) (T := TMo) (N := 27) hx hb hw pinMo tyMo tyMo_ok nmMo hown hE.1 hP hD hS 0 rfl rfl 25 (by decide) (hw _ wd_212) (fun _ h9 => h9) rfl (by decide +kernel) rfl rfl (Nat.le_of_ble_eq_true rfl) dMo_one_407 (fun H locs hP hD hS => ?_)
          have hP : va_P D vwCl (wM ad cI cS mq mn me mo mt mx mp mz mu vn vz vc vv (vp + 2) ve mK mA mB mC mf ml mc mL md mi mr mw) H := hP
          have hD : va_D _ (wM ad cI cS mq mn me mo mt mx mp mz mu vn vz vc vv (vp + 2) ve mK mA mB mC mf ml mc mL md mi mr mw) := hD
          refine lv_iload_n hx hb dMo_one_410 rfl (lv_at hl 0 rfl) ?_
          have e9 : FMo_one mz vn vz vc vv vp ve mi mr mw = (1, mr, mw, vn, vz, vc, vv, vp + 2, ve) := by rw [hF]; simp only [JMo_one_358, if_pos h2, if_neg h3]
          have p9 : (narrow .boolean (.int vn) = .int vn) ∧ (narrow .boolean (.int vz) = .int vz) ∧ (narrow .boolean (.int vc) = .int vc) := ⟨by first | with_reducible assumption | exact pq_b0 | exact pq_b1 | assumption, by first | with_reducible assumption | exact pq_b0 | exact pq_b1 | assumption, by first | with_reducible assumption | exact pq_b0 | exact pq_b1 | assumption⟩
          exact W.zret (v := 1) hx hb hr rfl (fun t ht hW => ⟨⟨1, (), rfl, ⟨by show _ = _; rw [e9], by rw [e9]; exact p9⟩, by rw [e9, ht]; exact hP, by rw [e9]; exact hD⟩, hS.F ht⟩) hS.2.2 dMo_one_411
        · refine lv_aload_n hx hb dMo_one_383 rfl (lv_at hl 3 rfl) ?_
          refine lv_iconst (v := 1) hx hb dMo_one_384 (by first | rfl | decide) ?_
          refine va_put (D := D) (ci := 5) (v := .int 1) (ty := .int) (C := RMo) (T := TMo) (N := 27) hx hb hw pinMo tyMo tyMo_ok nmMo hown hE.1 hP hD hS 0 rfl rfl 26 (by decide) (hw _ wd_228) (fun _ h9 => h9) rfl (by decide +kernel) rfl rfl (Nat.le_of_ble_eq_true rfl) dMo_one_385 (fun H locs hP hD hS => ?_)
          have hP : va_P D vwCl (wM ad cI cS mq mn me mo mt mx mp mz mu vn vz vc vv vp 1 mK mA mB mC mf ml mc mL md mi mr mw) H := hP
          have hD : va_D _ (wM ad cI cS mq mn me mo mt mx mp mz mu vn vz vc vv vp 1 mK mA mB mC mf ml mc mL md mi mr mw) := hD
          refine lv_aload_n hx hb dMo_one_388 rfl (lv_at hl 3 rfl) ?_
          refine lv_iload_n hx hb dMo_one_389 rfl (lv_at hl 0 rfl) ?_
          refine lv_if_eq (tgt := 403) hx hb dMo_one_390 (by decide) (fun h9 => absurd h9 (by decide)) (fun _ => ?_)
          refine lv_iload_n hx hb dMo_one_393 rfl (lv_at hl 2 rfl) ?_
          refine lv_ldc hx hb hown (hw _ wd_227) dMo_one_394 ?_
          refine lv_icmp_eq (tgt := 403) hx hb dMo_one_396 (by decide) (fun _ => ?_) (fun h9 => absurd h3 h9)
          refine lv_aload_n hx hb dMo_one_403 rfl (lv_at hl 3 rfl) ?_
          refine va_get (D := D) (ci := 5) (v := .int vp) (C := RMo) (T := TMo) (N := 27) hx hb hw pinMo hown hE.1 hP 0 rfl rfl 25 (by decide) (hw _ wd_212) (fun _ h9 => h9) rfl dMo_one_404 ?_
          refine va_put (D := D) (ci := 5) (v := .int vp) (ty := .int) (C := RMo) (T := TMo) (N := 27) hx hb hw pinMo tyMo tyMo_ok nmMo hown hE.1 hP hD hS 0 rfl rfl 25 (by decide) (hw _ wd_212) (fun _ h9 => h9) rfl (by decide +kernel) rfl rfl (Nat.le_of_ble_eq_true rfl) dMo_one_407 (fun H locs hP hD hS => ?_)
          have hP : va_P D vwCl (wM ad cI cS mq mn me mo mt mx mp mz mu vn vz vc vv vp 1 mK mA mB mC mf ml mc mL md mi mr mw) H := hP
          have hD : va_D _ (wM ad cI cS mq mn me mo mt mx mp mz mu vn vz vc vv vp 1 mK mA mB mC mf ml mc mL md mi mr mw) := hD
          refine lv_iload_n hx hb dMo_one_410 rfl (lv_at hl 0 rfl) ?_
          have e9 : FMo_one mz vn vz vc vv vp ve mi mr mw = (1, mr, mw, vn, vz, vc, vv, vp, 1) := by rw [hF]; simp only [JMo_one_358, if_pos h2, if_pos h3]
          have p9 : (narrow .boolean (.int vn) = .int vn) ∧ (narrow .boolean (.int vz) = .int vz) ∧ (narrow .boolean (.int vc) = .int vc) := ⟨by first | with_reducible assumption | exact pq_b0 | exact pq_b1 | assumption, by first | with_reducible assumption | exact pq_b0 | exact pq_b1 | assumption, by first | with_reducible assumption | exact pq_b0 | exact pq_b1 | assumption⟩
          exact W.zret (v := 1) hx hb hr rfl (fun t ht hW => ⟨⟨1, (), rfl, ⟨by show _ = _; rw [e9], by rw [e9]; exact p9⟩, by rw [e9, ht]; exact hP, by rw [e9]; exact hD⟩, hS.F ht⟩) hS.2.2 dMo_one_411
      · refine lv_iload_n hx hb dMo_one_365 rfl (lv_at hl 2 rfl) ?_
        refine lv_ldc hx hb hown (hw _ wd_227) dMo_one_366 ?_
        refine lv_icmp_ne (tgt := 375) hx hb dMo_one_368 (by decide) (fun h6 => ?_) (fun h6 => ?_)
        · refine lv_iconst (v := 0) hx hb dMo_one_375 (by first | rfl | decide) ?_
          refine lv_istore_n (lv' := [(3, .int 0), (2, .int (vp + 2)), (1, .int (mi (vp / 2).toNatClampNeg)), (0, .ref (ad 17))]) hx hb dMo_one_376 rfl hl (by decide) rfl (fun ls hl => ?_)
          refine lv_iload_n hx hb dMo_one_377 rfl (lv_at hl 2 rfl) ?_
          refine lv_ldc hx hb hown (hw _ wd_227) dMo_one_378 ?_
          refine lv_icmp_ne (tgt := 388) hx hb dMo_one_380 (by decide) (fun _ => ?_) (fun h9 => absurd h9 h6)
          refine lv_aload_n hx hb dMo_one_388 rfl (lv_at hl 3 rfl) ?_
          refine lv_iload_n hx hb dMo_one_389 rfl (lv_at hl 0 rfl) ?_
          refine lv_if_eq (tgt := 403) hx hb dMo_one_390 (by decide) (fun _ => ?_) (fun h9 => absurd h9 (by decide))
          refine lv_aload_n hx hb dMo_one_403 rfl (lv_at hl 3 rfl) ?_
          refine va_get (D := D) (ci := 5) (v := .int vp) (C := RMo) (T := TMo) (N := 27) hx hb hw pinMo hown hE.1 hP 0 rfl rfl 25 (by decide) (hw _ wd_212) (fun _ h9 => h9) rfl dMo_one_404 ?_
          refine va_put (D := D) (ci := 5) (v := .int vp) (ty := .int) (C := RMo) (T := TMo) (N := 27) hx hb hw pinMo tyMo tyMo_ok nmMo hown hE.1 hP hD hS 0 rfl rfl 25 (by decide) (hw _ wd_212) (fun _ h9 => h9) rfl (by decide +kernel) rfl rfl (Nat.le_of_ble_eq_true rfl) dMo_one_407 (fun H locs hP hD hS => ?_)
          have hP : va_P D vwCl (wM ad cI cS mq mn me mo mt mx mp mz mu vn vz vc vv vp ve mK mA mB mC mf ml mc mL md mi mr mw) H := hP
          have hD : va_D _ (wM ad cI cS mq mn me mo mt mx mp mz mu vn vz vc vv vp ve mK mA mB mC mf ml mc mL md mi mr mw) := hD
          refine lv_iload_n hx hb dMo_one_410 rfl (lv_at hl 0 rfl) ?_
          have e9 : FMo_one mz vn vz vc vv vp ve mi mr mw = (0, mr, mw, vn, vz, vc, vv, vp, ve) := by rw [hF]; simp only [JMo_one_358, if_neg h2, if_neg h6]
          have p9 : (narrow .boolean (.int vn) = .int vn) ∧ (narrow .boolean (.int vz) = .int vz) ∧ (narrow .boolean (.int vc) = .int vc) := ⟨by first | with_reducible assumption | exact pq_b0 | exact pq_b1 | assumption, by first | with_reducible assumption | exact pq_b0 | exact pq_b1 | assumption, by first | with_reducible assumption | exact pq_b0 | exact pq_b1 | assumption⟩
          exact W.zret (v := 0) hx hb hr rfl (fun t ht hW => ⟨⟨0, (), rfl, ⟨by show _ = _; rw [e9], by rw [e9]; exact p9⟩, by rw [e9, ht]; exact hP, by rw [e9]; exact hD⟩, hS.F ht⟩) hS.2.2 dMo_one_411
        · refine lv_iconst (v := 1) hx hb dMo_one_371 (by first | rfl | decide) ?_
          refine lv_goto (tgt := 376) hx hb dMo_one_372 (by decide) ?_
          refine lv_istore_n (lv' := [(3, .int 1), (2, .int (vp + 2)), (1, .int (mi (vp / 2).toNatClampNeg)), (0, .ref (ad 17))]) hx hb dMo_one_376 rfl hl (by decide) rfl (fun ls hl => ?_)
          refine lv_iload_n hx hb dMo_one_377 rfl (lv_at hl 2 rfl) ?_
          refine lv_ldc hx hb hown (hw _ wd_227) dMo_one_378 ?_
          refine lv_icmp_ne (tgt := 388) hx hb dMo_one_380 (by decide) (fun h9 => absurd h6 h9) (fun _ => ?_)
          refine lv_aload_n hx hb dMo_one_383 rfl (lv_at hl 3 rfl) ?_
          refine lv_iconst (v := 1) hx hb dMo_one_384 (by first | rfl | decide) ?_
          refine va_put (D := D) (ci := 5) (v := .int 1) (ty := .int) (C := RMo) (T := TMo) (N := 27) hx hb hw pinMo tyMo tyMo_ok nmMo hown hE.1 hP hD hS 0 rfl rfl 26 (by decide) (hw _ wd_228) (fun _ h9 => h9) rfl (by decide +kernel) rfl rfl (Nat.le_of_ble_eq_true rfl) dMo_one_385 (fun H locs hP hD hS => ?_)
          have hP : va_P D vwCl (wM ad cI cS mq mn me mo mt mx mp mz mu vn vz vc vv vp 1 mK mA mB mC mf ml mc mL md mi mr mw) H := hP
          have hD : va_D _ (wM ad cI cS mq mn me mo mt mx mp mz mu vn vz vc vv vp 1 mK mA mB mC mf ml mc mL md mi mr mw) := hD
          refine lv_aload_n hx hb dMo_one_388 rfl (lv_at hl 3 rfl) ?_
          refine lv_iload_n hx hb dMo_one_389 rfl (lv_at hl 0 rfl) ?_
          refine lv_if_eq (tgt := 403) hx hb dMo_one_390 (by decide) (fun h9 => absurd h9 (by decide)) (fun _ => ?_)
          refine lv_iload_n hx hb dMo_one_393 rfl (lv_at hl 2 rfl) ?_
          refine lv_ldc hx hb hown (hw _ wd_227) dMo_one_394 ?_
          refine lv_icmp_eq (tgt := 403) hx hb dMo_one_396 (by decide) (fun _ => ?_) (fun h9 => absurd h6 h9)
          refine lv_aload_n hx hb dMo_one_403 rfl (lv_at hl 3 rfl) ?_
          refine va_get (D := D) (ci := 5) (v := .int vp) (C := RMo) (T := TMo) (N := 27) hx hb hw pinMo hown hE.1 hP 0 rfl rfl 25 (by decide) (hw _ wd_212) (fun _ h9 => h9) rfl dMo_one_404 ?_
          refine va_put (D := D) (ci := 5) (v := .int vp) (ty := .int) (C := RMo) (T := TMo) (N := 27) hx hb hw pinMo tyMo tyMo_ok nmMo hown hE.1 hP hD hS 0 rfl rfl 25 (by decide) (hw _ wd_212) (fun _ h9 => h9) rfl (by decide +kernel) rfl rfl (Nat.le_of_ble_eq_true rfl) dMo_one_407 (fun H locs hP hD hS => ?_)
          have hP : va_P D vwCl (wM ad cI cS mq mn me mo mt mx mp mz mu vn vz vc vv vp 1 mK mA mB mC mf ml mc mL md mi mr mw) H := hP
          have hD : va_D _ (wM ad cI cS mq mn me mo mt mx mp mz mu vn vz vc vv vp 1 mK mA mB mC mf ml mc mL md mi mr mw) := hD
          refine lv_iload_n hx hb dMo_one_410 rfl (lv_at hl 0 rfl) ?_
          have e9 : FMo_one mz vn vz vc vv vp ve mi mr mw = (1, mr, mw, vn, vz, vc, vv, vp, 1) := by rw [hF]; simp only [JMo_one_358, if_neg h2, if_pos h6]
          have p9 : (narrow .boolean (.int vn) = .int vn) ∧ (narrow .boolean (.int vz) = .int vz) ∧ (narrow .boolean (.int vc) = .int vc) := ⟨by first | with_reducible assumption | exact pq_b0 | exact pq_b1 | assumption, by first | with_reducible assumption | exact pq_b0 | exact pq_b1 | assumption, by first | with_reducible assumption | exact pq_b0 | exact pq_b1 | assumption⟩
          exact W.zret (v := 1) hx hb hr rfl (fun t ht hW => ⟨⟨1, (), rfl, ⟨by show _ = _; rw [e9], by rw [e9]; exact p9⟩, by rw [e9, ht]; exact hP, by rw [e9]; exact hD⟩, hS.F ht⟩) hS.2.2 dMo_one_411
    have j331 : ∀ (ls : Array Slot) (H : Heap) (locs : List Loc), FMo_one mz vn vz vc vv vp ve mi mr mw = JMo_one_331 vn vz vc vv vp ve mi mr mw → lv_has ls 4 [(3, .int 1), (2, .int (vp + 2)), (1, .int (mi (vp / 2).toNatClampNeg)), (0, .ref (ad 17))] → va_P D vwCl (wM ad cI cS mq mn me mo mt mx mp mz mu vn vz vc vv vp ve mK mA mB mC mf ml mc mL md mi mr mw) H → va_D (va_A (wM ad cI cS mq mn me mo mt mx mp mz mu vn vz vc vv vp ve mK mA mB mC mf ml mc mL md mi mr mw) s.heap.size) (wM ad cI cS mq mn me mo mt mx mp mz mu vn vz vc vv vp ve mK mA mB mC mf ml mc mL md mi mr mw) → va_S (va_A (wM ad cI cS mq mn me mo mt mx mp mz mu vn vz vc vv vp ve mK mA mB mC mf ml mc mL md mi mr mw) s.heap.size) s.heap H locs → W p l e (headSpec (.code yMo_one cMo_one 4 (some .boolean) :: pq_ws) { frames := 3, cells := 0, slots := 0, locals := 69 }).room s m ([.ref (ad 17)] : List Value).toArray below meth c H locs 0 0 (MQ below (va_Qi (fun (r : Int32) (_ : Unit) => r = ((FMo_one mz vn vz vc vv vp ve mi mr mw).1) ∧ ((narrow .boolean (.int ((FMo_one mz vn vz vc vv vp ve mi mr mw).2.2.2.1)) = .int ((FMo_one mz vn vz vc vv vp ve mi mr mw).2.2.2.1)) ∧ (narrow .boolean (.int ((FMo_one mz vn vz vc vv vp ve mi mr mw).2.2.2.2.1)) = .int ((FMo_one mz vn vz vc vv vp ve mi mr mw).2.2.2.2.1)) ∧ (narrow .boolean (.int ((FMo_one mz vn vz vc vv vp ve mi mr mw).2.2.2.2.2.1)) = .int ((FMo_one mz vn vz vc vv vp ve mi mr mw).2.2.2.2.2.1)))) (pq_B D (wM ad cI cS mq mn me mo mt mx mp mz mu vn vz vc vv vp ve mK mA mB mC mf ml mc mL md mi mr mw) s.heap.size (fun _ => (wM ad cI cS mq mn me mo mt mx mp mz mu ((FMo_one mz vn vz vc vv vp ve mi mr mw).2.2.2.1) ((FMo_one mz vn vz vc vv vp ve mi mr mw).2.2.2.2.1) ((FMo_one mz vn vz vc vv vp ve mi mr mw).2.2.2.2.2.1) ((FMo_one mz vn vz vc vv vp ve mi mr mw).2.2.2.2.2.2.1) ((FMo_one mz vn vz vc vv vp ve mi mr mw).2.2.2.2.2.2.2.1) ((FMo_one mz vn vz vc vv vp ve mi mr mw).2.2.2.2.2.2.2.2) mK mA mB mC mf ml mc mL md mi ((FMo_one mz vn vz vc vv vp ve mi mr mw).2.1) ((FMo_one mz vn vz vc vv vp ve mi mr mw).2.2.1)))) (va_A (wM ad cI cS mq mn me mo mt mx mp mz mu vn vz vc vv vp ve mK mA mB mC mf ml mc mL md mi mr mw) s.heap.size)) ([.ref (ad 17)] : List Value).toArray s 0 0 (va_A (wM ad cI cS mq mn me mo mt mx mp mz mu vn vz vc vv vp ve mK mA mB mC mf ml mc mL md mi mr mw) s.heap.size)) (F0 m 331 ls []) := by
      intro ls H locs hF hl hP hD hS
      refine lv_iload_n hx hb dMo_one_331 rfl (lv_at hl 2 rfl) ?_
      refine lv_ldc hx hb hown (hw _ wd_229) dMo_one_332 ?_
      refine lv_icmp_lt (tgt := 358) hx hb dMo_one_334 (by decide) (fun h10 => ?_) (fun h10 => ?_)
      · have e9 : FMo_one mz vn vz vc vv vp ve mi mr mw = JMo_one_358 vn vz vc vv vp ve mi mr mw := by rw [hF]; simp only [JMo_one_331, if_pos h10]
        exact j358 ls H locs e9 (lv_sub hl [0, 1, 2, 3] rfl) hP hD hS
      · refine lv_iload_n hx hb dMo_one_337 rfl (lv_at hl 2 rfl) ?_
        refine lv_ldc hx hb hown (hw _ wd_230) dMo_one_338 ?_
        refine lv_icmp_ge (tgt := 358) hx hb dMo_one_340 (by decide) (fun h11 => ?_) (fun h11 => ?_)
        · have e9 : FMo_one mz vn vz vc vv vp ve mi mr mw = JMo_one_358 vn vz vc vv vp ve mi mr mw := by rw [hF]; simp only [JMo_one_331, if_neg h10, if_pos h11]
          exact j358 ls H locs e9 (lv_sub hl [0, 1, 2, 3] rfl) hP hD hS
        · refine lv_aload_n hx hb dMo_one_343 rfl (lv_at hl 3 rfl) ?_
          refine lv_iload_n hx hb dMo_one_344 rfl (lv_at hl 2 rfl) ?_
          refine lv_ldc hx hb hown (hw _ wd_229) dMo_one_345 ?_
          refine lv_isub hx hb dMo_one_347 ?_
          refine lv_sipush (v := 2048) hx hb dMo_one_348 (by first | rfl | decide) ?_
          refine pq_calli (fr := (FMo_goal ((mi (vp / 2).toNatClampNeg) - 57344) 2048 vp)) (wc := (wM ad cI cS mq mn me mo mt mx mp mz mu vn vz vc vv vp ve mK mA mB mC mf ml mc mL md mi mr mw)) (wr := ([] : List Nat).filterMap (fun i => (wM ad cI cS mq mn me mo mt mx mp mz mu vn vz vc vv vp ve mK mA mB mC mf ml mc mL md mi mr mw)[i]?)) hP hD hS hA [0, 1, 2, 3, 4, 5, 6, 7, 8, 9, 10, 11, 12] [] rfl rfl (by decide) (by decide) (va_runV (own := RMo) (C := RMo) (As := [.int ((mi (vp / 2).toNatClampNeg) - 57344), .int 2048]) (rest := []) ⟨hx, hb, hml, hown, hw⟩ (k_Mo_goal l D ad cI cS ((mi (vp / 2).toNatClampNeg) - 57344) 2048 mq mn me mo mt mx mp mz mu vn vz vc vv vp ve mK mA mB mC mf ml mc mL md mi mr mw H.size) ⟨pq_cwB 2 hw wd_232 wd_186 wd_231 rfl rfl (by decide +kernel) ⟨Nat.le_of_ble_eq_true rfl, Nat.le_of_ble_eq_true rfl⟩, hw _ wd_233, hw _ wd_234⟩ (pq_preV (ci := 5) (C := RMo) (T := TMo) (N := 27) hE (hP.sub [0, 1, 2, 3, 4, 5, 6, 7, 8, 9, 10, 11, 12] rfl) (hD.sub [0, 1, 2, 3, 4, 5, 6, 7, 8, 9, 10, 11, 12] (by decide) rfl) rfl 0 rfl) rfl rfl hl.1 rfl (lv_room (Nat.le_of_ble_eq_true rfl)) dMo_one_351 ⟨Nat.zero_le _, Nat.zero_le _⟩) (fun H locs hP hD hS => ?_)
          have hP : va_P D vwCl (wM ad cI cS mq mn me mo mt mx mp mz mu vn vz vc vv vp ve mK mA mB mC mf ml mc mL md mi mr mw) H := hP.sub [0, 1, 2, 3, 4, 5, 6, 7, 8, 9, 10, 11, 12] rfl
          have hD : va_D _ (wM ad cI cS mq mn me mo mt mx mp mz mu vn vz vc vv vp ve mK mA mB mC mf ml mc mL md mi mr mw) := hD.sub [0, 1, 2, 3, 4, 5, 6, 7, 8, 9, 10, 11, 12] (by decide) rfl
          refine lv_istore_n (lv' := [(2, .int (FMo_goal ((mi (vp / 2).toNatClampNeg) - 57344) 2048 vp)), (3, .int 1), (1, .int (mi (vp / 2).toNatClampNeg)), (0, .ref (ad 17))]) hx hb dMo_one_354 rfl hl (by decide) rfl (fun ls hl => ?_)
          refine lv_goto (tgt := 377) hx hb dMo_one_355 (by decide) ?_
          refine lv_iload_n hx hb dMo_one_377 rfl (lv_at hl 2 rfl) ?_
          refine lv_ldc hx hb hown (hw _ wd_227) dMo_one_378 ?_
          refine lv_icmp_ne (tgt := 388) hx hb dMo_one_380 (by decide) (fun h12 => ?_) (fun h12 => ?_)
          · refine lv_aload_n hx hb dMo_one_388 rfl (lv_at hl 3 rfl) ?_
            refine lv_iload_n hx hb dMo_one_389 rfl (lv_at hl 1 rfl) ?_
            refine lv_if_eq (tgt := 403) hx hb dMo_one_390 (by decide) (fun h9 => absurd h9 (by decide)) (fun _ => ?_)
            refine lv_iload_n hx hb dMo_one_393 rfl (lv_at hl 2 rfl) ?_
            refine lv_ldc hx hb hown (hw _ wd_227) dMo_one_394 ?_
            refine lv_icmp_eq (tgt := 403) hx hb dMo_one_396 (by decide) (fun h9 => absurd h9 h12) (fun _ => ?_)
            refine lv_iload_n hx hb dMo_one_399 rfl (lv_at hl 0 rfl) ?_
            refine lv_goto (tgt := 407) hx hb dMo_one_400 (by decide) ?_
            refine va_put (D := D) (ci := 5) (v := .int (FMo_goal ((mi (vp / 2).toNatClampNeg) - 57344) 2048 vp)) (ty := .int) (C := RMo) (T := TMo) (N := 27) hx hb hw pinMo tyMo tyMo_ok nmMo hown hE.1 hP hD hS 0 rfl rfl 25 (by decide) (hw _ wd_212) (fun _ h9 => h9) rfl (by decide +kernel) rfl rfl (Nat.le_of_ble_eq_true rfl) dMo_one_407 (fun H locs hP hD hS => ?_)
            have hP : va_P D vwCl (wM ad cI cS mq mn me mo mt mx mp mz mu vn vz vc vv (FMo_goal ((mi (vp / 2).toNatClampNeg) - 57344) 2048 vp) ve mK mA mB mC mf ml mc mL md mi mr mw) H := hP
            have hD : va_D _ (wM ad cI cS mq mn me mo mt mx mp mz mu vn vz vc vv (FMo_goal ((mi (vp / 2).toNatClampNeg) - 57344) 2048 vp) ve mK mA mB mC mf ml mc mL md mi mr mw) := hD
            refine lv_iload_n hx hb dMo_one_410 rfl (lv_at hl 1 rfl) ?_
            have e9 : FMo_one mz vn vz vc vv vp ve mi mr mw = (1, mr, mw, vn, vz, vc, vv, (FMo_goal ((mi (vp / 2).toNatClampNeg) - 57344) 2048 vp), ve) := by rw [hF]; simp only [JMo_one_331, if_neg h10, if_neg h11, if_neg h12]
            have p9 : (narrow .boolean (.int vn) = .int vn) ∧ (narrow .boolean (.int vz) = .int vz) ∧ (narrow .boolean (.int vc) = .int vc) := ⟨by first | with_reducible assumption | exact pq_b0 | exact pq_b1 | assumption, by first | with_reducible assumption | exact pq_b0 | exact pq_b1 | assumption, by first | with_reducible assumption | exact pq_b0 | exact pq_b1 | assumption⟩
            exact W.zret (v := 1) hx hb hr rfl (fun t ht hW => ⟨⟨1, (), rfl, ⟨by show _ = _; rw [e9], by rw [e9]; exact p9⟩, by rw [e9, ht]; exact hP, by rw [e9]; exact hD⟩, hS.F ht⟩) hS.2.2 dMo_one_411
          · refine lv_aload_n hx hb dMo_one_383 rfl (lv_at hl 3 rfl) ?_
            refine lv_iconst (v := 1) hx hb dMo_one_384 (by first | rfl | decide) ?_
            refine va_put (D := D) (ci := 5) (v := .int 1) (ty := .int) (C := RMo) (T := TMo) (N := 27) hx hb hw pinMo tyMo tyMo_ok nmMo hown hE.1 hP hD hS 0 rfl rfl 26 (by decide) (hw _ wd_228) (fun _ h9 => h9) rfl (by decide +kernel) rfl rfl (Nat.le_of_ble_eq_true rfl) dMo_one_385 (fun H locs hP hD hS => ?_)
            have hP : va_P D vwCl (wM ad cI cS mq mn me mo mt mx mp mz mu vn vz vc vv vp 1 mK mA mB mC mf ml mc mL md mi mr mw) H := hP
            have hD : va_D _ (wM ad cI cS mq mn me mo mt mx mp mz mu vn vz vc vv vp 1 mK mA mB mC mf ml mc mL md mi mr mw) := hD
            refine lv_aload_n hx hb dMo_one_388 rfl (lv_at hl 3 rfl) ?_
            refine lv_iload_n hx hb dMo_one_389 rfl (lv_at hl 1 rfl) ?_
            refine lv_if_eq (tgt := 403) hx hb dMo_one_390 (by decide) (fun h9 => absurd h9 (by decide)) (fun _ => ?_)
            refine lv_iload_n hx hb dMo_one_393 rfl (lv_at hl 2 rfl) ?_
            refine lv_ldc hx hb hown (hw _ wd_227) dMo_one_394 ?_
            refine lv_icmp_eq (tgt := 403) hx hb dMo_one_396 (by decide) (fun _ => ?_) (fun h9 => absurd h12 h9)
            refine lv_aload_n hx hb dMo_one_403 rfl (lv_at hl 3 rfl) ?_
            refine va_get (D := D) (ci := 5) (v := .int vp) (C := RMo) (T := TMo) (N := 27) hx hb hw pinMo hown hE.1 hP 0 rfl rfl 25 (by decide) (hw _ wd_212) (fun _ h9 => h9) rfl dMo_one_404 ?_
            refine va_put (D := D) (ci := 5) (v := .int vp) (ty := .int) (C := RMo) (T := TMo) (N := 27) hx hb hw pinMo tyMo tyMo_ok nmMo hown hE.1 hP hD hS 0 rfl rfl 25 (by decide) (hw _ wd_212) (fun _ h9 => h9) rfl (by decide +kernel) rfl rfl (Nat.le_of_ble_eq_true rfl) dMo_one_407 (fun H locs hP hD hS => ?_)
            have hP : va_P D vwCl (wM ad cI cS mq mn me mo mt mx mp mz mu vn vz vc vv vp 1 mK mA mB mC mf ml mc mL md mi mr mw) H := hP
            have hD : va_D _ (wM ad cI cS mq mn me mo mt mx mp mz mu vn vz vc vv vp 1 mK mA mB mC mf ml mc mL md mi mr mw) := hD
            refine lv_iload_n hx hb dMo_one_410 rfl (lv_at hl 1 rfl) ?_
            have e9 : FMo_one mz vn vz vc vv vp ve mi mr mw = (1, mr, mw, vn, vz, vc, vv, vp, 1) := by rw [hF]; simp only [JMo_one_331, if_neg h10, if_neg h11, if_pos h12]
            have p9 : (narrow .boolean (.int vn) = .int vn) ∧ (narrow .boolean (.int vz) = .int vz) ∧ (narrow .boolean (.int vc) = .int vc) := ⟨by first | with_reducible assumption | exact pq_b0 | exact pq_b1 | assumption, by first | with_reducible assumption | exact pq_b0 | exact pq_b1 | assumption, by first | with_reducible assumption | exact pq_b0 | exact pq_b1 | assumption⟩
            exact W.zret (v := 1) hx hb hr rfl (fun t ht hW => ⟨⟨1, (), rfl, ⟨by show _ = _; rw [e9], by rw [e9]; exact p9⟩, by rw [e9, ht]; exact hP, by rw [e9]; exact hD⟩, hS.F ht⟩) hS.2.2 dMo_one_411
    have j270 : ∀ (ls : Array Slot) (H : Heap) (locs : List Loc), FMo_one mz vn vz vc vv vp ve mi mr mw = JMo_one_270 vn vz vc vv vp ve mi mr mw → lv_has ls 4 [(3, .int 1), (2, .int (vp + 2)), (1, .int (mi (vp / 2).toNatClampNeg)), (0, .ref (ad 17))] → va_P D vwCl (wM ad cI cS mq mn me mo mt mx mp mz mu vn vz vc vv vp ve mK mA mB mC mf ml mc mL md mi mr mw) H → va_D (va_A (wM ad cI cS mq mn me mo mt mx mp mz mu vn vz vc vv vp ve mK mA mB mC mf ml mc mL md mi mr mw) s.heap.size) (wM ad cI cS mq mn me mo mt mx mp mz mu vn vz vc vv vp ve mK mA mB mC mf ml mc mL md mi mr mw) → va_S (va_A (wM ad cI cS mq mn me mo mt mx mp mz mu vn vz vc vv vp ve mK mA mB mC mf ml mc mL md mi mr mw) s.heap.size) s.heap H locs → W p l e (headSpec (.code yMo_one cMo_one 4 (some .boolean) :: pq_ws) { frames := 3, cells := 0, slots := 0, locals := 69 }).room s m ([.ref (ad 17)] : List Value).toArray below meth c H locs 0 0 (MQ below (va_Qi (fun (r : Int32) (_ : Unit) => r = ((FMo_one mz vn vz vc vv vp ve mi mr mw).1) ∧ ((narrow .boolean (.int ((FMo_one mz vn vz vc vv vp ve mi mr mw).2.2.2.1)) = .int ((FMo_one mz vn vz vc vv vp ve mi mr mw).2.2.2.1)) ∧ (narrow .boolean (.int ((FMo_one mz vn vz vc vv vp ve mi mr mw).2.2.2.2.1)) = .int ((FMo_one mz vn vz vc vv vp ve mi mr mw).2.2.2.2.1)) ∧ (narrow .boolean (.int ((FMo_one mz vn vz vc vv vp ve mi mr mw).2.2.2.2.2.1)) = .int ((FMo_one mz vn vz vc vv vp ve mi mr mw).2.2.2.2.2.1)))) (pq_B D (wM ad cI cS mq mn me mo mt mx mp mz mu vn vz vc vv vp ve mK mA mB mC mf ml mc mL md mi mr mw) s.heap.size (fun _ => (wM ad cI cS mq mn me mo mt mx mp mz mu ((FMo_one mz vn vz vc vv vp ve mi mr mw).2.2.2.1) ((FMo_one mz vn vz vc vv vp ve mi mr mw).2.2.2.2.1) ((FMo_one mz vn vz vc vv vp ve mi mr mw).2.2.2.2.2.1) ((FMo_one mz vn vz vc vv vp ve mi mr mw).2.2.2.2.2.2.1) ((FMo_one mz vn vz vc vv vp ve mi mr mw).2.2.2.2.2.2.2.1) ((FMo_one mz vn vz vc vv vp ve mi mr mw).2.2.2.2.2.2.2.2) mK mA mB mC mf ml mc mL md mi ((FMo_one mz vn vz vc vv vp ve mi mr mw).2.1) ((FMo_one mz vn vz vc vv vp ve mi mr mw).2.2.1)))) (va_A (wM ad cI cS mq mn me mo mt mx mp mz mu vn vz vc vv vp ve mK mA mB mC mf ml mc mL md mi mr mw) s.heap.size)) ([.ref (ad 17)] : List Value).toArray s 0 0 (va_A (wM ad cI cS mq mn me mo mt mx mp mz mu vn vz vc vv vp ve mK mA mB mC mf ml mc mL md mi mr mw) s.heap.size)) (F0 m 270 ls []) := by
      intro ls H locs hF hl hP hD hS
      refine lv_iload_n hx hb dMo_one_270 rfl (lv_at hl 2 rfl) ?_
      refine lv_ldc hx hb hown (hw _ wd_235) dMo_one_271 ?_
      refine lv_icmp_lt (tgt := 331) hx hb dMo_one_273 (by decide) (fun h15 => ?_) (fun h15 => ?_)
      · have e9 : FMo_one mz vn vz vc vv vp ve mi mr mw = JMo_one_331 vn vz vc vv vp ve mi mr mw := by rw [hF]; simp only [JMo_one_270, if_pos h15]
        exact j331 ls H locs e9 (lv_sub hl [0, 1, 2, 3] rfl) hP hD hS
      · refine lv_iload_n hx hb dMo_one_276 rfl (lv_at hl 2 rfl) ?_
        refine lv_ldc hx hb hown (hw _ wd_229) dMo_one_277 ?_
        refine lv_icmp_ge (tgt := 331) hx hb dMo_one_279 (by decide) (fun h16 => ?_) (fun h16 => ?_)
        · have e9 : FMo_one mz vn vz vc vv vp ve mi mr mw = JMo_one_331 vn vz vc vv vp ve mi mr mw := by rw [hF]; simp only [JMo_one_270, if_neg h15, if_pos h16]
          exact j331 ls H locs e9 (lv_sub hl [0, 1, 2, 3] rfl) hP hD hS
        · refine lv_iload_n hx hb dMo_one_282 rfl (lv_at hl 2 rfl) ?_
          refine lv_ldc hx hb hown (hw _ wd_235) dMo_one_283 ?_
          refine lv_isub hx hb dMo_one_285 ?_
          refine lv_sipush (v := 256) hx hb dMo_one_286 (by first | rfl | decide) ?_
          refine lv_idiv hx hb dMo_one_289 (by decide) ?_
          refine pq_calli (fr := (FMo_isCondition (((mi (vp / 2).toNatClampNeg) - 53248) / 256))) (wc := (wN ad cI cS)) (wr := ([0, 1, 2, 3, 4, 5, 6, 7, 8, 9, 10, 11, 12] : List Nat).filterMap (fun i => (wM ad cI cS mq mn me mo mt mx mp mz mu vn vz vc vv vp ve mK mA mB mC mf ml mc mL md mi mr mw)[i]?)) hP hD hS hA [] [0, 1, 2, 3, 4, 5, 6, 7, 8, 9, 10, 11, 12] rfl rfl (by decide) (by decide) (va_runS (own := RMo) (As := [.int (((mi (vp / 2).toNatClampNeg) - 53248) / 256)]) (rest := []) ⟨hx, hb, hml, hown, hw⟩ (k_Mo_isCondition l D ad cI cS (((mi (vp / 2).toNatClampNeg) - 53248) / 256) H.size) ⟨pq_cwB 1 hw wd_190 wd_186 wd_189 rfl rfl (by decide +kernel) ⟨Nat.le_of_ble_eq_true rfl, Nat.le_of_ble_eq_true rfl⟩, hw _ wd_191⟩ (pq_preS hE (hP.sub [] rfl) (hD.sub [] (by decide) rfl)) rfl rfl hl.1 rfl (lv_room (Nat.le_of_ble_eq_true rfl)) dMo_one_290 ⟨Nat.zero_le _, Nat.zero_le _⟩) (fun H locs hP hD hS => ?_)
          have hP : va_P D vwCl (wM ad cI cS mq mn me mo mt mx mp mz mu vn vz vc vv vp ve mK mA mB mC mf ml mc mL md mi mr mw) H := hP.sub [0, 1, 2, 3, 4, 5, 6, 7, 8, 9, 10, 11, 12] rfl
          have hD : va_D _ (wM ad cI cS mq mn me mo mt mx mp mz mu vn vz vc vv vp ve mK mA mB mC mf ml mc mL md mi mr mw) := hD.sub [0, 1, 2, 3, 4, 5, 6, 7, 8, 9, 10, 11, 12] (by decide) rfl
          refine lv_if_eq (tgt := 331) hx hb dMo_one_293 (by decide) (fun h17 => ?_) (fun h17 => ?_)
          · have e9 : FMo_one mz vn vz vc vv vp ve mi mr mw = JMo_one_331 vn vz vc vv vp ve mi mr mw := by rw [hF]; simp only [JMo_one_270, if_neg h15, if_neg h16, if_pos h17]
            exact j331 ls H locs e9 (lv_sub hl [0, 1, 2, 3] rfl) hP hD hS
          · refine lv_aload_n hx hb dMo_one_296 rfl (lv_at hl 3 rfl) ?_
            refine lv_iload_n hx hb dMo_one_297 rfl (lv_at hl 2 rfl) ?_
            refine lv_ldc hx hb hown (hw _ wd_235) dMo_one_298 ?_
            refine lv_isub hx hb dMo_one_300 ?_
            refine lv_sipush (v := 256) hx hb dMo_one_301 (by first | rfl | decide) ?_
            refine lv_idiv hx hb dMo_one_304 (by decide) ?_
            refine pq_calli (fr := (FMo_holds (((mi (vp / 2).toNatClampNeg) - 53248) / 256) vn vz vc vv)) (wc := (wM ad cI cS mq mn me mo mt mx mp mz mu vn vz vc vv vp ve mK mA mB mC mf ml mc mL md mi mr mw)) (wr := ([] : List Nat).filterMap (fun i => (wM ad cI cS mq mn me mo mt mx mp mz mu vn vz vc vv vp ve mK mA mB mC mf ml mc mL md mi mr mw)[i]?)) hP hD hS hA [0, 1, 2, 3, 4, 5, 6, 7, 8, 9, 10, 11, 12] [] rfl rfl (by decide) (by decide) (va_runV (own := RMo) (C := RMo) (As := [.int (((mi (vp / 2).toNatClampNeg) - 53248) / 256)]) (rest := []) ⟨hx, hb, hml, hown, hw⟩ (k_Mo_holds l D ad cI cS (((mi (vp / 2).toNatClampNeg) - 53248) / 256) mq mn me mo mt mx mp mz mu vn vz vc vv vp ve mK mA mB mC mf ml mc mL md mi mr mw bn bz bc H.size) ⟨pq_cwB 1 hw wd_237 wd_186 wd_236 rfl rfl (by decide +kernel) ⟨Nat.le_of_ble_eq_true rfl, Nat.le_of_ble_eq_true rfl⟩, hw _ wd_238, hw _ wd_239⟩ (pq_preV (ci := 5) (C := RMo) (T := TMo) (N := 27) hE (hP.sub [0, 1, 2, 3, 4, 5, 6, 7, 8, 9, 10, 11, 12] rfl) (hD.sub [0, 1, 2, 3, 4, 5, 6, 7, 8, 9, 10, 11, 12] (by decide) rfl) rfl 0 rfl) rfl rfl hl.1 rfl (lv_room (Nat.le_of_ble_eq_true rfl)) dMo_one_305 ⟨Nat.zero_le _, Nat.zero_le _⟩) (fun H locs hP hD hS => ?_)
            have hP : va_P D vwCl (wM ad cI cS mq mn me mo mt mx mp mz mu vn vz vc vv vp ve mK mA mB mC mf ml mc mL md mi mr mw) H := hP.sub [0, 1, 2, 3, 4, 5, 6, 7, 8, 9, 10, 11, 12] rfl
            have hD : va_D _ (wM ad cI cS mq mn me mo mt mx mp mz mu vn vz vc vv vp ve mK mA mB mC mf ml mc mL md mi mr mw) := hD.sub [0, 1, 2, 3, 4, 5, 6, 7, 8, 9, 10, 11, 12] (by decide) rfl
            refine lv_if_eq (tgt := 326) hx hb dMo_one_308 (by decide) (fun h18 => ?_) (fun h18 => ?_)
            · refine lv_iload_n hx hb dMo_one_326 rfl (lv_at hl 1 rfl) ?_
              refine lv_istore_n (lv' := [(2, .int (vp + 2)), (3, .int 1), (1, .int (mi (vp / 2).toNatClampNeg)), (0, .ref (ad 17))]) hx hb dMo_one_327 rfl hl (by decide) rfl (fun ls hl => ?_)
              refine lv_goto (tgt := 377) hx hb dMo_one_328 (by decide) ?_
              refine lv_iload_n hx hb dMo_one_377 rfl (lv_at hl 2 rfl) ?_
              refine lv_ldc hx hb hown (hw _ wd_227) dMo_one_378 ?_
              refine lv_icmp_ne (tgt := 388) hx hb dMo_one_380 (by decide) (fun h19 => ?_) (fun h19 => ?_)
              · refine lv_aload_n hx hb dMo_one_388 rfl (lv_at hl 3 rfl) ?_
                refine lv_iload_n hx hb dMo_one_389 rfl (lv_at hl 1 rfl) ?_
                refine lv_if_eq (tgt := 403) hx hb dMo_one_390 (by decide) (fun h9 => absurd h9 (by decide)) (fun _ => ?_)
                refine lv_iload_n hx hb dMo_one_393 rfl (lv_at hl 2 rfl) ?_
                refine lv_ldc hx hb hown (hw _ wd_227) dMo_one_394 ?_
                refine lv_icmp_eq (tgt := 403) hx hb dMo_one_396 (by decide) (fun h9 => absurd h9 h19) (fun _ => ?_)
                refine lv_iload_n hx hb dMo_one_399 rfl (lv_at hl 0 rfl) ?_
                refine lv_goto (tgt := 407) hx hb dMo_one_400 (by decide) ?_
                refine va_put (D := D) (ci := 5) (v := .int (vp + 2)) (ty := .int) (C := RMo) (T := TMo) (N := 27) hx hb hw pinMo tyMo tyMo_ok nmMo hown hE.1 hP hD hS 0 rfl rfl 25 (by decide) (hw _ wd_212) (fun _ h9 => h9) rfl (by decide +kernel) rfl rfl (Nat.le_of_ble_eq_true rfl) dMo_one_407 (fun H locs hP hD hS => ?_)
                have hP : va_P D vwCl (wM ad cI cS mq mn me mo mt mx mp mz mu vn vz vc vv (vp + 2) ve mK mA mB mC mf ml mc mL md mi mr mw) H := hP
                have hD : va_D _ (wM ad cI cS mq mn me mo mt mx mp mz mu vn vz vc vv (vp + 2) ve mK mA mB mC mf ml mc mL md mi mr mw) := hD
                refine lv_iload_n hx hb dMo_one_410 rfl (lv_at hl 1 rfl) ?_
                have e9 : FMo_one mz vn vz vc vv vp ve mi mr mw = (1, mr, mw, vn, vz, vc, vv, vp + 2, ve) := by rw [hF]; simp only [JMo_one_270, if_neg h15, if_neg h16, if_neg h17, if_pos h18, if_neg h19]
                have p9 : (narrow .boolean (.int vn) = .int vn) ∧ (narrow .boolean (.int vz) = .int vz) ∧ (narrow .boolean (.int vc) = .int vc) := ⟨by first | with_reducible assumption | exact pq_b0 | exact pq_b1 | assumption, by first | with_reducible assumption | exact pq_b0 | exact pq_b1 | assumption, by first | with_reducible assumption | exact pq_b0 | exact pq_b1 | assumption⟩
                exact W.zret (v := 1) hx hb hr rfl (fun t ht hW => ⟨⟨1, (), rfl, ⟨by show _ = _; rw [e9], by rw [e9]; exact p9⟩, by rw [e9, ht]; exact hP, by rw [e9]; exact hD⟩, hS.F ht⟩) hS.2.2 dMo_one_411
              · refine lv_aload_n hx hb dMo_one_383 rfl (lv_at hl 3 rfl) ?_
                refine lv_iconst (v := 1) hx hb dMo_one_384 (by first | rfl | decide) ?_
                refine va_put (D := D) (ci := 5) (v := .int 1) (ty := .int) (C := RMo) (T := TMo) (N := 27) hx hb hw pinMo tyMo tyMo_ok nmMo hown hE.1 hP hD hS 0 rfl rfl 26 (by decide) (hw _ wd_228) (fun _ h9 => h9) rfl (by decide +kernel) rfl rfl (Nat.le_of_ble_eq_true rfl) dMo_one_385 (fun H locs hP hD hS => ?_)
                have hP : va_P D vwCl (wM ad cI cS mq mn me mo mt mx mp mz mu vn vz vc vv vp 1 mK mA mB mC mf ml mc mL md mi mr mw) H := hP
                have hD : va_D _ (wM ad cI cS mq mn me mo mt mx mp mz mu vn vz vc vv vp 1 mK mA mB mC mf ml mc mL md mi mr mw) := hD
                refine lv_aload_n hx hb dMo_one_388 rfl (lv_at hl 3 rfl) ?_
                refine lv_iload_n hx hb dMo_one_389 rfl (lv_at hl 1 rfl) ?_
                refine lv_if_eq (tgt := 403) hx hb dMo_one_390 (by decide) (fun h9 => absurd h9 (by decide)) (fun _ => ?_)
                refine lv_iload_n hx hb dMo_one_393 rfl (lv_at hl 2 rfl) ?_
                refine lv_ldc hx hb hown (hw _ wd_227) dMo_one_394 ?_
                refine lv_icmp_eq (tgt := 403) hx hb dMo_one_396 (by decide) (fun _ => ?_) (fun h9 => absurd h19 h9)
                refine lv_aload_n hx hb dMo_one_403 rfl (lv_at hl 3 rfl) ?_
                refine va_get (D := D) (ci := 5) (v := .int vp) (C := RMo) (T := TMo) (N := 27) hx hb hw pinMo hown hE.1 hP 0 rfl rfl 25 (by decide) (hw _ wd_212) (fun _ h9 => h9) rfl dMo_one_404 ?_
                refine va_put (D := D) (ci := 5) (v := .int vp) (ty := .int) (C := RMo) (T := TMo) (N := 27) hx hb hw pinMo tyMo tyMo_ok nmMo hown hE.1 hP hD hS 0 rfl rfl 25 (by decide) (hw _ wd_212) (fun _ h9 => h9) rfl (by decide +kernel) rfl rfl (Nat.le_of_ble_eq_true rfl) dMo_one_407 (fun H locs hP hD hS => ?_)
                have hP : va_P D vwCl (wM ad cI cS mq mn me mo mt mx mp mz mu vn vz vc vv vp 1 mK mA mB mC mf ml mc mL md mi mr mw) H := hP
                have hD : va_D _ (wM ad cI cS mq mn me mo mt mx mp mz mu vn vz vc vv vp 1 mK mA mB mC mf ml mc mL md mi mr mw) := hD
                refine lv_iload_n hx hb dMo_one_410 rfl (lv_at hl 1 rfl) ?_
                have e9 : FMo_one mz vn vz vc vv vp ve mi mr mw = (1, mr, mw, vn, vz, vc, vv, vp, 1) := by rw [hF]; simp only [JMo_one_270, if_neg h15, if_neg h16, if_neg h17, if_pos h18, if_pos h19]
                have p9 : (narrow .boolean (.int vn) = .int vn) ∧ (narrow .boolean (.int vz) = .int vz) ∧ (narrow .boolean (.int vc) = .int vc) := ⟨by first | with_reducible assumption | exact pq_b0 | exact pq_b1 | assumption, by first | with_reducible assumption | exact pq_b0 | exact pq_b1 | assumption, by first | with_reducible assumption | exact pq_b0 | exact pq_b1 | assumption⟩
                exact W.zret (v := 1) hx hb hr rfl (fun t ht hW => ⟨⟨1, (), rfl, ⟨by show _ = _; rw [e9], by rw [e9]; exact p9⟩, by rw [e9, ht]; exact hP, by rw [e9]; exact hD⟩, hS.F ht⟩) hS.2.2 dMo_one_411
            · refine lv_aload_n hx hb dMo_one_311 rfl (lv_at hl 3 rfl) ?_
              refine lv_iload_n hx hb dMo_one_312 rfl (lv_at hl 2 rfl) ?_
              refine lv_sipush (v := 256) hx hb dMo_one_313 (by first | rfl | decide) ?_
              refine lv_irem hx hb dMo_one_316 (by decide) ?_
              refine lv_sipush (v := 256) hx hb dMo_one_317 (by first | rfl | decide) ?_
              refine pq_calli (fr := (FMo_goal ((mi (vp / 2).toNatClampNeg) - (mi (vp / 2).toNatClampNeg) / 256 * 256) 256 vp)) (wc := (wM ad cI cS mq mn me mo mt mx mp mz mu vn vz vc vv vp ve mK mA mB mC mf ml mc mL md mi mr mw)) (wr := ([] : List Nat).filterMap (fun i => (wM ad cI cS mq mn me mo mt mx mp mz mu vn vz vc vv vp ve mK mA mB mC mf ml mc mL md mi mr mw)[i]?)) hP hD hS hA [0, 1, 2, 3, 4, 5, 6, 7, 8, 9, 10, 11, 12] [] rfl rfl (by decide) (by decide) (va_runV (own := RMo) (C := RMo) (As := [.int ((mi (vp / 2).toNatClampNeg) - (mi (vp / 2).toNatClampNeg) / 256 * 256), .int 256]) (rest := []) ⟨hx, hb, hml, hown, hw⟩ (k_Mo_goal l D ad cI cS ((mi (vp / 2).toNatClampNeg) - (mi (vp / 2).toNatClampNeg) / 256 * 256) 256 mq mn me mo mt mx mp mz mu vn vz vc vv vp ve mK mA mB mC mf ml mc mL md mi mr mw H.size) ⟨pq_cwB 2 hw wd_232 wd_186 wd_231 rfl rfl (by decide +kernel) ⟨Nat.le_of_ble_eq_true rfl, Nat.le_of_ble_eq_true rfl⟩, hw _ wd_233, hw _ wd_234⟩ (pq_preV (ci := 5) (C := RMo) (T := TMo) (N := 27) hE (hP.sub [0, 1, 2, 3, 4, 5, 6, 7, 8, 9, 10, 11, 12] rfl) (hD.sub [0, 1, 2, 3, 4, 5, 6, 7, 8, 9, 10, 11, 12] (by decide) rfl) rfl 0 rfl) rfl rfl hl.1 rfl (lv_room (Nat.le_of_ble_eq_true rfl)) dMo_one_320 ⟨Nat.zero_le _, Nat.zero_le _⟩) (fun H locs hP hD hS => ?_)
              have hP : va_P D vwCl (wM ad cI cS mq mn me mo mt mx mp mz mu vn vz vc vv vp ve mK mA mB mC mf ml mc mL md mi mr mw) H := hP.sub [0, 1, 2, 3, 4, 5, 6, 7, 8, 9, 10, 11, 12] rfl
              have hD : va_D _ (wM ad cI cS mq mn me mo mt mx mp mz mu vn vz vc vv vp ve mK mA mB mC mf ml mc mL md mi mr mw) := hD.sub [0, 1, 2, 3, 4, 5, 6, 7, 8, 9, 10, 11, 12] (by decide) rfl
              refine lv_goto (tgt := 327) hx hb dMo_one_323 (by decide) ?_
              refine lv_istore_n (lv' := [(2, .int (FMo_goal ((mi (vp / 2).toNatClampNeg) - (mi (vp / 2).toNatClampNeg) / 256 * 256) 256 vp)), (3, .int 1), (1, .int (mi (vp / 2).toNatClampNeg)), (0, .ref (ad 17))]) hx hb dMo_one_327 rfl hl (by decide) rfl (fun ls hl => ?_)
              refine lv_goto (tgt := 377) hx hb dMo_one_328 (by decide) ?_
              refine lv_iload_n hx hb dMo_one_377 rfl (lv_at hl 2 rfl) ?_
              refine lv_ldc hx hb hown (hw _ wd_227) dMo_one_378 ?_
              refine lv_icmp_ne (tgt := 388) hx hb dMo_one_380 (by decide) (fun h22 => ?_) (fun h22 => ?_)
              · refine lv_aload_n hx hb dMo_one_388 rfl (lv_at hl 3 rfl) ?_
                refine lv_iload_n hx hb dMo_one_389 rfl (lv_at hl 1 rfl) ?_
                refine lv_if_eq (tgt := 403) hx hb dMo_one_390 (by decide) (fun h9 => absurd h9 (by decide)) (fun _ => ?_)
                refine lv_iload_n hx hb dMo_one_393 rfl (lv_at hl 2 rfl) ?_
                refine lv_ldc hx hb hown (hw _ wd_227) dMo_one_394 ?_
                refine lv_icmp_eq (tgt := 403) hx hb dMo_one_396 (by decide) (fun h9 => absurd h9 h22) (fun _ => ?_)
                refine lv_iload_n hx hb dMo_one_399 rfl (lv_at hl 0 rfl) ?_
                refine lv_goto (tgt := 407) hx hb dMo_one_400 (by decide) ?_
                refine va_put (D := D) (ci := 5) (v := .int (FMo_goal ((mi (vp / 2).toNatClampNeg) - (mi (vp / 2).toNatClampNeg) / 256 * 256) 256 vp)) (ty := .int) (C := RMo) (T := TMo) (N := 27) hx hb hw pinMo tyMo tyMo_ok nmMo hown hE.1 hP hD hS 0 rfl rfl 25 (by decide) (hw _ wd_212) (fun _ h9 => h9) rfl (by decide +kernel) rfl rfl (Nat.le_of_ble_eq_true rfl) dMo_one_407 (fun H locs hP hD hS => ?_)
                have hP : va_P D vwCl (wM ad cI cS mq mn me mo mt mx mp mz mu vn vz vc vv (FMo_goal ((mi (vp / 2).toNatClampNeg) - (mi (vp / 2).toNatClampNeg) / 256 * 256) 256 vp) ve mK mA mB mC mf ml mc mL md mi mr mw) H := hP
                have hD : va_D _ (wM ad cI cS mq mn me mo mt mx mp mz mu vn vz vc vv (FMo_goal ((mi (vp / 2).toNatClampNeg) - (mi (vp / 2).toNatClampNeg) / 256 * 256) 256 vp) ve mK mA mB mC mf ml mc mL md mi mr mw) := hD
                refine lv_iload_n hx hb dMo_one_410 rfl (lv_at hl 1 rfl) ?_
                have e9 : FMo_one mz vn vz vc vv vp ve mi mr mw = (1, mr, mw, vn, vz, vc, vv, (FMo_goal ((mi (vp / 2).toNatClampNeg) - (mi (vp / 2).toNatClampNeg) / 256 * 256) 256 vp), ve) := by rw [hF]; simp only [JMo_one_270, if_neg h15, if_neg h16, if_neg h17, if_neg h18, if_neg h22]
                have p9 : (narrow .boolean (.int vn) = .int vn) ∧ (narrow .boolean (.int vz) = .int vz) ∧ (narrow .boolean (.int vc) = .int vc) := ⟨by first | with_reducible assumption | exact pq_b0 | exact pq_b1 | assumption, by first | with_reducible assumption | exact pq_b0 | exact pq_b1 | assumption, by first | with_reducible assumption | exact pq_b0 | exact pq_b1 | assumption⟩
                exact W.zret (v := 1) hx hb hr rfl (fun t ht hW => ⟨⟨1, (), rfl, ⟨by show _ = _; rw [e9], by rw [e9]; exact p9⟩, by rw [e9, ht]; exact hP, by rw [e9]; exact hD⟩, hS.F ht⟩) hS.2.2 dMo_one_411
              · refine lv_aload_n hx hb dMo_one_383 rfl (lv_at hl 3 rfl) ?_
                refine lv_iconst (v := 1) hx hb dMo_one_384 (by first | rfl | decide) ?_
                refine va_put (D := D) (ci := 5) (v := .int 1) (ty := .int) (C := RMo) (T := TMo) (N := 27) hx hb hw pinMo tyMo tyMo_ok nmMo hown hE.1 hP hD hS 0 rfl rfl 26 (by decide) (hw _ wd_228) (fun _ h9 => h9) rfl (by decide +kernel) rfl rfl (Nat.le_of_ble_eq_true rfl) dMo_one_385 (fun H locs hP hD hS => ?_)
                have hP : va_P D vwCl (wM ad cI cS mq mn me mo mt mx mp mz mu vn vz vc vv vp 1 mK mA mB mC mf ml mc mL md mi mr mw) H := hP
                have hD : va_D _ (wM ad cI cS mq mn me mo mt mx mp mz mu vn vz vc vv vp 1 mK mA mB mC mf ml mc mL md mi mr mw) := hD
                refine lv_aload_n hx hb dMo_one_388 rfl (lv_at hl 3 rfl) ?_
                refine lv_iload_n hx hb dMo_one_389 rfl (lv_at hl 1 rfl) ?_
                refine lv_if_eq (tgt := 403) hx hb dMo_one_390 (by decide) (fun h9 => absurd h9 (by decide)) (fun _ => ?_)
                refine lv_iload_n hx hb dMo_one_393 rfl (lv_at hl 2 rfl) ?_
                refine lv_ldc hx hb hown (hw _ wd_227) dMo_one_394 ?_
                refine lv_icmp_eq (tgt := 403) hx hb dMo_one_396 (by decide) (fun _ => ?_) (fun h9 => absurd h22 h9)
                refine lv_aload_n hx hb dMo_one_403 rfl (lv_at hl 3 rfl) ?_
                refine va_get (D := D) (ci := 5) (v := .int vp) (C := RMo) (T := TMo) (N := 27) hx hb hw pinMo hown hE.1 hP 0 rfl rfl 25 (by decide) (hw _ wd_212) (fun _ h9 => h9) rfl dMo_one_404 ?_
                refine va_put (D := D) (ci := 5) (v := .int vp) (ty := .int) (C := RMo) (T := TMo) (N := 27) hx hb hw pinMo tyMo tyMo_ok nmMo hown hE.1 hP hD hS 0 rfl rfl 25 (by decide) (hw _ wd_212) (fun _ h9 => h9) rfl (by decide +kernel) rfl rfl (Nat.le_of_ble_eq_true rfl) dMo_one_407 (fun H locs hP hD hS => ?_)
                have hP : va_P D vwCl (wM ad cI cS mq mn me mo mt mx mp mz mu vn vz vc vv vp 1 mK mA mB mC mf ml mc mL md mi mr mw) H := hP
                have hD : va_D _ (wM ad cI cS mq mn me mo mt mx mp mz mu vn vz vc vv vp 1 mK mA mB mC mf ml mc mL md mi mr mw) := hD
                refine lv_iload_n hx hb dMo_one_410 rfl (lv_at hl 1 rfl) ?_
                have e9 : FMo_one mz vn vz vc vv vp ve mi mr mw = (1, mr, mw, vn, vz, vc, vv, vp, 1) := by rw [hF]; simp only [JMo_one_270, if_neg h15, if_neg h16, if_neg h17, if_neg h18, if_pos h22]
                have p9 : (narrow .boolean (.int vn) = .int vn) ∧ (narrow .boolean (.int vz) = .int vz) ∧ (narrow .boolean (.int vc) = .int vc) := ⟨by first | with_reducible assumption | exact pq_b0 | exact pq_b1 | assumption, by first | with_reducible assumption | exact pq_b0 | exact pq_b1 | assumption, by first | with_reducible assumption | exact pq_b0 | exact pq_b1 | assumption⟩
                exact W.zret (v := 1) hx hb hr rfl (fun t ht hW => ⟨⟨1, (), rfl, ⟨by show _ = _; rw [e9], by rw [e9]; exact p9⟩, by rw [e9, ht]; exact hP, by rw [e9]; exact hD⟩, hS.F ht⟩) hS.2.2 dMo_one_411
    have j243 : ∀ (ls : Array Slot) (H : Heap) (locs : List Loc), FMo_one mz vn vz vc vv vp ve mi mr mw = JMo_one_243 vn vz vc vv vp ve mi mr mw → lv_has ls 4 [(3, .int 1), (2, .int (vp + 2)), (1, .int (mi (vp / 2).toNatClampNeg)), (0, .ref (ad 17))] → va_P D vwCl (wM ad cI cS mq mn me mo mt mx mp mz mu vn vz vc vv vp ve mK mA mB mC mf ml mc mL md mi mr mw) H → va_D (va_A (wM ad cI cS mq mn me mo mt mx mp mz mu vn vz vc vv vp ve mK mA mB mC mf ml mc mL md mi mr mw) s.heap.size) (wM ad cI cS mq mn me mo mt mx mp mz mu vn vz vc vv vp ve mK mA mB mC mf ml mc mL md mi mr mw) → va_S (va_A (wM ad cI cS mq mn me mo mt mx mp mz mu vn vz vc vv vp ve mK mA mB mC mf ml mc mL md mi mr mw) s.heap.size) s.heap H locs → W p l e (headSpec (.code yMo_one cMo_one 4 (some .boolean) :: pq_ws) { frames := 3, cells := 0, slots := 0, locals := 69 }).room s m ([.ref (ad 17)] : List Value).toArray below meth c H locs 0 0 (MQ below (va_Qi (fun (r : Int32) (_ : Unit) => r = ((FMo_one mz vn vz vc vv vp ve mi mr mw).1) ∧ ((narrow .boolean (.int ((FMo_one mz vn vz vc vv vp ve mi mr mw).2.2.2.1)) = .int ((FMo_one mz vn vz vc vv vp ve mi mr mw).2.2.2.1)) ∧ (narrow .boolean (.int ((FMo_one mz vn vz vc vv vp ve mi mr mw).2.2.2.2.1)) = .int ((FMo_one mz vn vz vc vv vp ve mi mr mw).2.2.2.2.1)) ∧ (narrow .boolean (.int ((FMo_one mz vn vz vc vv vp ve mi mr mw).2.2.2.2.2.1)) = .int ((FMo_one mz vn vz vc vv vp ve mi mr mw).2.2.2.2.2.1)))) (pq_B D (wM ad cI cS mq mn me mo mt mx mp mz mu vn vz vc vv vp ve mK mA mB mC mf ml mc mL md mi mr mw) s.heap.size (fun _ => (wM ad cI cS mq mn me mo mt mx mp mz mu ((FMo_one mz vn vz vc vv vp ve mi mr mw).2.2.2.1) ((FMo_one mz vn vz vc vv vp ve mi mr mw).2.2.2.2.1) ((FMo_one mz vn vz vc vv vp ve mi mr mw).2.2.2.2.2.1) ((FMo_one mz vn vz vc vv vp ve mi mr mw).2.2.2.2.2.2.1) ((FMo_one mz vn vz vc vv vp ve mi mr mw).2.2.2.2.2.2.2.1) ((FMo_one mz vn vz vc vv vp ve mi mr mw).2.2.2.2.2.2.2.2) mK mA mB mC mf ml mc mL md mi ((FMo_one mz vn vz vc vv vp ve mi mr mw).2.1) ((FMo_one mz vn vz vc vv vp ve mi mr mw).2.2.1)))) (va_A (wM ad cI cS mq mn me mo mt mx mp mz mu vn vz vc vv vp ve mK mA mB mC mf ml mc mL md mi mr mw) s.heap.size)) ([.ref (ad 17)] : List Value).toArray s 0 0 (va_A (wM ad cI cS mq mn me mo mt mx mp mz mu vn vz vc vv vp ve mK mA mB mC mf ml mc mL md mi mr mw) s.heap.size)) (F0 m 243 ls []) := by
      intro ls H locs hF hl hP hD hS
      refine lv_iload_n hx hb dMo_one_243 rfl (lv_at hl 2 rfl) ?_
      refine lv_sipush (v := 24576) hx hb dMo_one_244 (by first | rfl | decide) ?_
      refine lv_icmp_lt (tgt := 270) hx hb dMo_one_247 (by decide) (fun h25 => ?_) (fun h25 => ?_)
      · have e9 : FMo_one mz vn vz vc vv vp ve mi mr mw = JMo_one_270 vn vz vc vv vp ve mi mr mw := by rw [hF]; simp only [JMo_one_243, if_pos h25]
        exact j270 ls H locs e9 (lv_sub hl [0, 1, 2, 3] rfl) hP hD hS
      · refine lv_iload_n hx hb dMo_one_250 rfl (lv_at hl 2 rfl) ?_
        refine lv_sipush (v := 28672) hx hb dMo_one_251 (by first | rfl | decide) ?_
        refine lv_icmp_ge (tgt := 270) hx hb dMo_one_254 (by decide) (fun h26 => ?_) (fun h26 => ?_)
        · have e9 : FMo_one mz vn vz vc vv vp ve mi mr mw = JMo_one_270 vn vz vc vv vp ve mi mr mw := by rw [hF]; simp only [JMo_one_243, if_neg h25, if_pos h26]
          exact j270 ls H locs e9 (lv_sub hl [0, 1, 2, 3] rfl) hP hD hS
        · refine lv_aload_n hx hb dMo_one_257 rfl (lv_at hl 3 rfl) ?_
          refine lv_iload_n hx hb dMo_one_258 rfl (lv_at hl 2 rfl) ?_
          refine lv_sipush (v := 24576) hx hb dMo_one_259 (by first | rfl | decide) ?_
          refine lv_isub hx hb dMo_one_262 ?_
          obtain ⟨g1, hg1⟩ : ∃ g9, FMo_memory ((mi (vp / 2).toNatClampNeg) - 24576) mr mw = g9 := ⟨_, rfl⟩
          have cg1 := k_Mo_memory l D ad cI cS ((mi (vp / 2).toNatClampNeg) - 24576) mq mn me mo mt mx mp mz mu vn vz vc vv vp ve mK mA mB mC mf ml mc mL md mi mr mw (pq_sub0 (by assumption) (by decide))
          rw [hg1] at cg1
          refine pq_calli (fr := g1.1) (wc := (wM ad cI cS mq mn me mo mt mx mp mz mu vn vz vc vv vp ve mK mA mB mC mf ml mc mL md mi mr mw)) (wr := ([] : List Nat).filterMap (fun i => (wM ad cI cS mq mn me mo mt mx mp mz mu vn vz vc vv vp ve mK mA mB mC mf ml mc mL md mi mr mw)[i]?)) hP hD hS hA [0, 1, 2, 3, 4, 5, 6, 7, 8, 9, 10, 11, 12] [] rfl rfl (by decide) (by decide) (va_runV (own := RMo) (C := RMo) (As := [.int ((mi (vp / 2).toNatClampNeg) - 24576)]) (rest := []) ⟨hx, hb, hml, hown, hw⟩ (cg1 H.size) ⟨pq_cwB 1 hw wd_241 wd_186 wd_240 rfl rfl (by decide +kernel) ⟨Nat.le_of_ble_eq_true rfl, Nat.le_of_ble_eq_true rfl⟩, hw _ wd_242, hw _ wd_243⟩ (pq_preV (ci := 5) (C := RMo) (T := TMo) (N := 27) hE (hP.sub [0, 1, 2, 3, 4, 5, 6, 7, 8, 9, 10, 11, 12] rfl) (hD.sub [0, 1, 2, 3, 4, 5, 6, 7, 8, 9, 10, 11, 12] (by decide) rfl) rfl 0 rfl) rfl rfl hl.1 rfl (lv_room (Nat.le_of_ble_eq_true rfl)) dMo_one_263 ⟨Nat.zero_le _, Nat.zero_le _⟩) (fun H locs hP hD hS => ?_)
          have hP : va_P D vwCl (wM ad cI cS mq mn me mo mt mx mp mz mu vn vz vc vv vp ve mK mA mB mC mf ml mc mL md mi g1.2.1 g1.2.2) H := hP.sub [0, 1, 2, 3, 4, 5, 6, 7, 8, 9, 10, 11, 12] rfl
          have hD : va_D _ (wM ad cI cS mq mn me mo mt mx mp mz mu vn vz vc vv vp ve mK mA mB mC mf ml mc mL md mi g1.2.1 g1.2.2) := hD.sub [0, 1, 2, 3, 4, 5, 6, 7, 8, 9, 10, 11, 12] (by decide) rfl
          refine lv_istore_n (lv' := [(3, .int g1.1), (2, .int (vp + 2)), (1, .int (mi (vp / 2).toNatClampNeg)), (0, .ref (ad 17))]) hx hb dMo_one_266 rfl hl (by decide) rfl (fun ls hl => ?_)
          refine lv_goto (tgt := 377) hx hb dMo_one_267 (by decide) ?_
          refine lv_iload_n hx hb dMo_one_377 rfl (lv_at hl 2 rfl) ?_
          refine lv_ldc hx hb hown (hw _ wd_227) dMo_one_378 ?_
          refine lv_icmp_ne (tgt := 388) hx hb dMo_one_380 (by decide) (fun h27 => ?_) (fun h27 => ?_)
          · refine lv_aload_n hx hb dMo_one_388 rfl (lv_at hl 3 rfl) ?_
            refine lv_iload_n hx hb dMo_one_389 rfl (lv_at hl 0 rfl) ?_
            refine lv_if_eq (tgt := 403) hx hb dMo_one_390 (by decide) (fun h28 => ?_) (fun h28 => ?_)
            · refine lv_aload_n hx hb dMo_one_403 rfl (lv_at hl 3 rfl) ?_
              refine va_get (D := D) (ci := 5) (v := .int vp) (C := RMo) (T := TMo) (N := 27) hx hb hw pinMo hown hE.1 hP 0 rfl rfl 25 (by decide) (hw _ wd_212) (fun _ h9 => h9) rfl dMo_one_404 ?_
              refine va_put (D := D) (ci := 5) (v := .int vp) (ty := .int) (C := RMo) (T := TMo) (N := 27) hx hb hw pinMo tyMo tyMo_ok nmMo hown hE.1 hP hD hS 0 rfl rfl 25 (by decide) (hw _ wd_212) (fun _ h9 => h9) rfl (by decide +kernel) rfl rfl (Nat.le_of_ble_eq_true rfl) dMo_one_407 (fun H locs hP hD hS => ?_)
              have hP : va_P D vwCl (wM ad cI cS mq mn me mo mt mx mp mz mu vn vz vc vv vp ve mK mA mB mC mf ml mc mL md mi g1.2.1 g1.2.2) H := hP
              have hD : va_D _ (wM ad cI cS mq mn me mo mt mx mp mz mu vn vz vc vv vp ve mK mA mB mC mf ml mc mL md mi g1.2.1 g1.2.2) := hD
              refine lv_iload_n hx hb dMo_one_410 rfl (lv_at hl 0 rfl) ?_
              have e9 : FMo_one mz vn vz vc vv vp ve mi mr mw = (g1.1, g1.2.1, g1.2.2, vn, vz, vc, vv, vp, ve) := by rw [hF]; simp only [JMo_one_243, hg1, if_neg h25, if_neg h26, if_neg h27, if_pos h28]
              have p9 : (narrow .boolean (.int vn) = .int vn) ∧ (narrow .boolean (.int vz) = .int vz) ∧ (narrow .boolean (.int vc) = .int vc) := ⟨by first | with_reducible assumption | exact pq_b0 | exact pq_b1 | assumption, by first | with_reducible assumption | exact pq_b0 | exact pq_b1 | assumption, by first | with_reducible assumption | exact pq_b0 | exact pq_b1 | assumption⟩
              exact W.zret (v := g1.1) hx hb hr (by rw [← hg1]; apply b_Mo_memory) (fun t ht hW => ⟨⟨g1.1, (), rfl, ⟨by show _ = _; rw [e9], by rw [e9]; exact p9⟩, by rw [e9, ht]; exact hP, by rw [e9]; exact hD⟩, hS.F ht⟩) hS.2.2 dMo_one_411
            · refine lv_iload_n hx hb dMo_one_393 rfl (lv_at hl 2 rfl) ?_
              refine lv_ldc hx hb hown (hw _ wd_227) dMo_one_394 ?_
              refine lv_icmp_eq (tgt := 403) hx hb dMo_one_396 (by decide) (fun h9 => absurd h9 h27) (fun _ => ?_)
              refine lv_iload_n hx hb dMo_one_399 rfl (lv_at hl 1 rfl) ?_
              refine lv_goto (tgt := 407) hx hb dMo_one_400 (by decide) ?_
              refine va_put (D := D) (ci := 5) (v := .int (vp + 2)) (ty := .int) (C := RMo) (T := TMo) (N := 27) hx hb hw pinMo tyMo tyMo_ok nmMo hown hE.1 hP hD hS 0 rfl rfl 25 (by decide) (hw _ wd_212) (fun _ h9 => h9) rfl (by decide +kernel) rfl rfl (Nat.le_of_ble_eq_true rfl) dMo_one_407 (fun H locs hP hD hS => ?_)
              have hP : va_P D vwCl (wM ad cI cS mq mn me mo mt mx mp mz mu vn vz vc vv (vp + 2) ve mK mA mB mC mf ml mc mL md mi g1.2.1 g1.2.2) H := hP
              have hD : va_D _ (wM ad cI cS mq mn me mo mt mx mp mz mu vn vz vc vv (vp + 2) ve mK mA mB mC mf ml mc mL md mi g1.2.1 g1.2.2) := hD
              refine lv_iload_n hx hb dMo_one_410 rfl (lv_at hl 0 rfl) ?_
              have e9 : FMo_one mz vn vz vc vv vp ve mi mr mw = (g1.1, g1.2.1, g1.2.2, vn, vz, vc, vv, vp + 2, ve) := by rw [hF]; simp only [JMo_one_243, hg1, if_neg h25, if_neg h26, if_neg h27, if_neg h28]
              have p9 : (narrow .boolean (.int vn) = .int vn) ∧ (narrow .boolean (.int vz) = .int vz) ∧ (narrow .boolean (.int vc) = .int vc) := ⟨by first | with_reducible assumption | exact pq_b0 | exact pq_b1 | assumption, by first | with_reducible assumption | exact pq_b0 | exact pq_b1 | assumption, by first | with_reducible assumption | exact pq_b0 | exact pq_b1 | assumption⟩
              exact W.zret (v := g1.1) hx hb hr (by rw [← hg1]; apply b_Mo_memory) (fun t ht hW => ⟨⟨g1.1, (), rfl, ⟨by show _ = _; rw [e9], by rw [e9]; exact p9⟩, by rw [e9, ht]; exact hP, by rw [e9]; exact hD⟩, hS.F ht⟩) hS.2.2 dMo_one_411
          · refine lv_aload_n hx hb dMo_one_383 rfl (lv_at hl 3 rfl) ?_
            refine lv_iconst (v := 1) hx hb dMo_one_384 (by first | rfl | decide) ?_
            refine va_put (D := D) (ci := 5) (v := .int 1) (ty := .int) (C := RMo) (T := TMo) (N := 27) hx hb hw pinMo tyMo tyMo_ok nmMo hown hE.1 hP hD hS 0 rfl rfl 26 (by decide) (hw _ wd_228) (fun _ h9 => h9) rfl (by decide +kernel) rfl rfl (Nat.le_of_ble_eq_true rfl) dMo_one_385 (fun H locs hP hD hS => ?_)
            have hP : va_P D vwCl (wM ad cI cS mq mn me mo mt mx mp mz mu vn vz vc vv vp 1 mK mA mB mC mf ml mc mL md mi g1.2.1 g1.2.2) H := hP
            have hD : va_D _ (wM ad cI cS mq mn me mo mt mx mp mz mu vn vz vc vv vp 1 mK mA mB mC mf ml mc mL md mi g1.2.1 g1.2.2) := hD
            refine lv_aload_n hx hb dMo_one_388 rfl (lv_at hl 3 rfl) ?_
            refine lv_iload_n hx hb dMo_one_389 rfl (lv_at hl 0 rfl) ?_
            refine lv_if_eq (tgt := 403) hx hb dMo_one_390 (by decide) (fun h30 => ?_) (fun h30 => ?_)
            · refine lv_aload_n hx hb dMo_one_403 rfl (lv_at hl 3 rfl) ?_
              refine va_get (D := D) (ci := 5) (v := .int vp) (C := RMo) (T := TMo) (N := 27) hx hb hw pinMo hown hE.1 hP 0 rfl rfl 25 (by decide) (hw _ wd_212) (fun _ h9 => h9) rfl dMo_one_404 ?_
              refine va_put (D := D) (ci := 5) (v := .int vp) (ty := .int) (C := RMo) (T := TMo) (N := 27) hx hb hw pinMo tyMo tyMo_ok nmMo hown hE.1 hP hD hS 0 rfl rfl 25 (by decide) (hw _ wd_212) (fun _ h9 => h9) rfl (by decide +kernel) rfl rfl (Nat.le_of_ble_eq_true rfl) dMo_one_407 (fun H locs hP hD hS => ?_)
              have hP : va_P D vwCl (wM ad cI cS mq mn me mo mt mx mp mz mu vn vz vc vv vp 1 mK mA mB mC mf ml mc mL md mi g1.2.1 g1.2.2) H := hP
              have hD : va_D _ (wM ad cI cS mq mn me mo mt mx mp mz mu vn vz vc vv vp 1 mK mA mB mC mf ml mc mL md mi g1.2.1 g1.2.2) := hD
              refine lv_iload_n hx hb dMo_one_410 rfl (lv_at hl 0 rfl) ?_
              have e9 : FMo_one mz vn vz vc vv vp ve mi mr mw = (g1.1, g1.2.1, g1.2.2, vn, vz, vc, vv, vp, 1) := by rw [hF]; simp only [JMo_one_243, hg1, if_neg h25, if_neg h26, if_pos h27, if_pos h30]
              have p9 : (narrow .boolean (.int vn) = .int vn) ∧ (narrow .boolean (.int vz) = .int vz) ∧ (narrow .boolean (.int vc) = .int vc) := ⟨by first | with_reducible assumption | exact pq_b0 | exact pq_b1 | assumption, by first | with_reducible assumption | exact pq_b0 | exact pq_b1 | assumption, by first | with_reducible assumption | exact pq_b0 | exact pq_b1 | assumption⟩
              exact W.zret (v := g1.1) hx hb hr (by rw [← hg1]; apply b_Mo_memory) (fun t ht hW => ⟨⟨g1.1, (), rfl, ⟨by show _ = _; rw [e9], by rw [e9]; exact p9⟩, by rw [e9, ht]; exact hP, by rw [e9]; exact hD⟩, hS.F ht⟩) hS.2.2 dMo_one_411
            · refine lv_iload_n hx hb dMo_one_393 rfl (lv_at hl 2 rfl) ?_
              refine lv_ldc hx hb hown (hw _ wd_227) dMo_one_394 ?_
              refine lv_icmp_eq (tgt := 403) hx hb dMo_one_396 (by decide) (fun _ => ?_) (fun h9 => absurd h27 h9)
              refine lv_aload_n hx hb dMo_one_403 rfl (lv_at hl 3 rfl) ?_
              refine va_get (D := D) (ci := 5) (v := .int vp) (C := RMo) (T := TMo) (N := 27) hx hb hw pinMo hown hE.1 hP 0 rfl rfl 25 (by decide) (hw _ wd_212) (fun _ h9 => h9) rfl dMo_one_404 ?_
              refine va_put (D := D) (ci := 5) (v := .int vp) (ty := .int) (C := RMo) (T := TMo) (N := 27) hx hb hw pinMo tyMo tyMo_ok nmMo hown hE.1 hP hD hS 0 rfl rfl 25 (by decide) (hw _ wd_212) (fun _ h9 => h9) rfl (by decide +kernel) rfl rfl (Nat.le_of_ble_eq_true rfl) dMo_one_407 (fun H locs hP hD hS => ?_)
              have hP : va_P D vwCl (wM ad cI cS mq mn me mo mt mx mp mz mu vn vz vc vv vp 1 mK mA mB mC mf ml mc mL md mi g1.2.1 g1.2.2) H := hP
              have hD : va_D _ (wM ad cI cS mq mn me mo mt mx mp mz mu vn vz vc vv vp 1 mK mA mB mC mf ml mc mL md mi g1.2.1 g1.2.2) := hD
              refine lv_iload_n hx hb dMo_one_410 rfl (lv_at hl 0 rfl) ?_
              have e9 : FMo_one mz vn vz vc vv vp ve mi mr mw = (g1.1, g1.2.1, g1.2.2, vn, vz, vc, vv, vp, 1) := by rw [hF]; simp only [JMo_one_243, hg1, if_neg h25, if_neg h26, if_pos h27, if_neg h30]
              have p9 : (narrow .boolean (.int vn) = .int vn) ∧ (narrow .boolean (.int vz) = .int vz) ∧ (narrow .boolean (.int vc) = .int vc) := ⟨by first | with_reducible assumption | exact pq_b0 | exact pq_b1 | assumption, by first | with_reducible assumption | exact pq_b0 | exact pq_b1 | assumption, by first | with_reducible assumption | exact pq_b0 | exact pq_b1 | assumption⟩
              exact W.zret (v := g1.1) hx hb hr (by rw [← hg1]; apply b_Mo_memory) (fun t ht hW => ⟨⟨g1.1, (), rfl, ⟨by show _ = _; rw [e9], by rw [e9]; exact p9⟩, by rw [e9, ht]; exact hP, by rw [e9]; exact hD⟩, hS.F ht⟩) hS.2.2 dMo_one_411
    have j216 : ∀ (ls : Array Slot) (H : Heap) (locs : List Loc), FMo_one mz vn vz vc vv vp ve mi mr mw = JMo_one_216 mz vn vz vc vv vp ve mi mr mw → lv_has ls 4 [(3, .int 1), (2, .int (vp + 2)), (1, .int (mi (vp / 2).toNatClampNeg)), (0, .ref (ad 17))] → va_P D vwCl (wM ad cI cS mq mn me mo mt mx mp mz mu vn vz vc vv vp ve mK mA mB mC mf ml mc mL md mi mr mw) H → va_D (va_A (wM ad cI cS mq mn me mo mt mx mp mz mu vn vz vc vv vp ve mK mA mB mC mf ml mc mL md mi mr mw) s.heap.size) (wM ad cI cS mq mn me mo mt mx mp mz mu vn vz vc vv vp ve mK mA mB mC mf ml mc mL md mi mr mw) → va_S (va_A (wM ad cI cS mq mn me mo mt mx mp mz mu vn vz vc vv vp ve mK mA mB mC mf ml mc mL md mi mr mw) s.heap.size) s.heap H locs → W p l e (headSpec (.code yMo_one cMo_one 4 (some .boolean) :: pq_ws) { frames := 3, cells := 0, slots := 0, locals := 69 }).room s m ([.ref (ad 17)] : List Value).toArray below meth c H locs 0 0 (MQ below (va_Qi (fun (r : Int32) (_ : Unit) => r = ((FMo_one mz vn vz vc vv vp ve mi mr mw).1) ∧ ((narrow .boolean (.int ((FMo_one mz vn vz vc vv vp ve mi mr mw).2.2.2.1)) = .int ((FMo_one mz vn vz vc vv vp ve mi mr mw).2.2.2.1)) ∧ (narrow .boolean (.int ((FMo_one mz vn vz vc vv vp ve mi mr mw).2.2.2.2.1)) = .int ((FMo_one mz vn vz vc vv vp ve mi mr mw).2.2.2.2.1)) ∧ (narrow .boolean (.int ((FMo_one mz vn vz vc vv vp ve mi mr mw).2.2.2.2.2.1)) = .int ((FMo_one mz vn vz vc vv vp ve mi mr mw).2.2.2.2.2.1)))) (pq_B D (wM ad cI cS mq mn me mo mt mx mp mz mu vn vz vc vv vp ve mK mA mB mC mf ml mc mL md mi mr mw) s.heap.size (fun _ => (wM ad cI cS mq mn me mo mt mx mp mz mu ((FMo_one mz vn vz vc vv vp ve mi mr mw).2.2.2.1) ((FMo_one mz vn vz vc vv vp ve mi mr mw).2.2.2.2.1) ((FMo_one mz vn vz vc vv vp ve mi mr mw).2.2.2.2.2.1) ((FMo_one mz vn vz vc vv vp ve mi mr mw).2.2.2.2.2.2.1) ((FMo_one mz vn vz vc vv vp ve mi mr mw).2.2.2.2.2.2.2.1) ((FMo_one mz vn vz vc vv vp ve mi mr mw).2.2.2.2.2.2.2.2) mK mA mB mC mf ml mc mL md mi ((FMo_one mz vn vz vc vv vp ve mi mr mw).2.1) ((FMo_one mz vn vz vc vv vp ve mi mr mw).2.2.1)))) (va_A (wM ad cI cS mq mn me mo mt mx mp mz mu vn vz vc vv vp ve mK mA mB mC mf ml mc mL md mi mr mw) s.heap.size)) ([.ref (ad 17)] : List Value).toArray s 0 0 (va_A (wM ad cI cS mq mn me mo mt mx mp mz mu vn vz vc vv vp ve mK mA mB mC mf ml mc mL md mi mr mw) s.heap.size)) (F0 m 216 ls []) := by
      intro ls H locs hF hl hP hD hS
      refine lv_iload_n hx hb dMo_one_216 rfl (lv_at hl 2 rfl) ?_
      refine lv_sipush (v := 18432) hx hb dMo_one_217 (by first | rfl | decide) ?_
      refine lv_icmp_lt (tgt := 243) hx hb dMo_one_220 (by decide) (fun h32 => ?_) (fun h32 => ?_)
      · have e9 : FMo_one mz vn vz vc vv vp ve mi mr mw = JMo_one_243 vn vz vc vv vp ve mi mr mw := by rw [hF]; simp only [JMo_one_216, if_pos h32]
        exact j243 ls H locs e9 (lv_sub hl [0, 1, 2, 3] rfl) hP hD hS
      · refine lv_iload_n hx hb dMo_one_223 rfl (lv_at hl 2 rfl) ?_
        refine lv_sipush (v := 20480) hx hb dMo_one_224 (by first | rfl | decide) ?_
        refine lv_icmp_ge (tgt := 243) hx hb dMo_one_227 (by decide) (fun h33 => ?_) (fun h33 => ?_)
        · have e9 : FMo_one mz vn vz vc vv vp ve mi mr mw = JMo_one_243 vn vz vc vv vp ve mi mr mw := by rw [hF]; simp only [JMo_one_216, if_neg h32, if_pos h33]
          exact j243 ls H locs e9 (lv_sub hl [0, 1, 2, 3] rfl) hP hD hS
        · refine lv_aload_n hx hb dMo_one_230 rfl (lv_at hl 3 rfl) ?_
          refine lv_iload_n hx hb dMo_one_231 rfl (lv_at hl 2 rfl) ?_
          refine lv_sipush (v := 18432) hx hb dMo_one_232 (by first | rfl | decide) ?_
          refine lv_isub hx hb dMo_one_235 ?_
          refine pq_calli (fr := ((FMo_constantTo ((mi (vp / 2).toNatClampNeg) - 18432) mz vp mi mr).1)) (wc := (wM ad cI cS mq mn me mo mt mx mp mz mu vn vz vc vv vp ve mK mA mB mC mf ml mc mL md mi mr mw)) (wr := ([] : List Nat).filterMap (fun i => (wM ad cI cS mq mn me mo mt mx mp mz mu vn vz vc vv vp ve mK mA mB mC mf ml mc mL md mi mr mw)[i]?)) hP hD hS hA [0, 1, 2, 3, 4, 5, 6, 7, 8, 9, 10, 11, 12] [] rfl rfl (by decide) (by decide) (va_runV (own := RMo) (C := RMo) (As := [.int ((mi (vp / 2).toNatClampNeg) - 18432)]) (rest := []) ⟨hx, hb, hml, hown, hw⟩ (k_Mo_constantTo l D ad cI cS ((mi (vp / 2).toNatClampNeg) - 18432) mq mn me mo mt mx mp mz mu vn vz vc vv vp ve mK mA mB mC mf ml mc mL md mi mr mw (pq_sub0 (by assumption) (by decide)) (pq_sub1 (by assumption) (by assumption)) (pq_vp0 hmz0 hmz (by assumption)) (pq_vp1 hmz0 hmz (by assumption)) hmz H.size) ⟨pq_cwB 1 hw wd_245 wd_186 wd_244 rfl rfl (by decide +kernel) ⟨Nat.le_of_ble_eq_true rfl, Nat.le_of_ble_eq_true rfl⟩, hw _ wd_246, hw _ wd_247⟩ (pq_preV (ci := 5) (C := RMo) (T := TMo) (N := 27) hE (hP.sub [0, 1, 2, 3, 4, 5, 6, 7, 8, 9, 10, 11, 12] rfl) (hD.sub [0, 1, 2, 3, 4, 5, 6, 7, 8, 9, 10, 11, 12] (by decide) rfl) rfl 0 rfl) rfl rfl hl.1 rfl (lv_room (Nat.le_of_ble_eq_true rfl)) dMo_one_236 ⟨Nat.zero_le _, Nat.zero_le _⟩) (fun H locs hP hD hS => ?_)
          have hP : va_P D vwCl (wM ad cI cS mq mn me mo mt mx mp mz mu vn vz vc vv vp ve mK mA mB mC mf ml mc mL md mi ((FMo_constantTo ((mi (vp / 2).toNatClampNeg) - 18432) mz vp mi mr).2) mw) H := hP.sub [0, 1, 2, 3, 4, 5, 6, 7, 8, 9, 10, 11, 12] rfl
          have hD : va_D _ (wM ad cI cS mq mn me mo mt mx mp mz mu vn vz vc vv vp ve mK mA mB mC mf ml mc mL md mi ((FMo_constantTo ((mi (vp / 2).toNatClampNeg) - 18432) mz vp mi mr).2) mw) := hD.sub [0, 1, 2, 3, 4, 5, 6, 7, 8, 9, 10, 11, 12] (by decide) rfl
          refine lv_istore_n (lv' := [(3, .int ((FMo_constantTo ((mi (vp / 2).toNatClampNeg) - 18432) mz vp mi mr).1)), (2, .int (vp + 2)), (1, .int (mi (vp / 2).toNatClampNeg)), (0, .ref (ad 17))]) hx hb dMo_one_239 rfl hl (by decide) rfl (fun ls hl => ?_)
          refine lv_goto (tgt := 377) hx hb dMo_one_240 (by decide) ?_
          refine lv_iload_n hx hb dMo_one_377 rfl (lv_at hl 2 rfl) ?_
          refine lv_ldc hx hb hown (hw _ wd_227) dMo_one_378 ?_
          refine lv_icmp_ne (tgt := 388) hx hb dMo_one_380 (by decide) (fun h34 => ?_) (fun h34 => ?_)
          · refine lv_aload_n hx hb dMo_one_388 rfl (lv_at hl 3 rfl) ?_
            refine lv_iload_n hx hb dMo_one_389 rfl (lv_at hl 0 rfl) ?_
            refine lv_if_eq (tgt := 403) hx hb dMo_one_390 (by decide) (fun h35 => ?_) (fun h35 => ?_)
            · refine lv_aload_n hx hb dMo_one_403 rfl (lv_at hl 3 rfl) ?_
              refine va_get (D := D) (ci := 5) (v := .int vp) (C := RMo) (T := TMo) (N := 27) hx hb hw pinMo hown hE.1 hP 0 rfl rfl 25 (by decide) (hw _ wd_212) (fun _ h9 => h9) rfl dMo_one_404 ?_
              refine va_put (D := D) (ci := 5) (v := .int vp) (ty := .int) (C := RMo) (T := TMo) (N := 27) hx hb hw pinMo tyMo tyMo_ok nmMo hown hE.1 hP hD hS 0 rfl rfl 25 (by decide) (hw _ wd_212) (fun _ h9 => h9) rfl (by decide +kernel) rfl rfl (Nat.le_of_ble_eq_true rfl) dMo_one_407 (fun H locs hP hD hS => ?_)
              have hP : va_P D vwCl (wM ad cI cS mq mn me mo mt mx mp mz mu vn vz vc vv vp ve mK mA mB mC mf ml mc mL md mi ((FMo_constantTo ((mi (vp / 2).toNatClampNeg) - 18432) mz vp mi mr).2) mw) H := hP
              have hD : va_D _ (wM ad cI cS mq mn me mo mt mx mp mz mu vn vz vc vv vp ve mK mA mB mC mf ml mc mL md mi ((FMo_constantTo ((mi (vp / 2).toNatClampNeg) - 18432) mz vp mi mr).2) mw) := hD
              refine lv_iload_n hx hb dMo_one_410 rfl (lv_at hl 0 rfl) ?_
              have e9 : FMo_one mz vn vz vc vv vp ve mi mr mw = (((FMo_constantTo ((mi (vp / 2).toNatClampNeg) - 18432) mz vp mi mr).1), (FMo_constantTo ((mi (vp / 2).toNatClampNeg) - 18432) mz vp mi mr).2, mw, vn, vz, vc, vv, vp, ve) := by rw [hF]; simp only [JMo_one_216, if_neg h32, if_neg h33, if_neg h34, if_pos h35]
              have p9 : (narrow .boolean (.int vn) = .int vn) ∧ (narrow .boolean (.int vz) = .int vz) ∧ (narrow .boolean (.int vc) = .int vc) := ⟨by first | with_reducible assumption | exact pq_b0 | exact pq_b1 | assumption, by first | with_reducible assumption | exact pq_b0 | exact pq_b1 | assumption, by first | with_reducible assumption | exact pq_b0 | exact pq_b1 | assumption⟩
              exact W.zret (v := ((FMo_constantTo ((mi (vp / 2).toNatClampNeg) - 18432) mz vp mi mr).1)) hx hb hr (by first | rfl | apply b_Mo_constantTo) (fun t ht hW => ⟨⟨((FMo_constantTo ((mi (vp / 2).toNatClampNeg) - 18432) mz vp mi mr).1), (), rfl, ⟨by show _ = _; rw [e9], by rw [e9]; exact p9⟩, by rw [e9, ht]; exact hP, by rw [e9]; exact hD⟩, hS.F ht⟩) hS.2.2 dMo_one_411
            · refine lv_iload_n hx hb dMo_one_393 rfl (lv_at hl 2 rfl) ?_
              refine lv_ldc hx hb hown (hw _ wd_227) dMo_one_394 ?_
              refine lv_icmp_eq (tgt := 403) hx hb dMo_one_396 (by decide) (fun h9 => absurd h9 h34) (fun _ => ?_)
              refine lv_iload_n hx hb dMo_one_399 rfl (lv_at hl 1 rfl) ?_
              refine lv_goto (tgt := 407) hx hb dMo_one_400 (by decide) ?_
              refine va_put (D := D) (ci := 5) (v := .int (vp + 2)) (ty := .int) (C := RMo) (T := TMo) (N := 27) hx hb hw pinMo tyMo tyMo_ok nmMo hown hE.1 hP hD hS 0 rfl rfl 25 (by decide) (hw _ wd_212) (fun _ h9 => h9) rfl (by decide +kernel) rfl rfl (Nat.le_of_ble_eq_true rfl) dMo_one_407 (fun H locs hP hD hS => ?_)
              have hP : va_P D vwCl (wM ad cI cS mq mn me mo mt mx mp mz mu vn vz vc vv (vp + 2) ve mK mA mB mC mf ml mc mL md mi ((FMo_constantTo ((mi (vp / 2).toNatClampNeg) - 18432) mz vp mi mr).2) mw) H := hP
              have hD : va_D _ (wM ad cI cS mq mn me mo mt mx mp mz mu vn vz vc vv (vp + 2) ve mK mA mB mC mf ml mc mL md mi ((FMo_constantTo ((mi (vp / 2).toNatClampNeg) - 18432) mz vp mi mr).2) mw) := hD
              refine lv_iload_n hx hb dMo_one_410 rfl (lv_at hl 0 rfl) ?_
              have e9 : FMo_one mz vn vz vc vv vp ve mi mr mw = (((FMo_constantTo ((mi (vp / 2).toNatClampNeg) - 18432) mz vp mi mr).1), (FMo_constantTo ((mi (vp / 2).toNatClampNeg) - 18432) mz vp mi mr).2, mw, vn, vz, vc, vv, vp + 2, ve) := by rw [hF]; simp only [JMo_one_216, if_neg h32, if_neg h33, if_neg h34, if_neg h35]
              have p9 : (narrow .boolean (.int vn) = .int vn) ∧ (narrow .boolean (.int vz) = .int vz) ∧ (narrow .boolean (.int vc) = .int vc) := ⟨by first | with_reducible assumption | exact pq_b0 | exact pq_b1 | assumption, by first | with_reducible assumption | exact pq_b0 | exact pq_b1 | assumption, by first | with_reducible assumption | exact pq_b0 | exact pq_b1 | assumption⟩
              exact W.zret (v := ((FMo_constantTo ((mi (vp / 2).toNatClampNeg) - 18432) mz vp mi mr).1)) hx hb hr (by first | rfl | apply b_Mo_constantTo) (fun t ht hW => ⟨⟨((FMo_constantTo ((mi (vp / 2).toNatClampNeg) - 18432) mz vp mi mr).1), (), rfl, ⟨by show _ = _; rw [e9], by rw [e9]; exact p9⟩, by rw [e9, ht]; exact hP, by rw [e9]; exact hD⟩, hS.F ht⟩) hS.2.2 dMo_one_411
          · refine lv_aload_n hx hb dMo_one_383 rfl (lv_at hl 3 rfl) ?_
            refine lv_iconst (v := 1) hx hb dMo_one_384 (by first | rfl | decide) ?_
            refine va_put (D := D) (ci := 5) (v := .int 1) (ty := .int) (C := RMo) (T := TMo) (N := 27) hx hb hw pinMo tyMo tyMo_ok nmMo hown hE.1 hP hD hS 0 rfl rfl 26 (by decide) (hw _ wd_228) (fun _ h9 => h9) rfl (by decide +kernel) rfl rfl (Nat.le_of_ble_eq_true rfl) dMo_one_385 (fun H locs hP hD hS => ?_)
            have hP : va_P D vwCl (wM ad cI cS mq mn me mo mt mx mp mz mu vn vz vc vv vp 1 mK mA mB mC mf ml mc mL md mi ((FMo_constantTo ((mi (vp / 2).toNatClampNeg) - 18432) mz vp mi mr).2) mw) H := hP
            have hD : va_D _ (wM ad cI cS mq mn me mo mt mx mp mz mu vn vz vc vv vp 1 mK mA mB mC mf ml mc mL md mi ((FMo_constantTo ((mi (vp / 2).toNatClampNeg) - 18432) mz vp mi mr).2) mw) := hD
            refine lv_aload_n hx hb dMo_one_388 rfl (lv_at hl 3 rfl) ?_
            refine lv_iload_n hx hb dMo_one_389 rfl (lv_at hl 0 rfl) ?_
            refine lv_if_eq (tgt := 403) hx hb dMo_one_390 (by decide) (fun h37 => ?_) (fun h37 => ?_)
            · refine lv_aload_n hx hb dMo_one_403 rfl (lv_at hl 3 rfl) ?_
              refine va_get (D := D) (ci := 5) (v := .int vp) (C := RMo) (T := TMo) (N := 27) hx hb hw pinMo hown hE.1 hP 0 rfl rfl 25 (by decide) (hw _ wd_212) (fun _ h9 => h9) rfl dMo_one_404 ?_
              refine va_put (D := D) (ci := 5) (v := .int vp) (ty := .int) (C := RMo) (T := TMo) (N := 27) hx hb hw pinMo tyMo tyMo_ok nmMo hown hE.1 hP hD hS 0 rfl rfl 25 (by decide) (hw _ wd_212) (fun _ h9 => h9) rfl (by decide +kernel) rfl rfl (Nat.le_of_ble_eq_true rfl) dMo_one_407 (fun H locs hP hD hS => ?_)
              have hP : va_P D vwCl (wM ad cI cS mq mn me mo mt mx mp mz mu vn vz vc vv vp 1 mK mA mB mC mf ml mc mL md mi ((FMo_constantTo ((mi (vp / 2).toNatClampNeg) - 18432) mz vp mi mr).2) mw) H := hP
              have hD : va_D _ (wM ad cI cS mq mn me mo mt mx mp mz mu vn vz vc vv vp 1 mK mA mB mC mf ml mc mL md mi ((FMo_constantTo ((mi (vp / 2).toNatClampNeg) - 18432) mz vp mi mr).2) mw) := hD
              refine lv_iload_n hx hb dMo_one_410 rfl (lv_at hl 0 rfl) ?_
              have e9 : FMo_one mz vn vz vc vv vp ve mi mr mw = (((FMo_constantTo ((mi (vp / 2).toNatClampNeg) - 18432) mz vp mi mr).1), (FMo_constantTo ((mi (vp / 2).toNatClampNeg) - 18432) mz vp mi mr).2, mw, vn, vz, vc, vv, vp, 1) := by rw [hF]; simp only [JMo_one_216, if_neg h32, if_neg h33, if_pos h34, if_pos h37]
              have p9 : (narrow .boolean (.int vn) = .int vn) ∧ (narrow .boolean (.int vz) = .int vz) ∧ (narrow .boolean (.int vc) = .int vc) := ⟨by first | with_reducible assumption | exact pq_b0 | exact pq_b1 | assumption, by first | with_reducible assumption | exact pq_b0 | exact pq_b1 | assumption, by first | with_reducible assumption | exact pq_b0 | exact pq_b1 | assumption⟩
              exact W.zret (v := ((FMo_constantTo ((mi (vp / 2).toNatClampNeg) - 18432) mz vp mi mr).1)) hx hb hr (by first | rfl | apply b_Mo_constantTo) (fun t ht hW => ⟨⟨((FMo_constantTo ((mi (vp / 2).toNatClampNeg) - 18432) mz vp mi mr).1), (), rfl, ⟨by show _ = _; rw [e9], by rw [e9]; exact p9⟩, by rw [e9, ht]; exact hP, by rw [e9]; exact hD⟩, hS.F ht⟩) hS.2.2 dMo_one_411
            · refine lv_iload_n hx hb dMo_one_393 rfl (lv_at hl 2 rfl) ?_
              refine lv_ldc hx hb hown (hw _ wd_227) dMo_one_394 ?_
              refine lv_icmp_eq (tgt := 403) hx hb dMo_one_396 (by decide) (fun _ => ?_) (fun h9 => absurd h34 h9)
              refine lv_aload_n hx hb dMo_one_403 rfl (lv_at hl 3 rfl) ?_
              refine va_get (D := D) (ci := 5) (v := .int vp) (C := RMo) (T := TMo) (N := 27) hx hb hw pinMo hown hE.1 hP 0 rfl rfl 25 (by decide) (hw _ wd_212) (fun _ h9 => h9) rfl dMo_one_404 ?_
              refine va_put (D := D) (ci := 5) (v := .int vp) (ty := .int) (C := RMo) (T := TMo) (N := 27) hx hb hw pinMo tyMo tyMo_ok nmMo hown hE.1 hP hD hS 0 rfl rfl 25 (by decide) (hw _ wd_212) (fun _ h9 => h9) rfl (by decide +kernel) rfl rfl (Nat.le_of_ble_eq_true rfl) dMo_one_407 (fun H locs hP hD hS => ?_)
              have hP : va_P D vwCl (wM ad cI cS mq mn me mo mt mx mp mz mu vn vz vc vv vp 1 mK mA mB mC mf ml mc mL md mi ((FMo_constantTo ((mi (vp / 2).toNatClampNeg) - 18432) mz vp mi mr).2) mw) H := hP
              have hD : va_D _ (wM ad cI cS mq mn me mo mt mx mp mz mu vn vz vc vv vp 1 mK mA mB mC mf ml mc mL md mi ((FMo_constantTo ((mi (vp / 2).toNatClampNeg) - 18432) mz vp mi mr).2) mw) := hD
              refine lv_iload_n hx hb dMo_one_410 rfl (lv_at hl 0 rfl) ?_
              have e9 : FMo_one mz vn vz vc vv vp ve mi mr mw = (((FMo_constantTo ((mi (vp / 2).toNatClampNeg) - 18432) mz vp mi mr).1), (FMo_constantTo ((mi (vp / 2).toNatClampNeg) - 18432) mz vp mi mr).2, mw, vn, vz, vc, vv, vp, 1) := by rw [hF]; simp only [JMo_one_216, if_neg h32, if_neg h33, if_pos h34, if_neg h37]
              have p9 : (narrow .boolean (.int vn) = .int vn) ∧ (narrow .boolean (.int vz) = .int vz) ∧ (narrow .boolean (.int vc) = .int vc) := ⟨by first | with_reducible assumption | exact pq_b0 | exact pq_b1 | assumption, by first | with_reducible assumption | exact pq_b0 | exact pq_b1 | assumption, by first | with_reducible assumption | exact pq_b0 | exact pq_b1 | assumption⟩
              exact W.zret (v := ((FMo_constantTo ((mi (vp / 2).toNatClampNeg) - 18432) mz vp mi mr).1)) hx hb hr (by first | rfl | apply b_Mo_constantTo) (fun t ht hW => ⟨⟨((FMo_constantTo ((mi (vp / 2).toNatClampNeg) - 18432) mz vp mi mr).1), (), rfl, ⟨by show _ = _; rw [e9], by rw [e9]; exact p9⟩, by rw [e9, ht]; exact hP, by rw [e9]; exact hD⟩, hS.F ht⟩) hS.2.2 dMo_one_411
    have j176 : ∀ (ls : Array Slot) (H : Heap) (locs : List Loc), FMo_one mz vn vz vc vv vp ve mi mr mw = JMo_one_176 mz vn vz vc vv vp ve mi mr mw → lv_has ls 4 [(3, .int 1), (2, .int (vp + 2)), (1, .int (mi (vp / 2).toNatClampNeg)), (0, .ref (ad 17))] → va_P D vwCl (wM ad cI cS mq mn me mo mt mx mp mz mu vn vz vc vv vp ve mK mA mB mC mf ml mc mL md mi mr mw) H → va_D (va_A (wM ad cI cS mq mn me mo mt mx mp mz mu vn vz vc vv vp ve mK mA mB mC mf ml mc mL md mi mr mw) s.heap.size) (wM ad cI cS mq mn me mo mt mx mp mz mu vn vz vc vv vp ve mK mA mB mC mf ml mc mL md mi mr mw) → va_S (va_A (wM ad cI cS mq mn me mo mt mx mp mz mu vn vz vc vv vp ve mK mA mB mC mf ml mc mL md mi mr mw) s.heap.size) s.heap H locs → W p l e (headSpec (.code yMo_one cMo_one 4 (some .boolean) :: pq_ws) { frames := 3, cells := 0, slots := 0, locals := 69 }).room s m ([.ref (ad 17)] : List Value).toArray below meth c H locs 0 0 (MQ below (va_Qi (fun (r : Int32) (_ : Unit) => r = ((FMo_one mz vn vz vc vv vp ve mi mr mw).1) ∧ ((narrow .boolean (.int ((FMo_one mz vn vz vc vv vp ve mi mr mw).2.2.2.1)) = .int ((FMo_one mz vn vz vc vv vp ve mi mr mw).2.2.2.1)) ∧ (narrow .boolean (.int ((FMo_one mz vn vz vc vv vp ve mi mr mw).2.2.2.2.1)) = .int ((FMo_one mz vn vz vc vv vp ve mi mr mw).2.2.2.2.1)) ∧ (narrow .boolean (.int ((FMo_one mz vn vz vc vv vp ve mi mr mw).2.2.2.2.2.1)) = .int ((FMo_one mz vn vz vc vv vp ve mi mr mw).2.2.2.2.2.1)))) (pq_B D (wM ad cI cS mq mn me mo mt mx mp mz mu vn vz vc vv vp ve mK mA mB mC mf ml mc mL md mi mr mw) s.heap.size (fun _ => (wM ad cI cS mq mn me mo mt mx mp mz mu ((FMo_one mz vn vz vc vv vp ve mi mr mw).2.2.2.1) ((FMo_one mz vn vz vc vv vp ve mi mr mw).2.2.2.2.1) ((FMo_one mz vn vz vc vv vp ve mi mr mw).2.2.2.2.2.1) ((FMo_one mz vn vz vc vv vp ve mi mr mw).2.2.2.2.2.2.1) ((FMo_one mz vn vz vc vv vp ve mi mr mw).2.2.2.2.2.2.2.1) ((FMo_one mz vn vz vc vv vp ve mi mr mw).2.2.2.2.2.2.2.2) mK mA mB mC mf ml mc mL md mi ((FMo_one mz vn vz vc vv vp ve mi mr mw).2.1) ((FMo_one mz vn vz vc vv vp ve mi mr mw).2.2.1)))) (va_A (wM ad cI cS mq mn me mo mt mx mp mz mu vn vz vc vv vp ve mK mA mB mC mf ml mc mL md mi mr mw) s.heap.size)) ([.ref (ad 17)] : List Value).toArray s 0 0 (va_A (wM ad cI cS mq mn me mo mt mx mp mz mu vn vz vc vv vp ve mK mA mB mC mf ml mc mL md mi mr mw) s.heap.size)) (F0 m 176 ls []) := by
      intro ls H locs hF hl hP hD hS
      refine lv_iload_n hx hb dMo_one_176 rfl (lv_at hl 2 rfl) ?_
      refine lv_sipush (v := 16384) hx hb dMo_one_177 (by first | rfl | decide) ?_
      refine lv_icmp_lt (tgt := 216) hx hb dMo_one_180 (by decide) (fun h39 => ?_) (fun h39 => ?_)
      · have e9 : FMo_one mz vn vz vc vv vp ve mi mr mw = JMo_one_216 mz vn vz vc vv vp ve mi mr mw := by rw [hF]; simp only [JMo_one_176, if_pos h39]
        exact j216 ls H locs e9 (lv_sub hl [0, 1, 2, 3] rfl) hP hD hS
      · refine lv_iload_n hx hb dMo_one_183 rfl (lv_at hl 2 rfl) ?_
        refine lv_sipush (v := 17408) hx hb dMo_one_184 (by first | rfl | decide) ?_
        refine lv_icmp_ge (tgt := 216) hx hb dMo_one_187 (by decide) (fun h40 => ?_) (fun h40 => ?_)
        · have e9 : FMo_one mz vn vz vc vv vp ve mi mr mw = JMo_one_216 mz vn vz vc vv vp ve mi mr mw := by rw [hF]; simp only [JMo_one_176, if_neg h39, if_pos h40]
          exact j216 ls H locs e9 (lv_sub hl [0, 1, 2, 3] rfl) hP hD hS
        · refine lv_iload_n hx hb dMo_one_190 rfl (lv_at hl 2 rfl) ?_
          refine lv_sipush (v := 16384) hx hb dMo_one_191 (by first | rfl | decide) ?_
          refine lv_isub hx hb dMo_one_194 ?_
          refine lv_bipush (v := 64) hx hb dMo_one_195 (by first | rfl | decide) ?_
          refine lv_idiv hx hb dMo_one_197 (by decide) ?_
          refine pq_calli (fr := (FMo_isDeed (((mi (vp / 2).toNatClampNeg) - 16384) / 64))) (wc := (wN ad cI cS)) (wr := ([0, 1, 2, 3, 4, 5, 6, 7, 8, 9, 10, 11, 12] : List Nat).filterMap (fun i => (wM ad cI cS mq mn me mo mt mx mp mz mu vn vz vc vv vp ve mK mA mB mC mf ml mc mL md mi mr mw)[i]?)) hP hD hS hA [] [0, 1, 2, 3, 4, 5, 6, 7, 8, 9, 10, 11, 12] rfl rfl (by decide) (by decide) (va_runS (own := RMo) (As := [.int (((mi (vp / 2).toNatClampNeg) - 16384) / 64)]) (rest := []) ⟨hx, hb, hml, hown, hw⟩ (k_Mo_isDeed l D ad cI cS (((mi (vp / 2).toNatClampNeg) - 16384) / 64) H.size) ⟨pq_cwB 1 hw wd_193 wd_186 wd_192 rfl rfl (by decide +kernel) ⟨Nat.le_of_ble_eq_true rfl, Nat.le_of_ble_eq_true rfl⟩, hw _ wd_194⟩ (pq_preS hE (hP.sub [] rfl) (hD.sub [] (by decide) rfl)) rfl rfl hl.1 rfl (lv_room (Nat.le_of_ble_eq_true rfl)) dMo_one_198 ⟨Nat.zero_le _, Nat.zero_le _⟩) (fun H locs hP hD hS => ?_)
          have hP : va_P D vwCl (wM ad cI cS mq mn me mo mt mx mp mz mu vn vz vc vv vp ve mK mA mB mC mf ml mc mL md mi mr mw) H := hP.sub [0, 1, 2, 3, 4, 5, 6, 7, 8, 9, 10, 11, 12] rfl
          have hD : va_D _ (wM ad cI cS mq mn me mo mt mx mp mz mu vn vz vc vv vp ve mK mA mB mC mf ml mc mL md mi mr mw) := hD.sub [0, 1, 2, 3, 4, 5, 6, 7, 8, 9, 10, 11, 12] (by decide) rfl
          refine lv_if_eq (tgt := 216) hx hb dMo_one_201 (by decide) (fun h41 => ?_) (fun h41 => ?_)
          · have e9 : FMo_one mz vn vz vc vv vp ve mi mr mw = JMo_one_216 mz vn vz vc vv vp ve mi mr mw := by rw [hF]; simp only [JMo_one_176, if_neg h39, if_neg h40, if_pos h41]
            exact j216 ls H locs e9 (lv_sub hl [0, 1, 2, 3] rfl) hP hD hS
          · refine lv_aload_n hx hb dMo_one_204 rfl (lv_at hl 3 rfl) ?_
            refine lv_iload_n hx hb dMo_one_205 rfl (lv_at hl 2 rfl) ?_
            refine lv_sipush (v := 16384) hx hb dMo_one_206 (by first | rfl | decide) ?_
            refine lv_isub hx hb dMo_one_209 ?_
            obtain ⟨g2, hg2⟩ : ∃ g9, FMo_deed ((mi (vp / 2).toNatClampNeg) - 16384) vc vv mr = g9 := ⟨_, rfl⟩
            have cg2 := k_Mo_deed l D ad cI cS ((mi (vp / 2).toNatClampNeg) - 16384) mq mn me mo mt mx mp mz mu vn vz vc vv vp ve mK mA mB mC mf ml mc mL md mi mr mw (pq_sub0 (by assumption) (by decide)) bn bz bc
            rw [hg2] at cg2
            refine pq_callvp (wc := (wM ad cI cS mq mn me mo mt mx mp mz mu vn vz vc vv vp ve mK mA mB mC mf ml mc mL md mi mr mw)) (wr := ([] : List Nat).filterMap (fun i => (wM ad cI cS mq mn me mo mt mx mp mz mu vn vz vc vv vp ve mK mA mB mC mf ml mc mL md mi mr mw)[i]?)) hP hD hS hA [0, 1, 2, 3, 4, 5, 6, 7, 8, 9, 10, 11, 12] [] rfl rfl (by decide) (by decide) (va_runV (own := RMo) (C := RMo) (As := [.int ((mi (vp / 2).toNatClampNeg) - 16384)]) (rest := []) ⟨hx, hb, hml, hown, hw⟩ (cg2 H.size) ⟨pq_cwB 1 hw wd_249 wd_186 wd_248 rfl rfl (by decide +kernel) ⟨Nat.le_of_ble_eq_true rfl, Nat.le_of_ble_eq_true rfl⟩, hw _ wd_250, hw _ wd_251⟩ (pq_preV (ci := 5) (C := RMo) (T := TMo) (N := 27) hE (hP.sub [0, 1, 2, 3, 4, 5, 6, 7, 8, 9, 10, 11, 12] rfl) (hD.sub [0, 1, 2, 3, 4, 5, 6, 7, 8, 9, 10, 11, 12] (by decide) rfl) rfl 0 rfl) rfl rfl hl.1 rfl (lv_room (Nat.le_of_ble_eq_true rfl)) dMo_one_210 ⟨Nat.zero_le _, Nat.zero_le _⟩) (fun hq9 H locs hP hD hS => ?_)
            obtain ⟨bn, bz, bc⟩ := hq9
            have hP : va_P D vwCl (wM ad cI cS mq mn me mo mt mx mp mz mu g2.2.1 g2.2.2.1 g2.2.2.2.1 g2.2.2.2.2 vp ve mK mA mB mC mf ml mc mL md mi g2.1 mw) H := hP.sub [0, 1, 2, 3, 4, 5, 6, 7, 8, 9, 10, 11, 12] rfl
            have hD : va_D _ (wM ad cI cS mq mn me mo mt mx mp mz mu g2.2.1 g2.2.2.1 g2.2.2.2.1 g2.2.2.2.2 vp ve mK mA mB mC mf ml mc mL md mi g2.1 mw) := hD.sub [0, 1, 2, 3, 4, 5, 6, 7, 8, 9, 10, 11, 12] (by decide) rfl
            refine lv_goto (tgt := 377) hx hb dMo_one_213 (by decide) ?_
            refine lv_iload_n hx hb dMo_one_377 rfl (lv_at hl 2 rfl) ?_
            refine lv_ldc hx hb hown (hw _ wd_227) dMo_one_378 ?_
            refine lv_icmp_ne (tgt := 388) hx hb dMo_one_380 (by decide) (fun h42 => ?_) (fun h42 => ?_)
            · refine lv_aload_n hx hb dMo_one_388 rfl (lv_at hl 3 rfl) ?_
              refine lv_iload_n hx hb dMo_one_389 rfl (lv_at hl 0 rfl) ?_
              refine lv_if_eq (tgt := 403) hx hb dMo_one_390 (by decide) (fun h9 => absurd h9 (by decide)) (fun _ => ?_)
              refine lv_iload_n hx hb dMo_one_393 rfl (lv_at hl 2 rfl) ?_
              refine lv_ldc hx hb hown (hw _ wd_227) dMo_one_394 ?_
              refine lv_icmp_eq (tgt := 403) hx hb dMo_one_396 (by decide) (fun h9 => absurd h9 h42) (fun _ => ?_)
              refine lv_iload_n hx hb dMo_one_399 rfl (lv_at hl 1 rfl) ?_
              refine lv_goto (tgt := 407) hx hb dMo_one_400 (by decide) ?_
              refine va_put (D := D) (ci := 5) (v := .int (vp + 2)) (ty := .int) (C := RMo) (T := TMo) (N := 27) hx hb hw pinMo tyMo tyMo_ok nmMo hown hE.1 hP hD hS 0 rfl rfl 25 (by decide) (hw _ wd_212) (fun _ h9 => h9) rfl (by decide +kernel) rfl rfl (Nat.le_of_ble_eq_true rfl) dMo_one_407 (fun H locs hP hD hS => ?_)
              have hP : va_P D vwCl (wM ad cI cS mq mn me mo mt mx mp mz mu g2.2.1 g2.2.2.1 g2.2.2.2.1 g2.2.2.2.2 (vp + 2) ve mK mA mB mC mf ml mc mL md mi g2.1 mw) H := hP
              have hD : va_D _ (wM ad cI cS mq mn me mo mt mx mp mz mu g2.2.1 g2.2.2.1 g2.2.2.2.1 g2.2.2.2.2 (vp + 2) ve mK mA mB mC mf ml mc mL md mi g2.1 mw) := hD
              refine lv_iload_n hx hb dMo_one_410 rfl (lv_at hl 0 rfl) ?_
              have e9 : FMo_one mz vn vz vc vv vp ve mi mr mw = (1, g2.1, mw, g2.2.1, g2.2.2.1, g2.2.2.2.1, g2.2.2.2.2, vp + 2, ve) := by rw [hF]; simp only [JMo_one_176, hg2, if_neg h39, if_neg h40, if_neg h41, if_neg h42]
              have p9 : (narrow .boolean (.int g2.2.1) = .int g2.2.1) ∧ (narrow .boolean (.int g2.2.2.1) = .int g2.2.2.1) ∧ (narrow .boolean (.int g2.2.2.2.1) = .int g2.2.2.2.1) := ⟨by first | with_reducible assumption | exact pq_b0 | exact pq_b1 | assumption, by first | with_reducible assumption | exact pq_b0 | exact pq_b1 | assumption, by first | with_reducible assumption | exact pq_b0 | exact pq_b1 | assumption⟩
              exact W.zret (v := 1) hx hb hr rfl (fun t ht hW => ⟨⟨1, (), rfl, ⟨by show _ = _; rw [e9], by rw [e9]; exact p9⟩, by rw [e9, ht]; exact hP, by rw [e9]; exact hD⟩, hS.F ht⟩) hS.2.2 dMo_one_411
            · refine lv_aload_n hx hb dMo_one_383 rfl (lv_at hl 3 rfl) ?_
              refine lv_iconst (v := 1) hx hb dMo_one_384 (by first | rfl | decide) ?_
              refine va_put (D := D) (ci := 5) (v := .int 1) (ty := .int) (C := RMo) (T := TMo) (N := 27) hx hb hw pinMo tyMo tyMo_ok nmMo hown hE.1 hP hD hS 0 rfl rfl 26 (by decide) (hw _ wd_228) (fun _ h9 => h9) rfl (by decide +kernel) rfl rfl (Nat.le_of_ble_eq_true rfl) dMo_one_385 (fun H locs hP hD hS => ?_)
              have hP : va_P D vwCl (wM ad cI cS mq mn me mo mt mx mp mz mu g2.2.1 g2.2.2.1 g2.2.2.2.1 g2.2.2.2.2 vp 1 mK mA mB mC mf ml mc mL md mi g2.1 mw) H := hP
              have hD : va_D _ (wM ad cI cS mq mn me mo mt mx mp mz mu g2.2.1 g2.2.2.1 g2.2.2.2.1 g2.2.2.2.2 vp 1 mK mA mB mC mf ml mc mL md mi g2.1 mw) := hD
              refine lv_aload_n hx hb dMo_one_388 rfl (lv_at hl 3 rfl) ?_
              refine lv_iload_n hx hb dMo_one_389 rfl (lv_at hl 0 rfl) ?_
              refine lv_if_eq (tgt := 403) hx hb dMo_one_390 (by decide) (fun h9 => absurd h9 (by decide)) (fun _ => ?_)
              refine lv_iload_n hx hb dMo_one_393 rfl (lv_at hl 2 rfl) ?_
              refine lv_ldc hx hb hown (hw _ wd_227) dMo_one_394 ?_
              refine lv_icmp_eq (tgt := 403) hx hb dMo_one_396 (by decide) (fun _ => ?_) (fun h9 => absurd h42 h9)
              refine lv_aload_n hx hb dMo_one_403 rfl (lv_at hl 3 rfl) ?_
              refine va_get (D := D) (ci := 5) (v := .int vp) (C := RMo) (T := TMo) (N := 27) hx hb hw pinMo hown hE.1 hP 0 rfl rfl 25 (by decide) (hw _ wd_212) (fun _ h9 => h9) rfl dMo_one_404 ?_
              refine va_put (D := D) (ci := 5) (v := .int vp) (ty := .int) (C := RMo) (T := TMo) (N := 27) hx hb hw pinMo tyMo tyMo_ok nmMo hown hE.1 hP hD hS 0 rfl rfl 25 (by decide) (hw _ wd_212) (fun _ h9 => h9) rfl (by decide +kernel) rfl rfl (Nat.le_of_ble_eq_true rfl) dMo_one_407 (fun H locs hP hD hS => ?_)
              have hP : va_P D vwCl (wM ad cI cS mq mn me mo mt mx mp mz mu g2.2.1 g2.2.2.1 g2.2.2.2.1 g2.2.2.2.2 vp 1 mK mA mB mC mf ml mc mL md mi g2.1 mw) H := hP
              have hD : va_D _ (wM ad cI cS mq mn me mo mt mx mp mz mu g2.2.1 g2.2.2.1 g2.2.2.2.1 g2.2.2.2.2 vp 1 mK mA mB mC mf ml mc mL md mi g2.1 mw) := hD
              refine lv_iload_n hx hb dMo_one_410 rfl (lv_at hl 0 rfl) ?_
              have e9 : FMo_one mz vn vz vc vv vp ve mi mr mw = (1, g2.1, mw, g2.2.1, g2.2.2.1, g2.2.2.2.1, g2.2.2.2.2, vp, 1) := by rw [hF]; simp only [JMo_one_176, hg2, if_neg h39, if_neg h40, if_neg h41, if_pos h42]
              have p9 : (narrow .boolean (.int g2.2.1) = .int g2.2.1) ∧ (narrow .boolean (.int g2.2.2.1) = .int g2.2.2.1) ∧ (narrow .boolean (.int g2.2.2.2.1) = .int g2.2.2.2.1) := ⟨by first | with_reducible assumption | exact pq_b0 | exact pq_b1 | assumption, by first | with_reducible assumption | exact pq_b0 | exact pq_b1 | assumption, by first | with_reducible assumption | exact pq_b0 | exact pq_b1 | assumption⟩
              exact W.zret (v := 1) hx hb hr rfl (fun t ht hW => ⟨⟨1, (), rfl, ⟨by show _ = _; rw [e9], by rw [e9]; exact p9⟩, by rw [e9, ht]; exact hP, by rw [e9]; exact hD⟩, hS.F ht⟩) hS.2.2 dMo_one_411
    have j122 : ∀ (ls : Array Slot) (H : Heap) (locs : List Loc), FMo_one mz vn vz vc vv vp ve mi mr mw = JMo_one_122 mz vn vz vc vv vp ve mi mr mw → lv_has ls 4 [(3, .int 1), (2, .int (vp + 2)), (1, .int (mi (vp / 2).toNatClampNeg)), (0, .ref (ad 17))] → va_P D vwCl (wM ad cI cS mq mn me mo mt mx mp mz mu vn vz vc vv vp ve mK mA mB mC mf ml mc mL md mi mr mw) H → va_D (va_A (wM ad cI cS mq mn me mo mt mx mp mz mu vn vz vc vv vp ve mK mA mB mC mf ml mc mL md mi mr mw) s.heap.size) (wM ad cI cS mq mn me mo mt mx mp mz mu vn vz vc vv vp ve mK mA mB mC mf ml mc mL md mi mr mw) → va_S (va_A (wM ad cI cS mq mn me mo mt mx mp mz mu vn vz vc vv vp ve mK mA mB mC mf ml mc mL md mi mr mw) s.heap.size) s.heap H locs → W p l e (headSpec (.code yMo_one cMo_one 4 (some .boolean) :: pq_ws) { frames := 3, cells := 0, slots := 0, locals := 69 }).room s m ([.ref (ad 17)] : List Value).toArray below meth c H locs 0 0 (MQ below (va_Qi (fun (r : Int32) (_ : Unit) => r = ((FMo_one mz vn vz vc vv vp ve mi mr mw).1) ∧ ((narrow .boolean (.int ((FMo_one mz vn vz vc vv vp ve mi mr mw).2.2.2.1)) = .int ((FMo_one mz vn vz vc vv vp ve mi mr mw).2.2.2.1)) ∧ (narrow .boolean (.int ((FMo_one mz vn vz vc vv vp ve mi mr mw).2.2.2.2.1)) = .int ((FMo_one mz vn vz vc vv vp ve mi mr mw).2.2.2.2.1)) ∧ (narrow .boolean (.int ((FMo_one mz vn vz vc vv vp ve mi mr mw).2.2.2.2.2.1)) = .int ((FMo_one mz vn vz vc vv vp ve mi mr mw).2.2.2.2.2.1)))) (pq_B D (wM ad cI cS mq mn me mo mt mx mp mz mu vn vz vc vv vp ve mK mA mB mC mf ml mc mL md mi mr mw) s.heap.size (fun _ => (wM ad cI cS mq mn me mo mt mx mp mz mu ((FMo_one mz vn vz vc vv vp ve mi mr mw).2.2.2.1) ((FMo_one mz vn vz vc vv vp ve mi mr mw).2.2.2.2.1) ((FMo_one mz vn vz vc vv vp ve mi mr mw).2.2.2.2.2.1) ((FMo_one mz vn vz vc vv vp ve mi mr mw).2.2.2.2.2.2.1) ((FMo_one mz vn vz vc vv vp ve mi mr mw).2.2.2.2.2.2.2.1) ((FMo_one mz vn vz vc vv vp ve mi mr mw).2.2.2.2.2.2.2.2) mK mA mB mC mf ml mc mL md mi ((FMo_one mz vn vz vc vv vp ve mi mr mw).2.1) ((FMo_one mz vn vz vc vv vp ve mi mr mw).2.2.1)))) (va_A (wM ad cI cS mq mn me mo mt mx mp mz mu vn vz vc vv vp ve mK mA mB mC mf ml mc mL md mi mr mw) s.heap.size)) ([.ref (ad 17)] : List Value).toArray s 0 0 (va_A (wM ad cI cS mq mn me mo mt mx mp mz mu vn vz vc vv vp ve mK mA mB mC mf ml mc mL md mi mr mw) s.heap.size)) (F0 m 122 ls []) := by
      intro ls H locs hF hl hP hD hS
      refine lv_iload_n hx hb dMo_one_122 rfl (lv_at hl 2 rfl) ?_
      refine lv_sipush (v := 6656) hx hb dMo_one_123 (by first | rfl | decide) ?_
      refine lv_icmp_lt (tgt := 176) hx hb dMo_one_126 (by decide) (fun h45 => ?_) (fun h45 => ?_)
      · have e9 : FMo_one mz vn vz vc vv vp ve mi mr mw = JMo_one_176 mz vn vz vc vv vp ve mi mr mw := by rw [hF]; simp only [JMo_one_122, if_pos h45]
        exact j176 ls H locs e9 (lv_sub hl [0, 1, 2, 3] rfl) hP hD hS
      · refine lv_iload_n hx hb dMo_one_129 rfl (lv_at hl 2 rfl) ?_
        refine lv_sipush (v := 7168) hx hb dMo_one_130 (by first | rfl | decide) ?_
        refine lv_icmp_ge (tgt := 176) hx hb dMo_one_133 (by decide) (fun h46 => ?_) (fun h46 => ?_)
        · have e9 : FMo_one mz vn vz vc vv vp ve mi mr mw = JMo_one_176 mz vn vz vc vv vp ve mi mr mw := by rw [hF]; simp only [JMo_one_122, if_neg h45, if_pos h46]
          exact j176 ls H locs e9 (lv_sub hl [0, 1, 2, 3] rfl) hP hD hS
        · refine lv_aload_n hx hb dMo_one_136 rfl (lv_at hl 3 rfl) ?_
          refine va_get (D := D) (ci := 5) (v := .ref (ad 28)) (C := RMo) (T := TMo) (N := 27) hx hb hw pinMo hown hE.1 hP 0 rfl rfl 19 (by decide) (hw _ wd_213) (fun _ h9 => h9) rfl dMo_one_137 ?_
          refine lv_iload_n hx hb dMo_one_140 rfl (lv_at hl 2 rfl) ?_
          refine lv_bipush (v := 8) hx hb dMo_one_141 (by first | rfl | decide) ?_
          refine lv_irem hx hb dMo_one_143 (by decide) ?_
          refine lv_aload_n hx hb dMo_one_144 rfl (lv_at hl 3 rfl) ?_
          refine lv_aload_n hx hb dMo_one_145 rfl (lv_at hl 3 rfl) ?_
          refine va_get (D := D) (ci := 5) (v := .ref (ad 28)) (C := RMo) (T := TMo) (N := 27) hx hb hw pinMo hown hE.1 hP 0 rfl rfl 19 (by decide) (hw _ wd_213) (fun _ h9 => h9) rfl dMo_one_146 ?_
          refine lv_iload_n hx hb dMo_one_149 rfl (lv_at hl 2 rfl) ?_
          refine lv_bipush (v := 8) hx hb dMo_one_150 (by first | rfl | decide) ?_
          refine lv_idiv hx hb dMo_one_152 (by decide) ?_
          refine lv_bipush (v := 8) hx hb dMo_one_153 (by first | rfl | decide) ?_
          refine lv_irem hx hb dMo_one_155 (by decide) ?_
          refine va_iald hx hb hE.1 hP 11 0 rfl rfl (pq_r8b (a := 6656) (by assumption) (by decide)) dMo_one_156 ?_
          refine lv_aload_n hx hb dMo_one_157 rfl (lv_at hl 3 rfl) ?_
          refine va_get (D := D) (ci := 5) (v := .ref (ad 28)) (C := RMo) (T := TMo) (N := 27) hx hb hw pinMo hown hE.1 hP 0 rfl rfl 19 (by decide) (hw _ wd_213) (fun _ h9 => h9) rfl dMo_one_158 ?_
          refine lv_iload_n hx hb dMo_one_161 rfl (lv_at hl 2 rfl) ?_
          refine lv_bipush (v := 64) hx hb dMo_one_162 (by first | rfl | decide) ?_
          refine lv_idiv hx hb dMo_one_164 (by decide) ?_
          refine lv_bipush (v := 8) hx hb dMo_one_165 (by first | rfl | decide) ?_
          refine lv_irem hx hb dMo_one_167 (by decide) ?_
          refine va_iald hx hb hE.1 hP 11 0 rfl rfl (pq_r8c (a := 6656) (by assumption) (by decide)) dMo_one_168 ?_
          obtain ⟨g3, hg3⟩ : ∃ g9, FMo_difference (mr (((mi (vp / 2).toNatClampNeg) / 8) - ((mi (vp / 2).toNatClampNeg) / 8) / 8 * 8).toNatClampNeg) (mr (((mi (vp / 2).toNatClampNeg) / 64) - ((mi (vp / 2).toNatClampNeg) / 64) / 8 * 8).toNatClampNeg) = g9 := ⟨_, rfl⟩
          have cg3 := k_Mo_difference l D ad cI cS (mr (((mi (vp / 2).toNatClampNeg) / 8) - ((mi (vp / 2).toNatClampNeg) / 8) / 8 * 8).toNatClampNeg) (mr (((mi (vp / 2).toNatClampNeg) / 64) - ((mi (vp / 2).toNatClampNeg) / 64) / 8 * 8).toNatClampNeg) mq mn me mo mt mx mp mz mu vn vz vc vv vp ve mK mA mB mC mf ml mc mL md mi mr mw
          rw [hg3] at cg3
          refine pq_callip (fr := g3.1) (wc := (wM ad cI cS mq mn me mo mt mx mp mz mu vn vz vc vv vp ve mK mA mB mC mf ml mc mL md mi mr mw)) (wr := ([] : List Nat).filterMap (fun i => (wM ad cI cS mq mn me mo mt mx mp mz mu vn vz vc vv vp ve mK mA mB mC mf ml mc mL md mi mr mw)[i]?)) hP hD hS hA [0, 1, 2, 3, 4, 5, 6, 7, 8, 9, 10, 11, 12] [] rfl rfl (by decide) (by decide) (va_runV (own := RMo) (C := RMo) (As := [.int (mr (((mi (vp / 2).toNatClampNeg) / 8) - ((mi (vp / 2).toNatClampNeg) / 8) / 8 * 8).toNatClampNeg), .int (mr (((mi (vp / 2).toNatClampNeg) / 64) - ((mi (vp / 2).toNatClampNeg) / 64) / 8 * 8).toNatClampNeg)]) (rest := [.int ((mi (vp / 2).toNatClampNeg) - (mi (vp / 2).toNatClampNeg) / 8 * 8), .ref (ad 28)]) ⟨hx, hb, hml, hown, hw⟩ (cg3 H.size) ⟨pq_cwB 2 hw wd_215 wd_186 wd_214 rfl rfl (by decide +kernel) ⟨Nat.le_of_ble_eq_true rfl, Nat.le_of_ble_eq_true rfl⟩, hw _ wd_216, hw _ wd_217⟩ (pq_preV (ci := 5) (C := RMo) (T := TMo) (N := 27) hE (hP.sub [0, 1, 2, 3, 4, 5, 6, 7, 8, 9, 10, 11, 12] rfl) (hD.sub [0, 1, 2, 3, 4, 5, 6, 7, 8, 9, 10, 11, 12] (by decide) rfl) rfl 0 rfl) rfl rfl hl.1 rfl (lv_room (Nat.le_of_ble_eq_true rfl)) dMo_one_169 ⟨Nat.zero_le _, Nat.zero_le _⟩) (fun hq9 H locs hP hD hS => ?_)
          obtain ⟨bn, bz, bc⟩ := hq9
          have hP : va_P D vwCl (wM ad cI cS mq mn me mo mt mx mp mz mu g3.2.1 g3.2.2.1 g3.2.2.2.1 g3.2.2.2.2 vp ve mK mA mB mC mf ml mc mL md mi mr mw) H := hP.sub [0, 1, 2, 3, 4, 5, 6, 7, 8, 9, 10, 11, 12] rfl
          have hD : va_D _ (wM ad cI cS mq mn me mo mt mx mp mz mu g3.2.1 g3.2.2.1 g3.2.2.2.1 g3.2.2.2.2 vp ve mK mA mB mC mf ml mc mL md mi mr mw) := hD.sub [0, 1, 2, 3, 4, 5, 6, 7, 8, 9, 10, 11, 12] (by decide) rfl
          refine va_iast hx hb hE.1 hP hD hS 11 0 rfl rfl (pq_r8a (a := 6656) (by assumption) (by decide)) dMo_one_172 (fun H locs hP hD hS => ?_)
          have hP : va_P D vwCl (wM ad cI cS mq mn me mo mt mx mp mz mu g3.2.1 g3.2.2.1 g3.2.2.2.1 g3.2.2.2.2 vp ve mK mA mB mC mf ml mc mL md mi (upd mr ((mi (vp / 2).toNatClampNeg) - (mi (vp / 2).toNatClampNeg) / 8 * 8).toNatClampNeg g3.1) mw) H := hP
          have hD : va_D _ (wM ad cI cS mq mn me mo mt mx mp mz mu g3.2.1 g3.2.2.1 g3.2.2.2.1 g3.2.2.2.2 vp ve mK mA mB mC mf ml mc mL md mi (upd mr ((mi (vp / 2).toNatClampNeg) - (mi (vp / 2).toNatClampNeg) / 8 * 8).toNatClampNeg g3.1) mw) := hD
          refine lv_goto (tgt := 377) hx hb dMo_one_173 (by decide) ?_
          refine lv_iload_n hx hb dMo_one_377 rfl (lv_at hl 2 rfl) ?_
          refine lv_ldc hx hb hown (hw _ wd_227) dMo_one_378 ?_
          refine lv_icmp_ne (tgt := 388) hx hb dMo_one_380 (by decide) (fun h47 => ?_) (fun h47 => ?_)
          · refine lv_aload_n hx hb dMo_one_388 rfl (lv_at hl 3 rfl) ?_
            refine lv_iload_n hx hb dMo_one_389 rfl (lv_at hl 0 rfl) ?_
            refine lv_if_eq (tgt := 403) hx hb dMo_one_390 (by decide) (fun h9 => absurd h9 (by decide)) (fun _ => ?_)
            refine lv_iload_n hx hb dMo_one_393 rfl (lv_at hl 2 rfl) ?_
            refine lv_ldc hx hb hown (hw _ wd_227) dMo_one_394 ?_
            refine lv_icmp_eq (tgt := 403) hx hb dMo_one_396 (by decide) (fun h9 => absurd h9 h47) (fun _ => ?_)
            refine lv_iload_n hx hb dMo_one_399 rfl (lv_at hl 1 rfl) ?_
            refine lv_goto (tgt := 407) hx hb dMo_one_400 (by decide) ?_
            refine va_put (D := D) (ci := 5) (v := .int (vp + 2)) (ty := .int) (C := RMo) (T := TMo) (N := 27) hx hb hw pinMo tyMo tyMo_ok nmMo hown hE.1 hP hD hS 0 rfl rfl 25 (by decide) (hw _ wd_212) (fun _ h9 => h9) rfl (by decide +kernel) rfl rfl (Nat.le_of_ble_eq_true rfl) dMo_one_407 (fun H locs hP hD hS => ?_)
            have hP : va_P D vwCl (wM ad cI cS mq mn me mo mt mx mp mz mu g3.2.1 g3.2.2.1 g3.2.2.2.1 g3.2.2.2.2 (vp + 2) ve mK mA mB mC mf ml mc mL md mi (upd mr ((mi (vp / 2).toNatClampNeg) - (mi (vp / 2).toNatClampNeg) / 8 * 8).toNatClampNeg g3.1) mw) H := hP
            have hD : va_D _ (wM ad cI cS mq mn me mo mt mx mp mz mu g3.2.1 g3.2.2.1 g3.2.2.2.1 g3.2.2.2.2 (vp + 2) ve mK mA mB mC mf ml mc mL md mi (upd mr ((mi (vp / 2).toNatClampNeg) - (mi (vp / 2).toNatClampNeg) / 8 * 8).toNatClampNeg g3.1) mw) := hD
            refine lv_iload_n hx hb dMo_one_410 rfl (lv_at hl 0 rfl) ?_
            have e9 : FMo_one mz vn vz vc vv vp ve mi mr mw = (1, upd mr ((mi (vp / 2).toNatClampNeg) - (mi (vp / 2).toNatClampNeg) / 8 * 8).toNatClampNeg g3.1, mw, g3.2.1, g3.2.2.1, g3.2.2.2.1, g3.2.2.2.2, vp + 2, ve) := by rw [hF]; simp only [JMo_one_122, hg3, if_neg h45, if_neg h46, if_neg h47]
            have p9 : (narrow .boolean (.int g3.2.1) = .int g3.2.1) ∧ (narrow .boolean (.int g3.2.2.1) = .int g3.2.2.1) ∧ (narrow .boolean (.int g3.2.2.2.1) = .int g3.2.2.2.1) := ⟨by first | with_reducible assumption | exact pq_b0 | exact pq_b1 | assumption, by first | with_reducible assumption | exact pq_b0 | exact pq_b1 | assumption, by first | with_reducible assumption | exact pq_b0 | exact pq_b1 | assumption⟩
            exact W.zret (v := 1) hx hb hr rfl (fun t ht hW => ⟨⟨1, (), rfl, ⟨by show _ = _; rw [e9], by rw [e9]; exact p9⟩, by rw [e9, ht]; exact hP, by rw [e9]; exact hD⟩, hS.F ht⟩) hS.2.2 dMo_one_411
          · refine lv_aload_n hx hb dMo_one_383 rfl (lv_at hl 3 rfl) ?_
            refine lv_iconst (v := 1) hx hb dMo_one_384 (by first | rfl | decide) ?_
            refine va_put (D := D) (ci := 5) (v := .int 1) (ty := .int) (C := RMo) (T := TMo) (N := 27) hx hb hw pinMo tyMo tyMo_ok nmMo hown hE.1 hP hD hS 0 rfl rfl 26 (by decide) (hw _ wd_228) (fun _ h9 => h9) rfl (by decide +kernel) rfl rfl (Nat.le_of_ble_eq_true rfl) dMo_one_385 (fun H locs hP hD hS => ?_)
            have hP : va_P D vwCl (wM ad cI cS mq mn me mo mt mx mp mz mu g3.2.1 g3.2.2.1 g3.2.2.2.1 g3.2.2.2.2 vp 1 mK mA mB mC mf ml mc mL md mi (upd mr ((mi (vp / 2).toNatClampNeg) - (mi (vp / 2).toNatClampNeg) / 8 * 8).toNatClampNeg g3.1) mw) H := hP
            have hD : va_D _ (wM ad cI cS mq mn me mo mt mx mp mz mu g3.2.1 g3.2.2.1 g3.2.2.2.1 g3.2.2.2.2 vp 1 mK mA mB mC mf ml mc mL md mi (upd mr ((mi (vp / 2).toNatClampNeg) - (mi (vp / 2).toNatClampNeg) / 8 * 8).toNatClampNeg g3.1) mw) := hD
            refine lv_aload_n hx hb dMo_one_388 rfl (lv_at hl 3 rfl) ?_
            refine lv_iload_n hx hb dMo_one_389 rfl (lv_at hl 0 rfl) ?_
            refine lv_if_eq (tgt := 403) hx hb dMo_one_390 (by decide) (fun h9 => absurd h9 (by decide)) (fun _ => ?_)
            refine lv_iload_n hx hb dMo_one_393 rfl (lv_at hl 2 rfl) ?_
            refine lv_ldc hx hb hown (hw _ wd_227) dMo_one_394 ?_
            refine lv_icmp_eq (tgt := 403) hx hb dMo_one_396 (by decide) (fun _ => ?_) (fun h9 => absurd h47 h9)
            refine lv_aload_n hx hb dMo_one_403 rfl (lv_at hl 3 rfl) ?_
            refine va_get (D := D) (ci := 5) (v := .int vp) (C := RMo) (T := TMo) (N := 27) hx hb hw pinMo hown hE.1 hP 0 rfl rfl 25 (by decide) (hw _ wd_212) (fun _ h9 => h9) rfl dMo_one_404 ?_
            refine va_put (D := D) (ci := 5) (v := .int vp) (ty := .int) (C := RMo) (T := TMo) (N := 27) hx hb hw pinMo tyMo tyMo_ok nmMo hown hE.1 hP hD hS 0 rfl rfl 25 (by decide) (hw _ wd_212) (fun _ h9 => h9) rfl (by decide +kernel) rfl rfl (Nat.le_of_ble_eq_true rfl) dMo_one_407 (fun H locs hP hD hS => ?_)
            have hP : va_P D vwCl (wM ad cI cS mq mn me mo mt mx mp mz mu g3.2.1 g3.2.2.1 g3.2.2.2.1 g3.2.2.2.2 vp 1 mK mA mB mC mf ml mc mL md mi (upd mr ((mi (vp / 2).toNatClampNeg) - (mi (vp / 2).toNatClampNeg) / 8 * 8).toNatClampNeg g3.1) mw) H := hP
            have hD : va_D _ (wM ad cI cS mq mn me mo mt mx mp mz mu g3.2.1 g3.2.2.1 g3.2.2.2.1 g3.2.2.2.2 vp 1 mK mA mB mC mf ml mc mL md mi (upd mr ((mi (vp / 2).toNatClampNeg) - (mi (vp / 2).toNatClampNeg) / 8 * 8).toNatClampNeg g3.1) mw) := hD
            refine lv_iload_n hx hb dMo_one_410 rfl (lv_at hl 0 rfl) ?_
            have e9 : FMo_one mz vn vz vc vv vp ve mi mr mw = (1, upd mr ((mi (vp / 2).toNatClampNeg) - (mi (vp / 2).toNatClampNeg) / 8 * 8).toNatClampNeg g3.1, mw, g3.2.1, g3.2.2.1, g3.2.2.2.1, g3.2.2.2.2, vp, 1) := by rw [hF]; simp only [JMo_one_122, hg3, if_neg h45, if_neg h46, if_pos h47]
            have p9 : (narrow .boolean (.int g3.2.1) = .int g3.2.1) ∧ (narrow .boolean (.int g3.2.2.1) = .int g3.2.2.1) ∧ (narrow .boolean (.int g3.2.2.2.1) = .int g3.2.2.2.1) := ⟨by first | with_reducible assumption | exact pq_b0 | exact pq_b1 | assumption, by first | with_reducible assumption | exact pq_b0 | exact pq_b1 | assumption, by first | with_reducible assumption | exact pq_b0 | exact pq_b1 | assumption⟩
            exact W.zret (v := 1) hx hb hr rfl (fun t ht hW => ⟨⟨1, (), rfl, ⟨by show _ = _; rw [e9], by rw [e9]; exact p9⟩, by rw [e9, ht]; exact hP, by rw [e9]; exact hD⟩, hS.F ht⟩) hS.2.2 dMo_one_411
    have j68 : ∀ (ls : Array Slot) (H : Heap) (locs : List Loc), FMo_one mz vn vz vc vv vp ve mi mr mw = JMo_one_68 mz vn vz vc vv vp ve mi mr mw → lv_has ls 4 [(3, .int 1), (2, .int (vp + 2)), (1, .int (mi (vp / 2).toNatClampNeg)), (0, .ref (ad 17))] → va_P D vwCl (wM ad cI cS mq mn me mo mt mx mp mz mu vn vz vc vv vp ve mK mA mB mC mf ml mc mL md mi mr mw) H → va_D (va_A (wM ad cI cS mq mn me mo mt mx mp mz mu vn vz vc vv vp ve mK mA mB mC mf ml mc mL md mi mr mw) s.heap.size) (wM ad cI cS mq mn me mo mt mx mp mz mu vn vz vc vv vp ve mK mA mB mC mf ml mc mL md mi mr mw) → va_S (va_A (wM ad cI cS mq mn me mo mt mx mp mz mu vn vz vc vv vp ve mK mA mB mC mf ml mc mL md mi mr mw) s.heap.size) s.heap H locs → W p l e (headSpec (.code yMo_one cMo_one 4 (some .boolean) :: pq_ws) { frames := 3, cells := 0, slots := 0, locals := 69 }).room s m ([.ref (ad 17)] : List Value).toArray below meth c H locs 0 0 (MQ below (va_Qi (fun (r : Int32) (_ : Unit) => r = ((FMo_one mz vn vz vc vv vp ve mi mr mw).1) ∧ ((narrow .boolean (.int ((FMo_one mz vn vz vc vv vp ve mi mr mw).2.2.2.1)) = .int ((FMo_one mz vn vz vc vv vp ve mi mr mw).2.2.2.1)) ∧ (narrow .boolean (.int ((FMo_one mz vn vz vc vv vp ve mi mr mw).2.2.2.2.1)) = .int ((FMo_one mz vn vz vc vv vp ve mi mr mw).2.2.2.2.1)) ∧ (narrow .boolean (.int ((FMo_one mz vn vz vc vv vp ve mi mr mw).2.2.2.2.2.1)) = .int ((FMo_one mz vn vz vc vv vp ve mi mr mw).2.2.2.2.2.1)))) (pq_B D (wM ad cI cS mq mn me mo mt mx mp mz mu vn vz vc vv vp ve mK mA mB mC mf ml mc mL md mi mr mw) s.heap.size (fun _ => (wM ad cI cS mq mn me mo mt mx mp mz mu ((FMo_one mz vn vz vc vv vp ve mi mr mw).2.2.2.1) ((FMo_one mz vn vz vc vv vp ve mi mr mw).2.2.2.2.1) ((FMo_one mz vn vz vc vv vp ve mi mr mw).2.2.2.2.2.1) ((FMo_one mz vn vz vc vv vp ve mi mr mw).2.2.2.2.2.2.1) ((FMo_one mz vn vz vc vv vp ve mi mr mw).2.2.2.2.2.2.2.1) ((FMo_one mz vn vz vc vv vp ve mi mr mw).2.2.2.2.2.2.2.2) mK mA mB mC mf ml mc mL md mi ((FMo_one mz vn vz vc vv vp ve mi mr mw).2.1) ((FMo_one mz vn vz vc vv vp ve mi mr mw).2.2.1)))) (va_A (wM ad cI cS mq mn me mo mt mx mp mz mu vn vz vc vv vp ve mK mA mB mC mf ml mc mL md mi mr mw) s.heap.size)) ([.ref (ad 17)] : List Value).toArray s 0 0 (va_A (wM ad cI cS mq mn me mo mt mx mp mz mu vn vz vc vv vp ve mK mA mB mC mf ml mc mL md mi mr mw) s.heap.size)) (F0 m 68 ls []) := by
      intro ls H locs hF hl hP hD hS
      refine lv_iload_n hx hb dMo_one_68 rfl (lv_at hl 2 rfl) ?_
      refine lv_sipush (v := 6144) hx hb dMo_one_69 (by first | rfl | decide) ?_
      refine lv_icmp_lt (tgt := 122) hx hb dMo_one_72 (by decide) (fun h50 => ?_) (fun h50 => ?_)
      · have e9 : FMo_one mz vn vz vc vv vp ve mi mr mw = JMo_one_122 mz vn vz vc vv vp ve mi mr mw := by rw [hF]; simp only [JMo_one_68, if_pos h50]
        exact j122 ls H locs e9 (lv_sub hl [0, 1, 2, 3] rfl) hP hD hS
      · refine lv_iload_n hx hb dMo_one_75 rfl (lv_at hl 2 rfl) ?_
        refine lv_sipush (v := 6656) hx hb dMo_one_76 (by first | rfl | decide) ?_
        refine lv_icmp_ge (tgt := 122) hx hb dMo_one_79 (by decide) (fun h51 => ?_) (fun h51 => ?_)
        · have e9 : FMo_one mz vn vz vc vv vp ve mi mr mw = JMo_one_122 mz vn vz vc vv vp ve mi mr mw := by rw [hF]; simp only [JMo_one_68, if_neg h50, if_pos h51]
          exact j122 ls H locs e9 (lv_sub hl [0, 1, 2, 3] rfl) hP hD hS
        · refine lv_aload_n hx hb dMo_one_82 rfl (lv_at hl 3 rfl) ?_
          refine va_get (D := D) (ci := 5) (v := .ref (ad 28)) (C := RMo) (T := TMo) (N := 27) hx hb hw pinMo hown hE.1 hP 0 rfl rfl 19 (by decide) (hw _ wd_213) (fun _ h9 => h9) rfl dMo_one_83 ?_
          refine lv_iload_n hx hb dMo_one_86 rfl (lv_at hl 2 rfl) ?_
          refine lv_bipush (v := 8) hx hb dMo_one_87 (by first | rfl | decide) ?_
          refine lv_irem hx hb dMo_one_89 (by decide) ?_
          refine lv_aload_n hx hb dMo_one_90 rfl (lv_at hl 3 rfl) ?_
          refine lv_aload_n hx hb dMo_one_91 rfl (lv_at hl 3 rfl) ?_
          refine va_get (D := D) (ci := 5) (v := .ref (ad 28)) (C := RMo) (T := TMo) (N := 27) hx hb hw pinMo hown hE.1 hP 0 rfl rfl 19 (by decide) (hw _ wd_213) (fun _ h9 => h9) rfl dMo_one_92 ?_
          refine lv_iload_n hx hb dMo_one_95 rfl (lv_at hl 2 rfl) ?_
          refine lv_bipush (v := 8) hx hb dMo_one_96 (by first | rfl | decide) ?_
          refine lv_idiv hx hb dMo_one_98 (by decide) ?_
          refine lv_bipush (v := 8) hx hb dMo_one_99 (by first | rfl | decide) ?_
          refine lv_irem hx hb dMo_one_101 (by decide) ?_
          refine va_iald hx hb hE.1 hP 11 0 rfl rfl (pq_r8b (a := 6144) (by assumption) (by decide)) dMo_one_102 ?_
          refine lv_aload_n hx hb dMo_one_103 rfl (lv_at hl 3 rfl) ?_
          refine va_get (D := D) (ci := 5) (v := .ref (ad 28)) (C := RMo) (T := TMo) (N := 27) hx hb hw pinMo hown hE.1 hP 0 rfl rfl 19 (by decide) (hw _ wd_213) (fun _ h9 => h9) rfl dMo_one_104 ?_
          refine lv_iload_n hx hb dMo_one_107 rfl (lv_at hl 2 rfl) ?_
          refine lv_bipush (v := 64) hx hb dMo_one_108 (by first | rfl | decide) ?_
          refine lv_idiv hx hb dMo_one_110 (by decide) ?_
          refine lv_bipush (v := 8) hx hb dMo_one_111 (by first | rfl | decide) ?_
          refine lv_irem hx hb dMo_one_113 (by decide) ?_
          refine va_iald hx hb hE.1 hP 11 0 rfl rfl (pq_r8c (a := 6144) (by assumption) (by decide)) dMo_one_114 ?_
          obtain ⟨g4, hg4⟩ : ∃ g9, FMo_sum (mr (((mi (vp / 2).toNatClampNeg) / 8) - ((mi (vp / 2).toNatClampNeg) / 8) / 8 * 8).toNatClampNeg) (mr (((mi (vp / 2).toNatClampNeg) / 64) - ((mi (vp / 2).toNatClampNeg) / 64) / 8 * 8).toNatClampNeg) = g9 := ⟨_, rfl⟩
          have cg4 := k_Mo_sum l D ad cI cS (mr (((mi (vp / 2).toNatClampNeg) / 8) - ((mi (vp / 2).toNatClampNeg) / 8) / 8 * 8).toNatClampNeg) (mr (((mi (vp / 2).toNatClampNeg) / 64) - ((mi (vp / 2).toNatClampNeg) / 64) / 8 * 8).toNatClampNeg) mq mn me mo mt mx mp mz mu vn vz vc vv vp ve mK mA mB mC mf ml mc mL md mi mr mw
          rw [hg4] at cg4
          refine pq_callip (fr := g4.1) (wc := (wM ad cI cS mq mn me mo mt mx mp mz mu vn vz vc vv vp ve mK mA mB mC mf ml mc mL md mi mr mw)) (wr := ([] : List Nat).filterMap (fun i => (wM ad cI cS mq mn me mo mt mx mp mz mu vn vz vc vv vp ve mK mA mB mC mf ml mc mL md mi mr mw)[i]?)) hP hD hS hA [0, 1, 2, 3, 4, 5, 6, 7, 8, 9, 10, 11, 12] [] rfl rfl (by decide) (by decide) (va_runV (own := RMo) (C := RMo) (As := [.int (mr (((mi (vp / 2).toNatClampNeg) / 8) - ((mi (vp / 2).toNatClampNeg) / 8) / 8 * 8).toNatClampNeg), .int (mr (((mi (vp / 2).toNatClampNeg) / 64) - ((mi (vp / 2).toNatClampNeg) / 64) / 8 * 8).toNatClampNeg)]) (rest := [.int ((mi (vp / 2).toNatClampNeg) - (mi (vp / 2).toNatClampNeg) / 8 * 8), .ref (ad 28)]) ⟨hx, hb, hml, hown, hw⟩ (cg4 H.size) ⟨pq_cwB 2 hw wd_219 wd_186 wd_218 rfl rfl (by decide +kernel) ⟨Nat.le_of_ble_eq_true rfl, Nat.le_of_ble_eq_true rfl⟩, hw _ wd_220, hw _ wd_221⟩ (pq_preV (ci := 5) (C := RMo) (T := TMo) (N := 27) hE (hP.sub [0, 1, 2, 3, 4, 5, 6, 7, 8, 9, 10, 11, 12] rfl) (hD.sub [0, 1, 2, 3, 4, 5, 6, 7, 8, 9, 10, 11, 12] (by decide) rfl) rfl 0 rfl) rfl rfl hl.1 rfl (lv_room (Nat.le_of_ble_eq_true rfl)) dMo_one_115 ⟨Nat.zero_le _, Nat.zero_le _⟩) (fun hq9 H locs hP hD hS => ?_)
          obtain ⟨bn, bz, bc⟩ := hq9
          have hP : va_P D vwCl (wM ad cI cS mq mn me mo mt mx mp mz mu g4.2.1 g4.2.2.1 g4.2.2.2.1 g4.2.2.2.2 vp ve mK mA mB mC mf ml mc mL md mi mr mw) H := hP.sub [0, 1, 2, 3, 4, 5, 6, 7, 8, 9, 10, 11, 12] rfl
          have hD : va_D _ (wM ad cI cS mq mn me mo mt mx mp mz mu g4.2.1 g4.2.2.1 g4.2.2.2.1 g4.2.2.2.2 vp ve mK mA mB mC mf ml mc mL md mi mr mw) := hD.sub [0, 1, 2, 3, 4, 5, 6, 7, 8, 9, 10, 11, 12] (by decide) rfl
          refine va_iast hx hb hE.1 hP hD hS 11 0 rfl rfl (pq_r8a (a := 6144) (by assumption) (by decide)) dMo_one_118 (fun H locs hP hD hS => ?_)
          have hP : va_P D vwCl (wM ad cI cS mq mn me mo mt mx mp mz mu g4.2.1 g4.2.2.1 g4.2.2.2.1 g4.2.2.2.2 vp ve mK mA mB mC mf ml mc mL md mi (upd mr ((mi (vp / 2).toNatClampNeg) - (mi (vp / 2).toNatClampNeg) / 8 * 8).toNatClampNeg g4.1) mw) H := hP
          have hD : va_D _ (wM ad cI cS mq mn me mo mt mx mp mz mu g4.2.1 g4.2.2.1 g4.2.2.2.1 g4.2.2.2.2 vp ve mK mA mB mC mf ml mc mL md mi (upd mr ((mi (vp / 2).toNatClampNeg) - (mi (vp / 2).toNatClampNeg) / 8 * 8).toNatClampNeg g4.1) mw) := hD
          refine lv_goto (tgt := 377) hx hb dMo_one_119 (by decide) ?_
          refine lv_iload_n hx hb dMo_one_377 rfl (lv_at hl 2 rfl) ?_
          refine lv_ldc hx hb hown (hw _ wd_227) dMo_one_378 ?_
          refine lv_icmp_ne (tgt := 388) hx hb dMo_one_380 (by decide) (fun h52 => ?_) (fun h52 => ?_)
          · refine lv_aload_n hx hb dMo_one_388 rfl (lv_at hl 3 rfl) ?_
            refine lv_iload_n hx hb dMo_one_389 rfl (lv_at hl 0 rfl) ?_
            refine lv_if_eq (tgt := 403) hx hb dMo_one_390 (by decide) (fun h9 => absurd h9 (by decide)) (fun _ => ?_)
            refine lv_iload_n hx hb dMo_one_393 rfl (lv_at hl 2 rfl) ?_
            refine lv_ldc hx hb hown (hw _ wd_227) dMo_one_394 ?_
            refine lv_icmp_eq (tgt := 403) hx hb dMo_one_396 (by decide) (fun h9 => absurd h9 h52) (fun _ => ?_)
            refine lv_iload_n hx hb dMo_one_399 rfl (lv_at hl 1 rfl) ?_
            refine lv_goto (tgt := 407) hx hb dMo_one_400 (by decide) ?_
            refine va_put (D := D) (ci := 5) (v := .int (vp + 2)) (ty := .int) (C := RMo) (T := TMo) (N := 27) hx hb hw pinMo tyMo tyMo_ok nmMo hown hE.1 hP hD hS 0 rfl rfl 25 (by decide) (hw _ wd_212) (fun _ h9 => h9) rfl (by decide +kernel) rfl rfl (Nat.le_of_ble_eq_true rfl) dMo_one_407 (fun H locs hP hD hS => ?_)
            have hP : va_P D vwCl (wM ad cI cS mq mn me mo mt mx mp mz mu g4.2.1 g4.2.2.1 g4.2.2.2.1 g4.2.2.2.2 (vp + 2) ve mK mA mB mC mf ml mc mL md mi (upd mr ((mi (vp / 2).toNatClampNeg) - (mi (vp / 2).toNatClampNeg) / 8 * 8).toNatClampNeg g4.1) mw) H := hP
            have hD : va_D _ (wM ad cI cS mq mn me mo mt mx mp mz mu g4.2.1 g4.2.2.1 g4.2.2.2.1 g4.2.2.2.2 (vp + 2) ve mK mA mB mC mf ml mc mL md mi (upd mr ((mi (vp / 2).toNatClampNeg) - (mi (vp / 2).toNatClampNeg) / 8 * 8).toNatClampNeg g4.1) mw) := hD
            refine lv_iload_n hx hb dMo_one_410 rfl (lv_at hl 0 rfl) ?_
            have e9 : FMo_one mz vn vz vc vv vp ve mi mr mw = (1, upd mr ((mi (vp / 2).toNatClampNeg) - (mi (vp / 2).toNatClampNeg) / 8 * 8).toNatClampNeg g4.1, mw, g4.2.1, g4.2.2.1, g4.2.2.2.1, g4.2.2.2.2, vp + 2, ve) := by rw [hF]; simp only [JMo_one_68, hg4, if_neg h50, if_neg h51, if_neg h52]
            have p9 : (narrow .boolean (.int g4.2.1) = .int g4.2.1) ∧ (narrow .boolean (.int g4.2.2.1) = .int g4.2.2.1) ∧ (narrow .boolean (.int g4.2.2.2.1) = .int g4.2.2.2.1) := ⟨by first | with_reducible assumption | exact pq_b0 | exact pq_b1 | assumption, by first | with_reducible assumption | exact pq_b0 | exact pq_b1 | assumption, by first | with_reducible assumption | exact pq_b0 | exact pq_b1 | assumption⟩
            exact W.zret (v := 1) hx hb hr rfl (fun t ht hW => ⟨⟨1, (), rfl, ⟨by show _ = _; rw [e9], by rw [e9]; exact p9⟩, by rw [e9, ht]; exact hP, by rw [e9]; exact hD⟩, hS.F ht⟩) hS.2.2 dMo_one_411
          · refine lv_aload_n hx hb dMo_one_383 rfl (lv_at hl 3 rfl) ?_
            refine lv_iconst (v := 1) hx hb dMo_one_384 (by first | rfl | decide) ?_
            refine va_put (D := D) (ci := 5) (v := .int 1) (ty := .int) (C := RMo) (T := TMo) (N := 27) hx hb hw pinMo tyMo tyMo_ok nmMo hown hE.1 hP hD hS 0 rfl rfl 26 (by decide) (hw _ wd_228) (fun _ h9 => h9) rfl (by decide +kernel) rfl rfl (Nat.le_of_ble_eq_true rfl) dMo_one_385 (fun H locs hP hD hS => ?_)
            have hP : va_P D vwCl (wM ad cI cS mq mn me mo mt mx mp mz mu g4.2.1 g4.2.2.1 g4.2.2.2.1 g4.2.2.2.2 vp 1 mK mA mB mC mf ml mc mL md mi (upd mr ((mi (vp / 2).toNatClampNeg) - (mi (vp / 2).toNatClampNeg) / 8 * 8).toNatClampNeg g4.1) mw) H := hP
            have hD : va_D _ (wM ad cI cS mq mn me mo mt mx mp mz mu g4.2.1 g4.2.2.1 g4.2.2.2.1 g4.2.2.2.2 vp 1 mK mA mB mC mf ml mc mL md mi (upd mr ((mi (vp / 2).toNatClampNeg) - (mi (vp / 2).toNatClampNeg) / 8 * 8).toNatClampNeg g4.1) mw) := hD
            refine lv_aload_n hx hb dMo_one_388 rfl (lv_at hl 3 rfl) ?_
            refine lv_iload_n hx hb dMo_one_389 rfl (lv_at hl 0 rfl) ?_
            refine lv_if_eq (tgt := 403) hx hb dMo_one_390 (by decide) (fun h9 => absurd h9 (by decide)) (fun _ => ?_)
            refine lv_iload_n hx hb dMo_one_393 rfl (lv_at hl 2 rfl) ?_
            refine lv_ldc hx hb hown (hw _ wd_227) dMo_one_394 ?_
            refine lv_icmp_eq (tgt := 403) hx hb dMo_one_396 (by decide) (fun _ => ?_) (fun h9 => absurd h52 h9)
            refine lv_aload_n hx hb dMo_one_403 rfl (lv_at hl 3 rfl) ?_
            refine va_get (D := D) (ci := 5) (v := .int vp) (C := RMo) (T := TMo) (N := 27) hx hb hw pinMo hown hE.1 hP 0 rfl rfl 25 (by decide) (hw _ wd_212) (fun _ h9 => h9) rfl dMo_one_404 ?_
            refine va_put (D := D) (ci := 5) (v := .int vp) (ty := .int) (C := RMo) (T := TMo) (N := 27) hx hb hw pinMo tyMo tyMo_ok nmMo hown hE.1 hP hD hS 0 rfl rfl 25 (by decide) (hw _ wd_212) (fun _ h9 => h9) rfl (by decide +kernel) rfl rfl (Nat.le_of_ble_eq_true rfl) dMo_one_407 (fun H locs hP hD hS => ?_)
            have hP : va_P D vwCl (wM ad cI cS mq mn me mo mt mx mp mz mu g4.2.1 g4.2.2.1 g4.2.2.2.1 g4.2.2.2.2 vp 1 mK mA mB mC mf ml mc mL md mi (upd mr ((mi (vp / 2).toNatClampNeg) - (mi (vp / 2).toNatClampNeg) / 8 * 8).toNatClampNeg g4.1) mw) H := hP
            have hD : va_D _ (wM ad cI cS mq mn me mo mt mx mp mz mu g4.2.1 g4.2.2.1 g4.2.2.2.1 g4.2.2.2.2 vp 1 mK mA mB mC mf ml mc mL md mi (upd mr ((mi (vp / 2).toNatClampNeg) - (mi (vp / 2).toNatClampNeg) / 8 * 8).toNatClampNeg g4.1) mw) := hD
            refine lv_iload_n hx hb dMo_one_410 rfl (lv_at hl 0 rfl) ?_
            have e9 : FMo_one mz vn vz vc vv vp ve mi mr mw = (1, upd mr ((mi (vp / 2).toNatClampNeg) - (mi (vp / 2).toNatClampNeg) / 8 * 8).toNatClampNeg g4.1, mw, g4.2.1, g4.2.2.1, g4.2.2.2.1, g4.2.2.2.2, vp, 1) := by rw [hF]; simp only [JMo_one_68, hg4, if_neg h50, if_neg h51, if_pos h52]
            have p9 : (narrow .boolean (.int g4.2.1) = .int g4.2.1) ∧ (narrow .boolean (.int g4.2.2.1) = .int g4.2.2.1) ∧ (narrow .boolean (.int g4.2.2.2.1) = .int g4.2.2.2.1) := ⟨by first | with_reducible assumption | exact pq_b0 | exact pq_b1 | assumption, by first | with_reducible assumption | exact pq_b0 | exact pq_b1 | assumption, by first | with_reducible assumption | exact pq_b0 | exact pq_b1 | assumption⟩
            exact W.zret (v := 1) hx hb hr rfl (fun t ht hW => ⟨⟨1, (), rfl, ⟨by show _ = _; rw [e9], by rw [e9]; exact p9⟩, by rw [e9, ht]; exact hP, by rw [e9]; exact hD⟩, hS.F ht⟩) hS.2.2 dMo_one_411
    refine lv_iload_n hx hb dMo_one_42 rfl (lv_at hl 2 rfl) ?_
    refine lv_sipush (v := 8192) hx hb dMo_one_43 (by first | rfl | decide) ?_
    refine lv_icmp_lt (tgt := 68) hx hb dMo_one_46 (by decide) (fun h55 => ?_) (fun h55 => ?_)
    · have e9 : FMo_one mz vn vz vc vv vp ve mi mr mw = JMo_one_68 mz vn vz vc vv vp ve mi mr mw := by simp only [FMo_one, if_pos h1, if_pos h55]
      exact j68 ls H locs e9 (lv_sub hl [0, 1, 2, 3] rfl) hP hD hS
    · refine lv_iload_n hx hb dMo_one_49 rfl (lv_at hl 2 rfl) ?_
      refine lv_sipush (v := 16384) hx hb dMo_one_50 (by first | rfl | decide) ?_
      refine lv_icmp_ge (tgt := 68) hx hb dMo_one_53 (by decide) (fun h56 => ?_) (fun h56 => ?_)
      · have e9 : FMo_one mz vn vz vc vv vp ve mi mr mw = JMo_one_68 mz vn vz vc vv vp ve mi mr mw := by simp only [FMo_one, if_pos h1, if_neg h55, if_pos h56]
        exact j68 ls H locs e9 (lv_sub hl [0, 1, 2, 3] rfl) hP hD hS
      · refine lv_aload_n hx hb dMo_one_56 rfl (lv_at hl 3 rfl) ?_
        refine lv_iload_n hx hb dMo_one_57 rfl (lv_at hl 2 rfl) ?_
        refine lv_sipush (v := 8192) hx hb dMo_one_58 (by first | rfl | decide) ?_
        refine lv_isub hx hb dMo_one_61 ?_
        obtain ⟨g5, hg5⟩ : ∃ g9, FMo_small ((mi (vp / 2).toNatClampNeg) - 8192) vc vv mr = g9 := ⟨_, rfl⟩
        have cg5 := k_Mo_small l D ad cI cS ((mi (vp / 2).toNatClampNeg) - 8192) mq mn me mo mt mx mp mz mu vn vz vc vv vp ve mK mA mB mC mf ml mc mL md mi mr mw (pq_sub0 (by assumption) (by decide)) bn bz bc
        rw [hg5] at cg5
        refine pq_callvp (wc := (wM ad cI cS mq mn me mo mt mx mp mz mu vn vz vc vv vp ve mK mA mB mC mf ml mc mL md mi mr mw)) (wr := ([] : List Nat).filterMap (fun i => (wM ad cI cS mq mn me mo mt mx mp mz mu vn vz vc vv vp ve mK mA mB mC mf ml mc mL md mi mr mw)[i]?)) hP hD hS hA [0, 1, 2, 3, 4, 5, 6, 7, 8, 9, 10, 11, 12] [] rfl rfl (by decide) (by decide) (va_runV (own := RMo) (C := RMo) (As := [.int ((mi (vp / 2).toNatClampNeg) - 8192)]) (rest := []) ⟨hx, hb, hml, hown, hw⟩ (cg5 H.size) ⟨pq_cwB 1 hw wd_253 wd_186 wd_252 rfl rfl (by decide +kernel) ⟨Nat.le_of_ble_eq_true rfl, Nat.le_of_ble_eq_true rfl⟩, hw _ wd_254, hw _ wd_255⟩ (pq_preV (ci := 5) (C := RMo) (T := TMo) (N := 27) hE (hP.sub [0, 1, 2, 3, 4, 5, 6, 7, 8, 9, 10, 11, 12] rfl) (hD.sub [0, 1, 2, 3, 4, 5, 6, 7, 8, 9, 10, 11, 12] (by decide) rfl) rfl 0 rfl) rfl rfl hl.1 rfl (lv_room (Nat.le_of_ble_eq_true rfl)) dMo_one_62 ⟨Nat.zero_le _, Nat.zero_le _⟩) (fun hq9 H locs hP hD hS => ?_)
        obtain ⟨bn, bz, bc⟩ := hq9
        have hP : va_P D vwCl (wM ad cI cS mq mn me mo mt mx mp mz mu g5.2.1 g5.2.2.1 g5.2.2.2.1 g5.2.2.2.2 vp ve mK mA mB mC mf ml mc mL md mi g5.1 mw) H := hP.sub [0, 1, 2, 3, 4, 5, 6, 7, 8, 9, 10, 11, 12] rfl
        have hD : va_D _ (wM ad cI cS mq mn me mo mt mx mp mz mu g5.2.1 g5.2.2.1 g5.2.2.2.1 g5.2.2.2.2 vp ve mK mA mB mC mf ml mc mL md mi g5.1 mw) := hD.sub [0, 1, 2, 3, 4, 5, 6, 7, 8, 9, 10, 11, 12] (by decide) rfl
        refine lv_goto (tgt := 377) hx hb dMo_one_65 (by decide) ?_
        refine lv_iload_n hx hb dMo_one_377 rfl (lv_at hl 2 rfl) ?_
        refine lv_ldc hx hb hown (hw _ wd_227) dMo_one_378 ?_
        refine lv_icmp_ne (tgt := 388) hx hb dMo_one_380 (by decide) (fun h57 => ?_) (fun h57 => ?_)
        · refine lv_aload_n hx hb dMo_one_388 rfl (lv_at hl 3 rfl) ?_
          refine lv_iload_n hx hb dMo_one_389 rfl (lv_at hl 0 rfl) ?_
          refine lv_if_eq (tgt := 403) hx hb dMo_one_390 (by decide) (fun h9 => absurd h9 (by decide)) (fun _ => ?_)
          refine lv_iload_n hx hb dMo_one_393 rfl (lv_at hl 2 rfl) ?_
          refine lv_ldc hx hb hown (hw _ wd_227) dMo_one_394 ?_
          refine lv_icmp_eq (tgt := 403) hx hb dMo_one_396 (by decide) (fun h9 => absurd h9 h57) (fun _ => ?_)
          refine lv_iload_n hx hb dMo_one_399 rfl (lv_at hl 1 rfl) ?_
          refine lv_goto (tgt := 407) hx hb dMo_one_400 (by decide) ?_
          refine va_put (D := D) (ci := 5) (v := .int (vp + 2)) (ty := .int) (C := RMo) (T := TMo) (N := 27) hx hb hw pinMo tyMo tyMo_ok nmMo hown hE.1 hP hD hS 0 rfl rfl 25 (by decide) (hw _ wd_212) (fun _ h9 => h9) rfl (by decide +kernel) rfl rfl (Nat.le_of_ble_eq_true rfl) dMo_one_407 (fun H locs hP hD hS => ?_)
          have hP : va_P D vwCl (wM ad cI cS mq mn me mo mt mx mp mz mu g5.2.1 g5.2.2.1 g5.2.2.2.1 g5.2.2.2.2 (vp + 2) ve mK mA mB mC mf ml mc mL md mi g5.1 mw) H := hP
          have hD : va_D _ (wM ad cI cS mq mn me mo mt mx mp mz mu g5.2.1 g5.2.2.1 g5.2.2.2.1 g5.2.2.2.2 (vp + 2) ve mK mA mB mC mf ml mc mL md mi g5.1 mw) := hD
          refine lv_iload_n hx hb dMo_one_410 rfl (lv_at hl 0 rfl) ?_
          have e9 : FMo_one mz vn vz vc vv vp ve mi mr mw = (1, g5.1, mw, g5.2.1, g5.2.2.1, g5.2.2.2.1, g5.2.2.2.2, vp + 2, ve) := by simp only [FMo_one, hg5, if_pos h1, if_neg h55, if_neg h56, if_neg h57]
          have p9 : (narrow .boolean (.int g5.2.1) = .int g5.2.1) ∧ (narrow .boolean (.int g5.2.2.1) = .int g5.2.2.1) ∧ (narrow .boolean (.int g5.2.2.2.1) = .int g5.2.2.2.1) := ⟨by first | with_reducible assumption | exact pq_b0 | exact pq_b1 | assumption, by first | with_reducible assumption | exact pq_b0 | exact pq_b1 | assumption, by first | with_reducible assumption | exact pq_b0 | exact pq_b1 | assumption⟩
          exact W.zret (v := 1) hx hb hr rfl (fun t ht hW => ⟨⟨1, (), rfl, ⟨by show _ = _; rw [e9], by rw [e9]; exact p9⟩, by rw [e9, ht]; exact hP, by rw [e9]; exact hD⟩, hS.F ht⟩) hS.2.2 dMo_one_411
        · refine lv_aload_n hx hb dMo_one_383 rfl (lv_at hl 3 rfl) ?_
          refine lv_iconst (v := 1) hx hb dMo_one_384 (by first | rfl | decide) ?_
          refine va_put (D := D) (ci := 5) (v := .int 1) (ty := .int) (C := RMo) (T := TMo) (N := 27) hx hb hw pinMo tyMo tyMo_ok nmMo hown hE.1 hP hD hS 0 rfl rfl 26 (by decide) (hw _ wd_228) (fun _ h9 => h9) rfl (by decide +kernel) rfl rfl (Nat.le_of_ble_eq_true rfl) dMo_one_385 (fun H locs hP hD hS => ?_)
          have hP : va_P D vwCl (wM ad cI cS mq mn me mo mt mx mp mz mu g5.2.1 g5.2.2.1 g5.2.2.2.1 g5.2.2.2.2 vp 1 mK mA mB mC mf ml mc mL md mi g5.1 mw) H := hP
          have hD : va_D _ (wM ad cI cS mq mn me mo mt mx mp mz mu g5.2.1 g5.2.2.1 g5.2.2.2.1 g5.2.2.2.2 vp 1 mK mA mB mC mf ml mc mL md mi g5.1 mw) := hD
          refine lv_aload_n hx hb dMo_one_388 rfl (lv_at hl 3 rfl) ?_
          refine lv_iload_n hx hb dMo_one_389 rfl (lv_at hl 0 rfl) ?_
          refine lv_if_eq (tgt := 403) hx hb dMo_one_390 (by decide) (fun h9 => absurd h9 (by decide)) (fun _ => ?_)
          refine lv_iload_n hx hb dMo_one_393 rfl (lv_at hl 2 rfl) ?_
          refine lv_ldc hx hb hown (hw _ wd_227) dMo_one_394 ?_
          refine lv_icmp_eq (tgt := 403) hx hb dMo_one_396 (by decide) (fun _ => ?_) (fun h9 => absurd h57 h9)
          refine lv_aload_n hx hb dMo_one_403 rfl (lv_at hl 3 rfl) ?_
          refine va_get (D := D) (ci := 5) (v := .int vp) (C := RMo) (T := TMo) (N := 27) hx hb hw pinMo hown hE.1 hP 0 rfl rfl 25 (by decide) (hw _ wd_212) (fun _ h9 => h9) rfl dMo_one_404 ?_
          refine va_put (D := D) (ci := 5) (v := .int vp) (ty := .int) (C := RMo) (T := TMo) (N := 27) hx hb hw pinMo tyMo tyMo_ok nmMo hown hE.1 hP hD hS 0 rfl rfl 25 (by decide) (hw _ wd_212) (fun _ h9 => h9) rfl (by decide +kernel) rfl rfl (Nat.le_of_ble_eq_true rfl) dMo_one_407 (fun H locs hP hD hS => ?_)
          have hP : va_P D vwCl (wM ad cI cS mq mn me mo mt mx mp mz mu g5.2.1 g5.2.2.1 g5.2.2.2.1 g5.2.2.2.2 vp 1 mK mA mB mC mf ml mc mL md mi g5.1 mw) H := hP
          have hD : va_D _ (wM ad cI cS mq mn me mo mt mx mp mz mu g5.2.1 g5.2.2.1 g5.2.2.2.1 g5.2.2.2.2 vp 1 mK mA mB mC mf ml mc mL md mi g5.1 mw) := hD
          refine lv_iload_n hx hb dMo_one_410 rfl (lv_at hl 0 rfl) ?_
          have e9 : FMo_one mz vn vz vc vv vp ve mi mr mw = (1, g5.1, mw, g5.2.1, g5.2.2.1, g5.2.2.2.1, g5.2.2.2.2, vp, 1) := by simp only [FMo_one, hg5, if_pos h1, if_neg h55, if_neg h56, if_pos h57]
          have p9 : (narrow .boolean (.int g5.2.1) = .int g5.2.1) ∧ (narrow .boolean (.int g5.2.2.1) = .int g5.2.2.1) ∧ (narrow .boolean (.int g5.2.2.2.1) = .int g5.2.2.2.1) := ⟨by first | with_reducible assumption | exact pq_b0 | exact pq_b1 | assumption, by first | with_reducible assumption | exact pq_b0 | exact pq_b1 | assumption, by first | with_reducible assumption | exact pq_b0 | exact pq_b1 | assumption⟩
          exact W.zret (v := 1) hx hb hr rfl (fun t ht hW => ⟨⟨1, (), rfl, ⟨by show _ = _; rw [e9], by rw [e9]; exact p9⟩, by rw [e9, ht]; exact hP, by rw [e9]; exact hD⟩, hS.F ht⟩) hS.2.2 dMo_one_411
  · refine lv_iconst (v := 0) hx hb dMo_one_19 (by first | rfl | decide) ?_
    have e9 : FMo_one mz vn vz vc vv vp ve mi mr mw = (0, mr, mw, vn, vz, vc, vv, vp, ve) := by simp only [FMo_one, if_neg h1]
    have p9 : (narrow .boolean (.int vn) = .int vn) ∧ (narrow .boolean (.int vz) = .int vz) ∧ (narrow .boolean (.int vc) = .int vc) := ⟨by first | with_reducible assumption | exact pq_b0 | exact pq_b1 | assumption, by first | with_reducible assumption | exact pq_b0 | exact pq_b1 | assumption, by first | with_reducible assumption | exact pq_b0 | exact pq_b1 | assumption⟩
    exact W.zret (v := 0) hx hb hr rfl (fun t ht hW => ⟨⟨0, (), rfl, ⟨by show _ = _; rw [e9], by rw [e9]; exact p9⟩, by rw [e9, ht]; exact hP, by rw [e9]; exact hD⟩, hS.F ht⟩) hS.2.2 dMo_one_20
def LMo_run_24 : Nat → (Int32) → (Int32) → (Nat → Int32) → (Nat) → (Nat → Int32) → (Nat → Int32) → (Int32) → (Int32) → (Int32) → (Int32) → (Int32) → (Int32) → Nat × (Nat → Int32) × (Nat → Int32) × Int32 × Int32 × Int32 × Int32 × Int32 × Int32
  | 0, _, _, _, i, mr, mw, vn, vz, vc, vv, vp, ve => (i, mr, mw, vn, vz, vc, vv, vp, ve)
  | n + 1, xf, mz, mi, i, mr, mw, vn, vz, vc, vv, vp, ve => if xf ≤ (nI i) then (i, mr, mw, vn, vz, vc, vv, vp, ve) else if ve = 0 then if (FMo_one mz vn vz vc vv vp ve mi mr mw).1 = 0 then LMo_run_24 n xf mz mi (i + 1) ((FMo_one mz vn vz vc vv vp ve mi mr mw).2.1) ((FMo_one mz vn vz vc vv vp ve mi mr mw).2.2.1) ((FMo_one mz vn vz vc vv vp ve mi mr mw).2.2.2.1) ((FMo_one mz vn vz vc vv vp ve mi mr mw).2.2.2.2.1) ((FMo_one mz vn vz vc vv vp ve mi mr mw).2.2.2.2.2.1) ((FMo_one mz vn vz vc vv vp ve mi mr mw).2.2.2.2.2.2.1) ((FMo_one mz vn vz vc vv vp ve mi mr mw).2.2.2.2.2.2.2.1) 2 else LMo_run_24 n xf mz mi (i + 1) ((FMo_one mz vn vz vc vv vp ve mi mr mw).2.1) ((FMo_one mz vn vz vc vv vp ve mi mr mw).2.2.1) ((FMo_one mz vn vz vc vv vp ve mi mr mw).2.2.2.1) ((FMo_one mz vn vz vc vv vp ve mi mr mw).2.2.2.2.1) ((FMo_one mz vn vz vc vv vp ve mi mr mw).2.2.2.2.2.1) ((FMo_one mz vn vz vc vv vp ve mi mr mw).2.2.2.2.2.2.1) ((FMo_one mz vn vz vc vv vp ve mi mr mw).2.2.2.2.2.2.2.1) ((FMo_one mz vn vz vc vv vp ve mi mr mw).2.2.2.2.2.2.2.2) else (i, mr, mw, vn, vz, vc, vv, vp, ve)
set_option maxHeartbeats 4000000 in
set_option maxRecDepth 100000 in
theorem qMo_run_24 {p : Program} {l : Launch} {e : Env} {R : Room} {s : State} {m : MethodId} {args : Array Value} {below : List Frame} {meth : Method} {c : Code} {Q : State → Prop} {A : Nat → Prop} (D : va_G) (ad : Nat → Nat) (cI cS : ClassId) (hx : p.tables.exec = Jvm.exec) (hb : c.code = cMo_run) (hml : c.maxLocals = 3) (hw : ∀ w ∈ pq_ws, w.before args s = true) (hown : s.vm.findClass RMo = some m.cls) (hE : pq_E D cI cS s) (hA : ∀ q : Nat, s.heap.size ≤ q → A q) (hR : 4 ≤ R.frames ∧ 92 ≤ R.locals) (xf : Int32) : ∀ (n : Nat) (i : Nat) (mq : Int32) (mn : Int32) (me : Int32) (mo : Int32) (mt : Int32) (mx : Int32) (mp : Int32) (mz : Int32) (mu : Int32) (vn : Int32) (vz : Int32) (vc : Int32) (vv : Int32) (vp : Int32) (ve : Int32) (mK : Nat → Int32) (mA : Nat → Int32) (mB : Nat → Int32) (mC : Nat → Int32) (mf : Nat → Int32) (ml : Nat → Int32) (mc : Nat → Int32) (mL : Nat → Int32) (md : Nat → Int32) (mi : Nat → Int32) (mr : Nat → Int32) (mw : Nat → Int32) (ls : Array Slot) (H : Heap) (locs : List Loc), (i < 2 ^ 31) → (¬ mz < 0) → (mz.toInt ≤ 7200) → (narrow .boolean (.int vn) = .int vn) → (narrow .boolean (.int vz) = .int vz) → (narrow .boolean (.int vc) = .int vc) → (xf.toInt.toNat - i) < n → lv_has ls 3 [(0, .ref (ad 17)), (1, .int xf), (2, .int (nI i))] → va_P D vwCl (wM ad cI cS mq mn me mo mt mx mp mz mu vn vz vc vv vp ve mK mA mB mC mf ml mc mL md mi mr mw) H → va_D A (wM ad cI cS mq mn me mo mt mx mp mz mu vn vz vc vv vp ve mK mA mB mC mf ml mc mL md mi mr mw) → va_S A s.heap H locs → (∀ (ls : Array Slot) (H : Heap) (locs : List Loc), (narrow .boolean (.int ((LMo_run_24 n xf mz mi i mr mw vn vz vc vv vp ve).2.2.2.1)) = .int ((LMo_run_24 n xf mz mi i mr mw vn vz vc vv vp ve).2.2.2.1)) → (narrow .boolean (.int ((LMo_run_24 n xf mz mi i mr mw vn vz vc vv vp ve).2.2.2.2.1)) = .int ((LMo_run_24 n xf mz mi i mr mw vn vz vc vv vp ve).2.2.2.2.1)) → (narrow .boolean (.int ((LMo_run_24 n xf mz mi i mr mw vn vz vc vv vp ve).2.2.2.2.2.1)) = .int ((LMo_run_24 n xf mz mi i mr mw vn vz vc vv vp ve).2.2.2.2.2.1)) → lv_has ls 3 [(0, .ref (ad 17)), (1, .int xf), (2, .int (nI ((LMo_run_24 n xf mz mi i mr mw vn vz vc vv vp ve).1)))] → va_P D vwCl (wM ad cI cS mq mn me mo mt mx mp mz mu ((LMo_run_24 n xf mz mi i mr mw vn vz vc vv vp ve).2.2.2.1) ((LMo_run_24 n xf mz mi i mr mw vn vz vc vv vp ve).2.2.2.2.1) ((LMo_run_24 n xf mz mi i mr mw vn vz vc vv vp ve).2.2.2.2.2.1) ((LMo_run_24 n xf mz mi i mr mw vn vz vc vv vp ve).2.2.2.2.2.2.1) ((LMo_run_24 n xf mz mi i mr mw vn vz vc vv vp ve).2.2.2.2.2.2.2.1) ((LMo_run_24 n xf mz mi i mr mw vn vz vc vv vp ve).2.2.2.2.2.2.2.2) mK mA mB mC mf ml mc mL md mi ((LMo_run_24 n xf mz mi i mr mw vn vz vc vv vp ve).2.1) ((LMo_run_24 n xf mz mi i mr mw vn vz vc vv vp ve).2.2.1)) H → va_D A (wM ad cI cS mq mn me mo mt mx mp mz mu ((LMo_run_24 n xf mz mi i mr mw vn vz vc vv vp ve).2.2.2.1) ((LMo_run_24 n xf mz mi i mr mw vn vz vc vv vp ve).2.2.2.2.1) ((LMo_run_24 n xf mz mi i mr mw vn vz vc vv vp ve).2.2.2.2.2.1) ((LMo_run_24 n xf mz mi i mr mw vn vz vc vv vp ve).2.2.2.2.2.2.1) ((LMo_run_24 n xf mz mi i mr mw vn vz vc vv vp ve).2.2.2.2.2.2.2.1) ((LMo_run_24 n xf mz mi i mr mw vn vz vc vv vp ve).2.2.2.2.2.2.2.2) mK mA mB mC mf ml mc mL md mi ((LMo_run_24 n xf mz mi i mr mw vn vz vc vv vp ve).2.1) ((LMo_run_24 n xf mz mi i mr mw vn vz vc vv vp ve).2.2.1)) → va_S A s.heap H locs → W p l e R s m args below meth c H locs 0 0 Q (F0 m 54 ls [])) → W p l e R s m args below meth c H locs 0 0 Q (F0 m 24 ls []) := by
  intro n
  induction n with
  | zero =>
    intro i mq mn me mo mt mx mp mz mu vn vz vc vv vp ve mK mA mB mC mf ml mc mL md mi mr mw ls H locs hi hmz0 hmz bn bz bc hm hl hP hD hS kk
    exact absurd hm (Nat.not_lt_zero _)
  | succ n ih =>
    intro i mq mn me mo mt mx mp mz mu vn vz vc vv vp ve mK mA mB mC mf ml mc mL md mi mr mw ls H locs hi hmz0 hmz bn bz bc hm hl hP hD hS kk
    refine lv_iload_n hx hb dMo_run_24 rfl (lv_at hl 2 rfl) ?_
    refine lv_iload_n hx hb dMo_run_25 rfl (lv_at hl 1 rfl) ?_
    refine lv_icmp_ge (tgt := 54) hx hb dMo_run_26 (by decide) (fun h1 => ?_) (fun h1 => ?_)
    · have e9 : LMo_run_24 (n + 1) xf mz mi i mr mw vn vz vc vv vp ve = (i, mr, mw, vn, vz, vc, vv, vp, ve) := by simp only [LMo_run_24, if_pos h1]
      rw [e9] at kk
      exact kk ls H locs bn bz bc (lv_sub hl [0, 1, 2] rfl) hP hD hS
    · refine lv_aload_n hx hb dMo_run_29 rfl (lv_at hl 0 rfl) ?_
      refine va_get (D := D) (ci := 5) (v := .int ve) (C := RMo) (T := TMo) (N := 27) hx hb hw pinMo hown hE.1 hP 0 rfl rfl 26 (by decide) (hw _ wd_228) (fun _ h9 => h9) rfl dMo_run_30 ?_
      refine lv_if_ne (tgt := 54) hx hb dMo_run_33 (by decide) (fun h2 => ?_) (fun h2 => ?_)
      · have e9 : LMo_run_24 (n + 1) xf mz mi i mr mw vn vz vc vv vp ve = (i, mr, mw, vn, vz, vc, vv, vp, ve) := by simp only [LMo_run_24, if_neg h1, if_neg h2]
        rw [e9] at kk
        exact kk ls H locs bn bz bc (lv_sub hl [0, 1, 2] rfl) hP hD hS
      · refine lv_aload_n hx hb dMo_run_36 rfl (lv_at hl 0 rfl) ?_
        obtain ⟨g1, hg1⟩ : ∃ g9, FMo_one mz vn vz vc vv vp ve mi mr mw = g9 := ⟨_, rfl⟩
        have cg1 := k_Mo_one l D ad cI cS mq mn me mo mt mx mp mz mu vn vz vc vv vp ve mK mA mB mC mf ml mc mL md mi mr mw hmz0 hmz bn bz bc
        rw [hg1] at cg1
        refine pq_callip (fr := g1.1) (wc := (wM ad cI cS mq mn me mo mt mx mp mz mu vn vz vc vv vp ve mK mA mB mC mf ml mc mL md mi mr mw)) (wr := ([] : List Nat).filterMap (fun i => (wM ad cI cS mq mn me mo mt mx mp mz mu vn vz vc vv vp ve mK mA mB mC mf ml mc mL md mi mr mw)[i]?)) hP hD hS hA [0, 1, 2, 3, 4, 5, 6, 7, 8, 9, 10, 11, 12] [] rfl rfl (by decide) (by decide) (va_runV (own := RMo) (C := RMo) (As := []) (rest := []) ⟨hx, hb, hml, hown, hw⟩ (cg1 H.size) ⟨pq_cwB 0 hw wd_257 wd_186 wd_256 rfl rfl (by decide +kernel) ⟨Nat.le_trans (by decide) hR.1, Nat.le_trans (by decide) hR.2⟩, hw _ wd_258, hw _ wd_259⟩ (pq_preV (ci := 5) (C := RMo) (T := TMo) (N := 27) hE (hP.sub [0, 1, 2, 3, 4, 5, 6, 7, 8, 9, 10, 11, 12] rfl) (hD.sub [0, 1, 2, 3, 4, 5, 6, 7, 8, 9, 10, 11, 12] (by decide) rfl) rfl 0 rfl) rfl rfl hl.1 rfl (lv_room (Nat.le_of_ble_eq_true rfl)) dMo_run_37 ⟨Nat.zero_le _, Nat.zero_le _⟩) (fun hq9 H locs hP hD hS => ?_)
        obtain ⟨bn, bz, bc⟩ := hq9
        have hP : va_P D vwCl (wM ad cI cS mq mn me mo mt mx mp mz mu g1.2.2.2.1 g1.2.2.2.2.1 g1.2.2.2.2.2.1 g1.2.2.2.2.2.2.1 g1.2.2.2.2.2.2.2.1 g1.2.2.2.2.2.2.2.2 mK mA mB mC mf ml mc mL md mi g1.2.1 g1.2.2.1) H := hP.sub [0, 1, 2, 3, 4, 5, 6, 7, 8, 9, 10, 11, 12] rfl
        have hD : va_D _ (wM ad cI cS mq mn me mo mt mx mp mz mu g1.2.2.2.1 g1.2.2.2.2.1 g1.2.2.2.2.2.1 g1.2.2.2.2.2.2.1 g1.2.2.2.2.2.2.2.1 g1.2.2.2.2.2.2.2.2 mK mA mB mC mf ml mc mL md mi g1.2.1 g1.2.2.1) := hD.sub [0, 1, 2, 3, 4, 5, 6, 7, 8, 9, 10, 11, 12] (by decide) rfl
        refine lv_if_ne (tgt := 48) hx hb dMo_run_40 (by decide) (fun h3 => ?_) (fun h3 => ?_)
        · refine lv_iinc (k := 2) (v := (nI i) + 1) (lv' := [(2, .int ((nI i) + 1)), (0, .ref (ad 17)), (1, .int xf)]) hx hb dMo_run_48 hl rfl (by first | rfl | decide) (by decide) rfl (fun ls hl => ?_)
          refine lv_goto (tgt := 24) hx hb dMo_run_51 (by decide) ?_
          have e9 : LMo_run_24 (n + 1) xf mz mi i mr mw vn vz vc vv vp ve = LMo_run_24 n xf mz mi (i + 1) g1.2.1 g1.2.2.1 g1.2.2.2.1 g1.2.2.2.2.1 g1.2.2.2.2.2.1 g1.2.2.2.2.2.2.1 g1.2.2.2.2.2.2.2.1 g1.2.2.2.2.2.2.2.2 := by simp only [LMo_run_24, hg1, if_neg h1, if_pos h2, if_neg h3]
          rw [e9] at kk
          rw [nI_1] at hl
          exact ih (i + 1) mq mn me mo mt mx mp mz mu g1.2.2.2.1 g1.2.2.2.2.1 g1.2.2.2.2.2.1 g1.2.2.2.2.2.2.1 g1.2.2.2.2.2.2.2.1 g1.2.2.2.2.2.2.2.2 mK mA mB mC mf ml mc mL md mi g1.2.1 g1.2.2.1 ls H locs (by have := pq_up (j := i) hi (by assumption); have := Int32.toInt_lt xf; omega) hmz0 hmz bn bz bc (by have := pq_up (j := i) hi (by assumption); omega) (lv_sub hl [1, 2, 0] rfl) hP hD hS kk
        · refine lv_aload_n hx hb dMo_run_43 rfl (lv_at hl 0 rfl) ?_
          refine lv_iconst (v := 2) hx hb dMo_run_44 (by first | rfl | decide) ?_
          refine va_put (D := D) (ci := 5) (v := .int 2) (ty := .int) (C := RMo) (T := TMo) (N := 27) hx hb hw pinMo tyMo tyMo_ok nmMo hown hE.1 hP hD hS 0 rfl rfl 26 (by decide) (hw _ wd_228) (fun _ h9 => h9) rfl (by decide +kernel) rfl rfl (Nat.le_of_ble_eq_true rfl) dMo_run_45 (fun H locs hP hD hS => ?_)
          have hP : va_P D vwCl (wM ad cI cS mq mn me mo mt mx mp mz mu g1.2.2.2.1 g1.2.2.2.2.1 g1.2.2.2.2.2.1 g1.2.2.2.2.2.2.1 g1.2.2.2.2.2.2.2.1 2 mK mA mB mC mf ml mc mL md mi g1.2.1 g1.2.2.1) H := hP
          have hD : va_D _ (wM ad cI cS mq mn me mo mt mx mp mz mu g1.2.2.2.1 g1.2.2.2.2.1 g1.2.2.2.2.2.1 g1.2.2.2.2.2.2.1 g1.2.2.2.2.2.2.2.1 2 mK mA mB mC mf ml mc mL md mi g1.2.1 g1.2.2.1) := hD
          refine lv_iinc (k := 2) (v := (nI i) + 1) (lv' := [(2, .int ((nI i) + 1)), (0, .ref (ad 17)), (1, .int xf)]) hx hb dMo_run_48 hl rfl (by first | rfl | decide) (by decide) rfl (fun ls hl => ?_)
          refine lv_goto (tgt := 24) hx hb dMo_run_51 (by decide) ?_
          have e9 : LMo_run_24 (n + 1) xf mz mi i mr mw vn vz vc vv vp ve = LMo_run_24 n xf mz mi (i + 1) g1.2.1 g1.2.2.1 g1.2.2.2.1 g1.2.2.2.2.1 g1.2.2.2.2.2.1 g1.2.2.2.2.2.2.1 g1.2.2.2.2.2.2.2.1 2 := by simp only [LMo_run_24, hg1, if_neg h1, if_pos h2, if_pos h3]
          rw [e9] at kk
          rw [nI_1] at hl
          exact ih (i + 1) mq mn me mo mt mx mp mz mu g1.2.2.2.1 g1.2.2.2.2.1 g1.2.2.2.2.2.1 g1.2.2.2.2.2.2.1 g1.2.2.2.2.2.2.2.1 2 mK mA mB mC mf ml mc mL md mi g1.2.1 g1.2.2.1 ls H locs (by have := pq_up (j := i) hi (by assumption); have := Int32.toInt_lt xf; omega) hmz0 hmz bn bz bc (by have := pq_up (j := i) hi (by assumption); omega) (lv_sub hl [1, 2, 0] rfl) hP hD hS kk
def FMo_run (xf : Int32) (mz : Int32) (vn : Int32) (vz : Int32) (vc : Int32) (vv : Int32) (vp : Int32) (ve : Int32) (mi : Nat → Int32) (mr : Nat → Int32) (mw : Nat → Int32) : Int32 × Int32 × (Nat → Int32) × (Nat → Int32) × Int32 × Int32 × Int32 × Int32 × Int32 × Int32 := if (FMo_outside xf 1 5000) = 0 then ((LMo_run_24 (xf.toInt.toNat + 1) xf mz mi 0 mr mw vn vz vc vv vp ve).2.2.2.2.2.2.2.2, 0, (LMo_run_24 (xf.toInt.toNat + 1) xf mz mi 0 mr mw vn vz vc vv vp ve).2.1, (LMo_run_24 (xf.toInt.toNat + 1) xf mz mi 0 mr mw vn vz vc vv vp ve).2.2.1, (LMo_run_24 (xf.toInt.toNat + 1) xf mz mi 0 mr mw vn vz vc vv vp ve).2.2.2.1, (LMo_run_24 (xf.toInt.toNat + 1) xf mz mi 0 mr mw vn vz vc vv vp ve).2.2.2.2.1, (LMo_run_24 (xf.toInt.toNat + 1) xf mz mi 0 mr mw vn vz vc vv vp ve).2.2.2.2.2.1, (LMo_run_24 (xf.toInt.toNat + 1) xf mz mi 0 mr mw vn vz vc vv vp ve).2.2.2.2.2.2.1, (LMo_run_24 (xf.toInt.toNat + 1) xf mz mi 0 mr mw vn vz vc vv vp ve).2.2.2.2.2.2.2.1, (LMo_run_24 (xf.toInt.toNat + 1) xf mz mi 0 mr mw vn vz vc vv vp ve).2.2.2.2.2.2.2.2) else (((FMo_refuse 1).1), (FMo_refuse 1).2, mr, mw, vn, vz, vc, vv, vp, ve)
set_option maxHeartbeats 4000000 in
set_option maxRecDepth 100000 in
theorem k_Mo_run (l : Launch) (D : va_G) (ad : Nat → Nat) (cI cS : ClassId) (xf : Int32) (mq : Int32) (mn : Int32) (me : Int32) (mo : Int32) (mt : Int32) (mx : Int32) (mp : Int32) (mz : Int32) (mu : Int32) (vn : Int32) (vz : Int32) (vc : Int32) (vv : Int32) (vp : Int32) (ve : Int32) (mK : Nat → Int32) (mA : Nat → Int32) (mB : Nat → Int32) (mC : Nat → Int32) (mf : Nat → Int32) (ml : Nat → Int32) (mc : Nat → Int32) (mL : Nat → Int32) (md : Nat → Int32) (mi : Nat → Int32) (mr : Nat → Int32) (mw : Nat → Int32) (hmz0 : ¬ mz < 0) (hmz : mz.toInt ≤ 7200) (bn : narrow .boolean (.int vn) = .int vn) (bz : narrow .boolean (.int vz) = .int vz) (bc : narrow .boolean (.int vc) = .int vc) : pq_IP l yMo_run (.code yMo_run cMo_run 3 (some .int) :: pq_ws) { frames := 4, cells := 0, slots := 0, locals := 92 } D cI cS [.ref (ad 17), .int xf] (wM ad cI cS mq mn me mo mt mx mp mz mu vn vz vc vv vp ve mK mA mB mC mf ml mc mL md mi mr mw) ((narrow .boolean (.int ((FMo_run xf mz vn vz vc vv vp ve mi mr mw).2.2.2.2.1)) = .int ((FMo_run xf mz vn vz vc vv vp ve mi mr mw).2.2.2.2.1)) ∧ (narrow .boolean (.int ((FMo_run xf mz vn vz vc vv vp ve mi mr mw).2.2.2.2.2.1)) = .int ((FMo_run xf mz vn vz vc vv vp ve mi mr mw).2.2.2.2.2.1)) ∧ (narrow .boolean (.int ((FMo_run xf mz vn vz vc vv vp ve mi mr mw).2.2.2.2.2.2.1)) = .int ((FMo_run xf mz vn vz vc vv vp ve mi mr mw).2.2.2.2.2.2.1))) ((FMo_run xf mz vn vz vc vv vp ve mi mr mw).1) (wM ad cI cS ((FMo_run xf mz vn vz vc vv vp ve mi mr mw).2.1) mn me mo mt mx mp mz mu ((FMo_run xf mz vn vz vc vv vp ve mi mr mw).2.2.2.2.1) ((FMo_run xf mz vn vz vc vv vp ve mi mr mw).2.2.2.2.2.1) ((FMo_run xf mz vn vz vc vv vp ve mi mr mw).2.2.2.2.2.2.1) ((FMo_run xf mz vn vz vc vv vp ve mi mr mw).2.2.2.2.2.2.2.1) ((FMo_run xf mz vn vz vc vv vp ve mi mr mw).2.2.2.2.2.2.2.2.1) ((FMo_run xf mz vn vz vc vv vp ve mi mr mw).2.2.2.2.2.2.2.2.2) mK mA mB mC mf ml mc mL md mi ((FMo_run xf mz vn vz vc vv vp ve mi mr mw).2.2.1) ((FMo_run xf mz vn vz vc vv vp ve mi mr mw).2.2.2.1)) := by
  intro sz
  refine Met.ofW (cc := cMo_run) (maxL := 3) (ret := (some .int)) (by decide) rfl ?_
  intro p e s m args below meth c s₁ B hml hv
  obtain ⟨rfl, hsz, hP, hD0, hE⟩ := hv
  have hx := B.exec
  have hb := B.bytes
  have hr := B.returns
  have hts := atoms_spec (ws := (.code yMo_run cMo_run 3 (some .int) :: pq_ws : List Cond)) B.pre
  have hw : ∀ w ∈ pq_ws, w.before _ s = true := fun w h => hts w (List.mem_cons_of_mem _ h)
  have hown : s.vm.findClass RMo = some m.cls := findClass_of_methodNamed B.named
  have hlocks := B.notSynchronized
  subst hsz
  have hD := hD0.self (sz := s.heap.size)
  have hA : ∀ q : Nat, s.heap.size ≤ q → va_A (wM ad cI cS mq mn me mo mt mx mp mz mu vn vz vc vv vp ve mK mA mB mC mf ml mc mL md mi mr mw) s.heap.size q := fun q h => Or.inr h
  have hS : va_S (va_A (wM ad cI cS mq mn me mo mt mx mp mz mu vn vz vc vv vp ve mK mA mB mC mf ml mc mL md mi mr mw) s.heap.size) s.heap s.heap [] := va_S.rf
  have hl := lv_entry ([.ref (ad 17), .int xf] : List Value) (n := 3) (Nat.le_of_ble_eq_true rfl)
  rw [lg_entry_eq]
  generalize (lg_sl ([.ref (ad 17), .int xf] : List Value) ++ List.replicate (3 - (lg_sl ([.ref (ad 17), .int xf] : List Value)).length) Slot.unset).toArray = ls at hl ⊢
  have hl : lv_has ls 3 [(0, .ref (ad 17)), (1, .int xf)] := hl
  refine lv_iload_n hx hb dMo_run_0 rfl (lv_at hl 1 rfl) ?_
  refine lv_iconst (v := 1) hx hb dMo_run_1 (by first | rfl | decide) ?_
  refine lv_sipush (v := 5000) hx hb dMo_run_2 (by first | rfl | decide) ?_
  refine pq_calli (fr := (FMo_outside xf 1 5000)) (wc := (wN ad cI cS)) (wr := ([0, 1, 2, 3, 4, 5, 6, 7, 8, 9, 10, 11, 12] : List Nat).filterMap (fun i => (wM ad cI cS mq mn me mo mt mx mp mz mu vn vz vc vv vp ve mK mA mB mC mf ml mc mL md mi mr mw)[i]?)) hP hD hS hA [] [0, 1, 2, 3, 4, 5, 6, 7, 8, 9, 10, 11, 12] rfl rfl (by decide) (by decide) (va_runS (own := RMo) (As := [.int xf, .int 1, .int 5000]) (rest := []) ⟨hx, hb, hml, hown, hw⟩ (k_Mo_outside l D ad cI cS xf 1 5000 s.heap.size) ⟨pq_cwB 3 hw wd_187 wd_186 wd_185 rfl rfl (by decide +kernel) ⟨Nat.le_of_ble_eq_true rfl, Nat.le_of_ble_eq_true rfl⟩, hw _ wd_188⟩ (pq_preS hE (hP.sub [] rfl) (hD.sub [] (by decide) rfl)) rfl rfl hl.1 rfl (lv_room (Nat.le_of_ble_eq_true rfl)) dMo_run_5 ⟨Nat.zero_le _, Nat.zero_le _⟩) (fun H locs hP hD hS => ?_)
  have hP : va_P D vwCl (wM ad cI cS mq mn me mo mt mx mp mz mu vn vz vc vv vp ve mK mA mB mC mf ml mc mL md mi mr mw) H := hP.sub [0, 1, 2, 3, 4, 5, 6, 7, 8, 9, 10, 11, 12] rfl
  have hD : va_D _ (wM ad cI cS mq mn me mo mt mx mp mz mu vn vz vc vv vp ve mK mA mB mC mf ml mc mL md mi mr mw) := hD.sub [0, 1, 2, 3, 4, 5, 6, 7, 8, 9, 10, 11, 12] (by decide) rfl
  refine lv_if_eq (tgt := 17) hx hb dMo_run_8 (by decide) (fun h1 => ?_) (fun h1 => ?_)
  · refine lv_aload_n hx hb dMo_run_17 rfl (lv_at hl 0 rfl) ?_
    refine lv_iconst (v := 0) hx hb dMo_run_18 (by first | rfl | decide) ?_
    refine va_put (D := D) (ci := 5) (v := .int 0) (ty := .int) (C := RMo) (T := TMo) (N := 27) hx hb hw pinMo tyMo tyMo_ok nmMo hown hE.1 hP hD hS 0 rfl rfl 0 (by decide) (hw _ wd_184) (fun _ h9 => h9) rfl (by decide +kernel) rfl rfl (Nat.le_of_ble_eq_true rfl) dMo_run_19 (fun H locs hP hD hS => ?_)
    have hP : va_P D vwCl (wM ad cI cS 0 mn me mo mt mx mp mz mu vn vz vc vv vp ve mK mA mB mC mf ml mc mL md mi mr mw) H := hP
    have hD : va_D _ (wM ad cI cS 0 mn me mo mt mx mp mz mu vn vz vc vv vp ve mK mA mB mC mf ml mc mL md mi mr mw) := hD
    refine lv_iconst (v := 0) hx hb dMo_run_22 (by first | rfl | decide) ?_
    refine lv_istore_n (lv' := [(2, .int 0), (0, .ref (ad 17)), (1, .int xf)]) hx hb dMo_run_23 rfl hl (by decide) rfl (fun ls hl => ?_)
    obtain ⟨g2, hg2⟩ : ∃ g9, LMo_run_24 (xf.toInt.toNat + 1) xf mz mi 0 mr mw vn vz vc vv vp ve = g9 := ⟨_, rfl⟩
    refine qMo_run_24 D ad cI cS hx hb hml hw hown hE hA ⟨Nat.le_of_ble_eq_true rfl, Nat.le_of_ble_eq_true rfl⟩ xf (xf.toInt.toNat + 1) 0 0 mn me mo mt mx mp mz mu vn vz vc vv vp ve mK mA mB mC mf ml mc mL md mi mr mw ls H locs (by decide) hmz0 hmz bn bz bc (by omega) (lv_sub hl [1, 2, 0] rfl) hP hD hS (fun ls H locs bn bz bc hl hP hD hS => ?_)
    try rw [hg2] at hl
    try rw [hg2] at hP
    try rw [hg2] at hD
    try rw [hg2] at bn
    try rw [hg2] at bz
    try rw [hg2] at bc
    have hP : va_P D vwCl (wM ad cI cS 0 mn me mo mt mx mp mz mu g2.2.2.2.1 g2.2.2.2.2.1 g2.2.2.2.2.2.1 g2.2.2.2.2.2.2.1 g2.2.2.2.2.2.2.2.1 g2.2.2.2.2.2.2.2.2 mK mA mB mC mf ml mc mL md mi g2.2.1 g2.2.2.1) H := hP
    have hD : va_D _ (wM ad cI cS 0 mn me mo mt mx mp mz mu g2.2.2.2.1 g2.2.2.2.2.1 g2.2.2.2.2.2.1 g2.2.2.2.2.2.2.1 g2.2.2.2.2.2.2.2.1 g2.2.2.2.2.2.2.2.2 mK mA mB mC mf ml mc mL md mi g2.2.1 g2.2.2.1) := hD
    refine lv_aload_n hx hb dMo_run_54 rfl (lv_at hl 0 rfl) ?_
    refine va_get (D := D) (ci := 5) (v := .int g2.2.2.2.2.2.2.2.2) (C := RMo) (T := TMo) (N := 27) hx hb hw pinMo hown hE.1 hP 0 rfl rfl 26 (by decide) (hw _ wd_228) (fun _ h9 => h9) rfl dMo_run_55 ?_
    have e9 : FMo_run xf mz vn vz vc vv vp ve mi mr mw = (g2.2.2.2.2.2.2.2.2, 0, g2.2.1, g2.2.2.1, g2.2.2.2.1, g2.2.2.2.2.1, g2.2.2.2.2.2.1, g2.2.2.2.2.2.2.1, g2.2.2.2.2.2.2.2.1, g2.2.2.2.2.2.2.2.2) := by simp only [FMo_run, hg2, if_pos h1]
    have p9 : (narrow .boolean (.int g2.2.2.2.1) = .int g2.2.2.2.1) ∧ (narrow .boolean (.int g2.2.2.2.2.1) = .int g2.2.2.2.2.1) ∧ (narrow .boolean (.int g2.2.2.2.2.2.1) = .int g2.2.2.2.2.2.1) := ⟨by first | with_reducible assumption | exact pq_b0 | exact pq_b1 | assumption, by first | with_reducible assumption | exact pq_b0 | exact pq_b1 | assumption, by first | with_reducible assumption | exact pq_b0 | exact pq_b1 | assumption⟩
    exact W.iret (v := g2.2.2.2.2.2.2.2.2) hx hb hr (fun t ht hW => ⟨⟨g2.2.2.2.2.2.2.2.2, (), rfl, ⟨by show _ = _; rw [e9], by rw [e9]; exact p9⟩, by rw [e9, ht]; exact hP, by rw [e9]; exact hD⟩, hS.F ht⟩) hS.2.2 dMo_run_58
  · refine lv_aload_n hx hb dMo_run_11 rfl (lv_at hl 0 rfl) ?_
    refine lv_iconst (v := 1) hx hb dMo_run_12 (by first | rfl | decide) ?_
    refine pq_calli (fr := ((FMo_refuse 1).1)) (wc := (wM ad cI cS mq mn me mo mt mx mp mz mu vn vz vc vv vp ve mK mA mB mC mf ml mc mL md mi mr mw)) (wr := ([] : List Nat).filterMap (fun i => (wM ad cI cS mq mn me mo mt mx mp mz mu vn vz vc vv vp ve mK mA mB mC mf ml mc mL md mi mr mw)[i]?)) hP hD hS hA [0, 1, 2, 3, 4, 5, 6, 7, 8, 9, 10, 11, 12] [] rfl rfl (by decide) (by decide) (va_runV (own := RMo) (C := RMo) (As := [.int 1]) (rest := []) ⟨hx, hb, hml, hown, hw⟩ (k_Mo_refuse l D ad cI cS 1 mq mn me mo mt mx mp mz mu vn vz vc vv vp ve mK mA mB mC mf ml mc mL md mi mr mw H.size) ⟨pq_cwB 1 hw wd_261 wd_186 wd_260 rfl rfl (by decide +kernel) ⟨Nat.le_of_ble_eq_true rfl, Nat.le_of_ble_eq_true rfl⟩, hw _ wd_262, hw _ wd_263⟩ (pq_preV (ci := 5) (C := RMo) (T := TMo) (N := 27) hE (hP.sub [0, 1, 2, 3, 4, 5, 6, 7, 8, 9, 10, 11, 12] rfl) (hD.sub [0, 1, 2, 3, 4, 5, 6, 7, 8, 9, 10, 11, 12] (by decide) rfl) rfl 0 rfl) rfl rfl hl.1 rfl (lv_room (Nat.le_of_ble_eq_true rfl)) dMo_run_13 ⟨Nat.zero_le _, Nat.zero_le _⟩) (fun H locs hP hD hS => ?_)
    have hP : va_P D vwCl (wM ad cI cS ((FMo_refuse 1).2) mn me mo mt mx mp mz mu vn vz vc vv vp ve mK mA mB mC mf ml mc mL md mi mr mw) H := hP.sub [0, 1, 2, 3, 4, 5, 6, 7, 8, 9, 10, 11, 12] rfl
    have hD : va_D _ (wM ad cI cS ((FMo_refuse 1).2) mn me mo mt mx mp mz mu vn vz vc vv vp ve mK mA mB mC mf ml mc mL md mi mr mw) := hD.sub [0, 1, 2, 3, 4, 5, 6, 7, 8, 9, 10, 11, 12] (by decide) rfl
    have e9 : FMo_run xf mz vn vz vc vv vp ve mi mr mw = (((FMo_refuse 1).1), (FMo_refuse 1).2, mr, mw, vn, vz, vc, vv, vp, ve) := by simp only [FMo_run, if_neg h1]
    have p9 : (narrow .boolean (.int vn) = .int vn) ∧ (narrow .boolean (.int vz) = .int vz) ∧ (narrow .boolean (.int vc) = .int vc) := ⟨by first | with_reducible assumption | exact pq_b0 | exact pq_b1 | assumption, by first | with_reducible assumption | exact pq_b0 | exact pq_b1 | assumption, by first | with_reducible assumption | exact pq_b0 | exact pq_b1 | assumption⟩
    exact W.iret (v := ((FMo_refuse 1).1)) hx hb hr (fun t ht hW => ⟨⟨((FMo_refuse 1).1), (), rfl, ⟨by show _ = _; rw [e9], by rw [e9]; exact p9⟩, by rw [e9, ht]; exact hP, by rw [e9]; exact hD⟩, hS.F ht⟩) hS.2.2 dMo_run_16
