/-! kinds, accounts, loans made -/
theorem rc_s {K i : Nat} {y : MethodName} {as : List z_V} : z_rcv 2 y (z_r K i :: as) := trivial
theorem cr_kind {tr : z_TR} {S : z_M} {h : z_H} (C : CR tr S h) (inv : INV S) {a s f : Int32} (hk : nK S < 6) : CR tr (uS (uA (uA (uA S 22 (nK S) a) 23 (nK S) s) 24 (nK S) f) 15 (nI (nK S + 1))) (sZ (sI (sI (sI (sI (z_nw h 4) 4 (nK S) 0 (nI (nK S))) 4 (nK S) 1 a) 4 (nK S) 2 s) 4 (nK S) 3 f) 200 0 (nK S + 1)) := by
  have eN : ci (nI (nK S + 1)) = nK S + 1 := ci_nI (by omega)
  unfold CR
  refine ⟨C.xA, ?_, C.xL, C.xE, C.xO, C.xR, C.xX, C.xF, ?_, C.zA, C.zR, C.zO, C.zE, C.zS, C.zL, C.ref, C.day, C.wai, C.fee, C.ter, C.hou, C.scn, C.fcn, ?_, C.acc, C.fol, C.rec, C.ord, C.lin, C.len, C.row, C.sus⟩
  · show hN (z_nw h 4) 4 = ci (nI (nK S + 1))
    rw [eN, zr_hNnw, if_pos rfl, C.xK]
  · rw [zr_hZsZ, if_pos ⟨rfl, rfl⟩]
    exact eN.symm
  · intro k hk'
    have hk2 : k < ci (nI (nK S + 1)) := hk'
    rw [eN] at hk2
    by_cases e : k = nK S
    · have z := inv.kin.2 (nK S) (Nat.le_refl _) (by omega)
      simp only [zq_hIsI, zq_hLsL, zq_hRsR, zq_hZsZ, zq_hNsN, zq_hInw, zq_hLnw, zq_hRnw, zq_hNnw, zq_hZnw, zq_hIsL, zq_hIsR, zq_hIsZ, zq_hIsN, zq_hLsI, zq_hLsR, zq_hLsZ, zq_hLsN, zq_hRsI, zq_hRsL, zq_hRsZ, zq_hRsN, zq_hNsI, zq_hNsL, zq_hNsR, zq_hNsZ, zq_hZsI, zq_hZsL, zq_hZsR, zq_hZsN, mA_uA, mB_uB, mS_uS, mT_uT, mA_uB, mA_uS, mA_uT, mB_uA, mB_uS, mB_uT, mS_uA, mS_uB, mS_uT, mT_uA, mT_uB, mT_uS, Nat.reduceEqDiff, true_and, and_true, false_and, and_false, ↓reduceIte, C.xK, e, z]
      first | rfl | exact ⟨rfl, trivial⟩
    · simp only [zq_hIsI, zq_hLsL, zq_hRsR, zq_hZsZ, zq_hNsN, zq_hInw, zq_hLnw, zq_hRnw, zq_hNnw, zq_hZnw, zq_hIsL, zq_hIsR, zq_hIsZ, zq_hIsN, zq_hLsI, zq_hLsR, zq_hLsZ, zq_hLsN, zq_hRsI, zq_hRsL, zq_hRsZ, zq_hRsN, zq_hNsI, zq_hNsL, zq_hNsR, zq_hNsZ, zq_hZsI, zq_hZsL, zq_hZsR, zq_hZsN, mA_uA, mB_uB, mS_uS, mT_uT, mA_uB, mA_uS, mA_uT, mB_uA, mB_uS, mB_uT, mS_uA, mS_uB, mS_uT, mT_uA, mT_uB, mT_uS, Nat.reduceEqDiff, true_and, and_true, false_and, and_false, ↓reduceIte, C.xK, e]
      exact C.kin k (by omega)
theorem c_kind (l : Launch) (G : z_G) (d : Nat) (hd : 10 ≤ d) (tr : z_TR) (S : z_M) (h : z_H) (C : CR tr S h) (inv : INV S) (a s f : Int32) : z_MT l G d yX11_kind cX11_kind 4 (some .int) [z_r 13 0, z_i a, z_i s, z_i f] h 2 40 (Ci tr h (o_kind S a s f)) := by
  have huK : nK S = ci (mS S 15) := rfl
  have htK := inv.cK.t
  have hbK := inv.cK.2
  have hpK : (mS S 15 - 1).toInt = (ci (mS S 15) : Int) - 1 := by
    rw [sub32 (by rw [htK, show (1 : Int32).toInt = 1 from rfl]; omega) (by rw [htK, show (1 : Int32).toInt = 1 from rfl]; omega), htK]
    rfl
  have tn := toIntS (show nK S < 2000000000 by omega)
  have gc := z_gc_le (nK S)
  have gs := z_gs_le (nK S)
  refine z_mt2 13 false ⟨by decide, rfl, fun q => absurd q (by decide)⟩ (by show 4 ≤ 4; decide) (fun A st wk => ?_)
  refine st b_X11_kind_0 _ _ k_X11_kind_0 _ _ _ _ _ ?_
  simp only [b_X11_kind_0, zr_cP_eq, zr_cP_ne, zr_call1, zr_i2l, zr_ifc, zr_iload_n1, zr_iload_n2, zr_iload_n3, zr_lconst1, zr_ldc2, zr_nil, zr_cons, ↓reduceIte, Nat.reduceAdd, Nat.reduceEqDiff, Nat.reduceLeDiff, Nat.reduceMul, Nat.reduceSub, Int32.reduceOfInt, Int64.reduceOfInt, Int64.reduceOfNat, true_and, and_true, false_and, and_false, or_false, false_or, true_or, or_true, Int.reduceEq, reduceCtorEq, or_self, and_self, ne_eq, not_false_eq_true, not_true_eq_false, eq_self, Nat.le_refl, Nat.zero_le, zr_eI, zr_eL, zr_eR, zr_pI, zr_pL, zr_pR, zr_pO, zr_pV, zq_pA0, zq_pA, zr_get, zr_put_n, zr_put, zr_rem_n, zr_rem, zr_cat_i, zr_cat_l, zr_cat_q, zr_w_n, zr_w, zr_args_n, zr_args, zr_tl_s, zr_tl_n, zq_hIsI, zq_hLsL, zq_hRsR, zq_hIsL, zq_hIsR, zq_hLsI, zq_hLsR, zq_hRsI, zq_hRsL, zq_hNsI, zq_hNsL, zq_hNsR, zq_hZsI, zq_hZsL, zq_hZsR, b2_01, Classical.not_not, Int32.toInt_toInt64, Int64.reduceToInt, zc_1000, zc_100, zc_10, zc_9, zc_2, ci_f, C.r0, C.r1, C.r2, C.r3, C.r4, C.r5, C.r6, C.r7, C.r8, C.r9, C.q0, C.q1, C.q2, zl_200, zl_201, zl_202, zl_203, zl_204, zl_205, zl_206, zl_207, lT_200, lT_201, lT_202, lT_203, lT_204, lT_205, lT_206, C.zK, C.zA, C.zR, C.zO, C.zE, C.zS, C.zL, zq_hInw, zq_hLnw, zq_hRnw, zq_hNnw, zq_hZnw, zq_hZsZ, zq_hNsN, zq_hIsZ, zq_hIsN, zq_hLsZ, zq_hLsN, zq_hRsZ, zq_hRsN, zq_hNsZ, zq_hZsN, kF_2, kF_3, kF_4, kF_5, kF_6, kF_7, kF_8, kF_9, kF_10, kF_11, kF_12, kF_13, C.xA, C.xK, C.xL, C.xE, C.xO, C.xR, C.xX, C.xF]
  refine cp0 (by omega) lk_X11_68 trivial (c_within l G _ _ _ _ _) (by omega) (by omega) ?_
  simp only [zr_cP_eq, zr_cP_ne, zr_call1, zr_i2l, zr_ifc, zr_iload_n1, zr_iload_n2, zr_iload_n3, zr_lconst1, zr_ldc2, zr_nil, zr_cons, ↓reduceIte, Nat.reduceAdd, Nat.reduceEqDiff, Nat.reduceLeDiff, Nat.reduceMul, Nat.reduceSub, Int32.reduceOfInt, Int64.reduceOfInt, Int64.reduceOfNat, true_and, and_true, false_and, and_false, or_false, false_or, true_or, or_true, Int.reduceEq, reduceCtorEq, or_self, and_self, ne_eq, not_false_eq_true, not_true_eq_false, eq_self, Nat.le_refl, Nat.zero_le, zr_eI, zr_eL, zr_eR, zr_pI, zr_pL, zr_pR, zr_pO, zr_pV, zq_pA0, zq_pA, zr_get, zr_put_n, zr_put, zr_rem_n, zr_rem, zr_cat_i, zr_cat_l, zr_cat_q, zr_w_n, zr_w, zr_args_n, zr_args, zr_tl_s, zr_tl_n, zq_hIsI, zq_hLsL, zq_hRsR, zq_hIsL, zq_hIsR, zq_hLsI, zq_hLsR, zq_hRsI, zq_hRsL, zq_hNsI, zq_hNsL, zq_hNsR, zq_hZsI, zq_hZsL, zq_hZsR, b2_01, Classical.not_not, Int32.toInt_toInt64, Int64.reduceToInt, zc_1000, zc_100, zc_10, zc_9, zc_2, ci_f, C.r0, C.r1, C.r2, C.r3, C.r4, C.r5, C.r6, C.r7, C.r8, C.r9, C.q0, C.q1, C.q2, zl_200, zl_201, zl_202, zl_203, zl_204, zl_205, zl_206, zl_207, lT_200, lT_201, lT_202, lT_203, lT_204, lT_205, lT_206, C.zK, C.zA, C.zR, C.zO, C.zE, C.zS, C.zL, zq_hInw, zq_hLnw, zq_hRnw, zq_hNnw, zq_hZnw, zq_hZsZ, zq_hNsN, zq_hIsZ, zq_hIsN, zq_hLsZ, zq_hLsN, zq_hRsZ, zq_hRsN, zq_hNsZ, zq_hZsN, kF_2, kF_3, kF_4, kF_5, kF_6, kF_7, kF_8, kF_9, kF_10, kF_11, kF_12, kF_13, C.xA, C.xK, C.xL, C.xE, C.xO, C.xR, C.xX, C.xF]
  refine ⟨fun qc1 => ?_, fun qc1 => ?_⟩
  · try simp only [b2_0, Classical.not_not] at qc1
    try simp only [Int64.le_iff_toInt_le, Int64.lt_iff_toInt_lt, Int32.lt_iff_toInt_lt, Int32.le_iff_toInt_le, Int32.toInt_toInt64, Int64.reduceToInt, Int32.reduceToInt, Int.reduceNeg, Classical.not_not, i32e, l_add, tn] at qc1
    refine st b_X11_kind_35 _ _ k_X11_kind_35 _ _ _ _ _ ?_
    simp only [b_X11_kind_35, zr_T, zr_bipush, zr_iret, zr_rt_a, zr_rt_i, zr_rt_l, zr_rt_n, zr_rt_z, zr_nil, zr_cons, ↓reduceIte, Nat.reduceAdd, Nat.reduceEqDiff, Nat.reduceLeDiff, Nat.reduceMul, Nat.reduceSub, Int32.reduceOfInt, Int64.reduceOfInt, Int64.reduceOfNat, true_and, and_true, false_and, and_false, or_false, false_or, true_or, or_true, Int.reduceEq, reduceCtorEq, or_self, and_self, ne_eq, not_false_eq_true, not_true_eq_false, eq_self, Nat.le_refl, Nat.zero_le, zr_eI, zr_eL, zr_eR, zr_pI, zr_pL, zr_pR, zr_pO, zr_pV, zq_pA0, zq_pA, zr_get, zr_put_n, zr_put, zr_rem_n, zr_rem, zr_cat_i, zr_cat_l, zr_cat_q, zr_w_n, zr_w, zr_args_n, zr_args, zr_tl_s, zr_tl_n, zq_hIsI, zq_hLsL, zq_hRsR, zq_hIsL, zq_hIsR, zq_hLsI, zq_hLsR, zq_hRsI, zq_hRsL, zq_hNsI, zq_hNsL, zq_hNsR, zq_hZsI, zq_hZsL, zq_hZsR, b2_01, Classical.not_not, Int32.toInt_toInt64, Int64.reduceToInt, zc_1000, zc_100, zc_10, zc_9, zc_2, ci_f, C.r0, C.r1, C.r2, C.r3, C.r4, C.r5, C.r6, C.r7, C.r8, C.r9, C.q0, C.q1, C.q2, zl_200, zl_201, zl_202, zl_203, zl_204, zl_205, zl_206, zl_207, lT_200, lT_201, lT_202, lT_203, lT_204, lT_205, lT_206, C.zK, C.zA, C.zR, C.zO, C.zE, C.zS, C.zL, zq_hInw, zq_hLnw, zq_hRnw, zq_hNnw, zq_hZnw, zq_hZsZ, zq_hNsN, zq_hIsZ, zq_hIsN, zq_hLsZ, zq_hLsN, zq_hRsZ, zq_hRsN, zq_hNsZ, zq_hZsN, kF_2, kF_3, kF_4, kF_5, kF_6, kF_7, kF_8, kF_9, kF_10, kF_11, kF_12, kF_13, C.xA, C.xK, C.xL, C.xE, C.xO, C.xR, C.xX, C.xF]
    repeat (with_reducible refine ⟨by omega, ?_⟩)
    refine qci (S' := S) ?_ C z_sM.rf
    unfold o_kind
    (repeat' split) <;> (first | rfl | (exfalso; omega))
  · try simp only [b2_0, Classical.not_not] at qc1
    try simp only [Int64.le_iff_toInt_le, Int64.lt_iff_toInt_lt, Int32.lt_iff_toInt_lt, Int32.le_iff_toInt_le, Int32.toInt_toInt64, Int64.reduceToInt, Int32.reduceToInt, Int.reduceNeg, Classical.not_not, i32e, l_add, tn] at qc1
    refine cp0 (by omega) lk_X11_68 trivial (c_within l G _ _ _ _ _) (by omega) (by omega) ?_
    simp only [zr_cP_eq, zr_cP_ne, zr_call1, zr_i2l, zr_ifc, zr_iload_n3, zr_lconst1, zr_ldc2, zr_nil, zr_cons, ↓reduceIte, Nat.reduceAdd, Nat.reduceEqDiff, Nat.reduceLeDiff, Nat.reduceMul, Nat.reduceSub, Int32.reduceOfInt, Int64.reduceOfInt, Int64.reduceOfNat, true_and, and_true, false_and, and_false, or_false, false_or, true_or, or_true, Int.reduceEq, reduceCtorEq, or_self, and_self, ne_eq, not_false_eq_true, not_true_eq_false, eq_self, Nat.le_refl, Nat.zero_le, zr_eI, zr_eL, zr_eR, zr_pI, zr_pL, zr_pR, zr_pO, zr_pV, zq_pA0, zq_pA, zr_get, zr_put_n, zr_put, zr_rem_n, zr_rem, zr_cat_i, zr_cat_l, zr_cat_q, zr_w_n, zr_w, zr_args_n, zr_args, zr_tl_s, zr_tl_n, zq_hIsI, zq_hLsL, zq_hRsR, zq_hIsL, zq_hIsR, zq_hLsI, zq_hLsR, zq_hRsI, zq_hRsL, zq_hNsI, zq_hNsL, zq_hNsR, zq_hZsI, zq_hZsL, zq_hZsR, b2_01, Classical.not_not, Int32.toInt_toInt64, Int64.reduceToInt, zc_1000, zc_100, zc_10, zc_9, zc_2, ci_f, C.r0, C.r1, C.r2, C.r3, C.r4, C.r5, C.r6, C.r7, C.r8, C.r9, C.q0, C.q1, C.q2, zl_200, zl_201, zl_202, zl_203, zl_204, zl_205, zl_206, zl_207, lT_200, lT_201, lT_202, lT_203, lT_204, lT_205, lT_206, C.zK, C.zA, C.zR, C.zO, C.zE, C.zS, C.zL, zq_hInw, zq_hLnw, zq_hRnw, zq_hNnw, zq_hZnw, zq_hZsZ, zq_hNsN, zq_hIsZ, zq_hIsN, zq_hLsZ, zq_hLsN, zq_hRsZ, zq_hRsN, zq_hNsZ, zq_hZsN, kF_2, kF_3, kF_4, kF_5, kF_6, kF_7, kF_8, kF_9, kF_10, kF_11, kF_12, kF_13, C.xA, C.xK, C.xL, C.xE, C.xO, C.xR, C.xX, C.xF]
    refine ⟨fun qc2 => ?_, fun qc2 => ?_⟩
    · try simp only [b2_0, Classical.not_not] at qc2
      try simp only [Int64.le_iff_toInt_le, Int64.lt_iff_toInt_lt, Int32.lt_iff_toInt_lt, Int32.le_iff_toInt_le, Int32.toInt_toInt64, Int64.reduceToInt, Int32.reduceToInt, Int.reduceNeg, Classical.not_not, i32e, l_add, tn] at qc2
      refine st b_X11_kind_35 _ _ k_X11_kind_35 _ _ _ _ _ ?_
      simp only [b_X11_kind_35, zr_T, zr_bipush, zr_iret, zr_rt_a, zr_rt_i, zr_rt_l, zr_rt_n, zr_rt_z, zr_nil, zr_cons, ↓reduceIte, Nat.reduceAdd, Nat.reduceEqDiff, Nat.reduceLeDiff, Nat.reduceMul, Nat.reduceSub, Int32.reduceOfInt, Int64.reduceOfInt, Int64.reduceOfNat, true_and, and_true, false_and, and_false, or_false, false_or, true_or, or_true, Int.reduceEq, reduceCtorEq, or_self, and_self, ne_eq, not_false_eq_true, not_true_eq_false, eq_self, Nat.le_refl, Nat.zero_le, zr_eI, zr_eL, zr_eR, zr_pI, zr_pL, zr_pR, zr_pO, zr_pV, zq_pA0, zq_pA, zr_get, zr_put_n, zr_put, zr_rem_n, zr_rem, zr_cat_i, zr_cat_l, zr_cat_q, zr_w_n, zr_w, zr_args_n, zr_args, zr_tl_s, zr_tl_n, zq_hIsI, zq_hLsL, zq_hRsR, zq_hIsL, zq_hIsR, zq_hLsI, zq_hLsR, zq_hRsI, zq_hRsL, zq_hNsI, zq_hNsL, zq_hNsR, zq_hZsI, zq_hZsL, zq_hZsR, b2_01, Classical.not_not, Int32.toInt_toInt64, Int64.reduceToInt, zc_1000, zc_100, zc_10, zc_9, zc_2, ci_f, C.r0, C.r1, C.r2, C.r3, C.r4, C.r5, C.r6, C.r7, C.r8, C.r9, C.q0, C.q1, C.q2, zl_200, zl_201, zl_202, zl_203, zl_204, zl_205, zl_206, zl_207, lT_200, lT_201, lT_202, lT_203, lT_204, lT_205, lT_206, C.zK, C.zA, C.zR, C.zO, C.zE, C.zS, C.zL, zq_hInw, zq_hLnw, zq_hRnw, zq_hNnw, zq_hZnw, zq_hZsZ, zq_hNsN, zq_hIsZ, zq_hIsN, zq_hLsZ, zq_hLsN, zq_hRsZ, zq_hRsN, zq_hNsZ, zq_hZsN, kF_2, kF_3, kF_4, kF_5, kF_6, kF_7, kF_8, kF_9, kF_10, kF_11, kF_12, kF_13, C.xA, C.xK, C.xL, C.xE, C.xO, C.xR, C.xX, C.xF]
      repeat (with_reducible refine ⟨by omega, ?_⟩)
      refine qci (S' := S) ?_ C z_sM.rf
      unfold o_kind
      (repeat' split) <;> (first | rfl | (exfalso; omega))
    · try simp only [b2_0, Classical.not_not] at qc2
      try simp only [Int64.le_iff_toInt_le, Int64.lt_iff_toInt_lt, Int32.lt_iff_toInt_lt, Int32.le_iff_toInt_le, Int32.toInt_toInt64, Int64.reduceToInt, Int32.reduceToInt, Int.reduceNeg, Classical.not_not, i32e, l_add, tn] at qc2
      refine cp0 (by omega) lk_X11_68 trivial (c_within l G _ _ _ _ _) (by omega) (by omega) ?_
      simp only [zr_cP_ne, zr_ifc, zr_nil, zr_cons, ↓reduceIte, Nat.reduceAdd, Nat.reduceEqDiff, Nat.reduceLeDiff, Nat.reduceMul, Nat.reduceSub, Int32.reduceOfInt, Int64.reduceOfInt, Int64.reduceOfNat, true_and, and_true, false_and, and_false, or_false, false_or, true_or, or_true, Int.reduceEq, reduceCtorEq, or_self, and_self, ne_eq, not_false_eq_true, not_true_eq_false, eq_self, Nat.le_refl, Nat.zero_le, zr_eI, zr_eL, zr_eR, zr_pI, zr_pL, zr_pR, zr_pO, zr_pV, zq_pA0, zq_pA, zr_get, zr_put_n, zr_put, zr_rem_n, zr_rem, zr_cat_i, zr_cat_l, zr_cat_q, zr_w_n, zr_w, zr_args_n, zr_args, zr_tl_s, zr_tl_n, zq_hIsI, zq_hLsL, zq_hRsR, zq_hIsL, zq_hIsR, zq_hLsI, zq_hLsR, zq_hRsI, zq_hRsL, zq_hNsI, zq_hNsL, zq_hNsR, zq_hZsI, zq_hZsL, zq_hZsR, b2_01, Classical.not_not, Int32.toInt_toInt64, Int64.reduceToInt, zc_1000, zc_100, zc_10, zc_9, zc_2, ci_f, C.r0, C.r1, C.r2, C.r3, C.r4, C.r5, C.r6, C.r7, C.r8, C.r9, C.q0, C.q1, C.q2, zl_200, zl_201, zl_202, zl_203, zl_204, zl_205, zl_206, zl_207, lT_200, lT_201, lT_202, lT_203, lT_204, lT_205, lT_206, C.zK, C.zA, C.zR, C.zO, C.zE, C.zS, C.zL, zq_hInw, zq_hLnw, zq_hRnw, zq_hNnw, zq_hZnw, zq_hZsZ, zq_hNsN, zq_hIsZ, zq_hIsN, zq_hLsZ, zq_hLsN, zq_hRsZ, zq_hRsN, zq_hNsZ, zq_hZsN, kF_2, kF_3, kF_4, kF_5, kF_6, kF_7, kF_8, kF_9, kF_10, kF_11, kF_12, kF_13, C.xA, C.xK, C.xL, C.xE, C.xO, C.xR, C.xX, C.xF]
      refine ⟨fun qc3 => ?_, fun qc3 => ?_⟩
      · try simp only [b2_0, Classical.not_not] at qc3
        try simp only [Int64.le_iff_toInt_le, Int64.lt_iff_toInt_lt, Int32.lt_iff_toInt_lt, Int32.le_iff_toInt_le, Int32.toInt_toInt64, Int64.reduceToInt, Int32.reduceToInt, Int.reduceNeg, Classical.not_not, i32e, l_add, tn] at qc3
        refine st b_X11_kind_38 _ _ k_X11_kind_38 _ _ _ _ _ ?_
        simp only [b_X11_kind_38, zr_T, zr_aload_n0, zr_bipush, zr_cP_lt, zr_get2, zr_icmp, zr_iret, zr_lsize, zr_rt_a, zr_rt_i, zr_rt_l, zr_rt_n, zr_rt_z, zr_nil, zr_cons, ↓reduceIte, Nat.reduceAdd, Nat.reduceEqDiff, Nat.reduceLeDiff, Nat.reduceMul, Nat.reduceSub, Int32.reduceOfInt, Int64.reduceOfInt, Int64.reduceOfNat, true_and, and_true, false_and, and_false, or_false, false_or, true_or, or_true, Int.reduceEq, reduceCtorEq, or_self, and_self, ne_eq, not_false_eq_true, not_true_eq_false, eq_self, Nat.le_refl, Nat.zero_le, zr_eI, zr_eL, zr_eR, zr_pI, zr_pL, zr_pR, zr_pO, zr_pV, zq_pA0, zq_pA, zr_get, zr_put_n, zr_put, zr_rem_n, zr_rem, zr_cat_i, zr_cat_l, zr_cat_q, zr_w_n, zr_w, zr_args_n, zr_args, zr_tl_s, zr_tl_n, zq_hIsI, zq_hLsL, zq_hRsR, zq_hIsL, zq_hIsR, zq_hLsI, zq_hLsR, zq_hRsI, zq_hRsL, zq_hNsI, zq_hNsL, zq_hNsR, zq_hZsI, zq_hZsL, zq_hZsR, b2_01, Classical.not_not, Int32.toInt_toInt64, Int64.reduceToInt, zc_1000, zc_100, zc_10, zc_9, zc_2, ci_f, C.r0, C.r1, C.r2, C.r3, C.r4, C.r5, C.r6, C.r7, C.r8, C.r9, C.q0, C.q1, C.q2, zl_200, zl_201, zl_202, zl_203, zl_204, zl_205, zl_206, zl_207, lT_200, lT_201, lT_202, lT_203, lT_204, lT_205, lT_206, C.zK, C.zA, C.zR, C.zO, C.zE, C.zS, C.zL, zq_hInw, zq_hLnw, zq_hRnw, zq_hNnw, zq_hZnw, zq_hZsZ, zq_hNsN, zq_hIsZ, zq_hIsN, zq_hLsZ, zq_hLsN, zq_hRsZ, zq_hRsN, zq_hNsZ, zq_hZsN, kF_2, kF_3, kF_4, kF_5, kF_6, kF_7, kF_8, kF_9, kF_10, kF_11, kF_12, kF_13, C.xA, C.xK, C.xL, C.xE, C.xO, C.xR, C.xX, C.xF]
        repeat (with_reducible refine ⟨by omega, ?_⟩)
        refine ⟨fun qc4 => ?_, fun qc4 => ?_⟩
        · try simp only [b2_0, Classical.not_not] at qc4
          try simp only [Int64.le_iff_toInt_le, Int64.lt_iff_toInt_lt, Int32.lt_iff_toInt_lt, Int32.le_iff_toInt_le, Int32.toInt_toInt64, Int64.reduceToInt, Int32.reduceToInt, Int.reduceNeg, Classical.not_not, i32e, l_add, tn] at qc4
          refine st b_X11_kind_53 _ _ k_X11_kind_53 _ _ _ _ _ ?_
          simp only [b_X11_kind_53, zr_T, zr_aload_n0, zr_call2, zr_dup, zr_get2, zr_iconst, zr_iload_n1, zr_iload_n2, zr_iload_n3, zr_iret, zr_isub, zr_lapp, zr_lsize, zr_new, zr_pop, zr_rt_a, zr_rt_i, zr_rt_l, zr_rt_n, zr_rt_z, zr_nil, zr_cons, ↓reduceIte, Nat.reduceAdd, Nat.reduceEqDiff, Nat.reduceLeDiff, Nat.reduceMul, Nat.reduceSub, Int32.reduceOfInt, Int64.reduceOfInt, Int64.reduceOfNat, true_and, and_true, false_and, and_false, or_false, false_or, true_or, or_true, Int.reduceEq, reduceCtorEq, or_self, and_self, ne_eq, not_false_eq_true, not_true_eq_false, eq_self, Nat.le_refl, Nat.zero_le, zr_eI, zr_eL, zr_eR, zr_pI, zr_pL, zr_pR, zr_pO, zr_pV, zq_pA0, zq_pA, zr_get, zr_put_n, zr_put, zr_rem_n, zr_rem, zr_cat_i, zr_cat_l, zr_cat_q, zr_w_n, zr_w, zr_args_n, zr_args, zr_tl_s, zr_tl_n, zq_hIsI, zq_hLsL, zq_hRsR, zq_hIsL, zq_hIsR, zq_hLsI, zq_hLsR, zq_hRsI, zq_hRsL, zq_hNsI, zq_hNsL, zq_hNsR, zq_hZsI, zq_hZsL, zq_hZsR, b2_01, Classical.not_not, Int32.toInt_toInt64, Int64.reduceToInt, zc_1000, zc_100, zc_10, zc_9, zc_2, ci_f, C.r0, C.r1, C.r2, C.r3, C.r4, C.r5, C.r6, C.r7, C.r8, C.r9, C.q0, C.q1, C.q2, zl_200, zl_201, zl_202, zl_203, zl_204, zl_205, zl_206, zl_207, lT_200, lT_201, lT_202, lT_203, lT_204, lT_205, lT_206, C.zK, C.zA, C.zR, C.zO, C.zE, C.zS, C.zL, zq_hInw, zq_hLnw, zq_hRnw, zq_hNnw, zq_hZnw, zq_hZsZ, zq_hNsN, zq_hIsZ, zq_hIsN, zq_hLsZ, zq_hLsN, zq_hRsZ, zq_hRsN, zq_hNsZ, zq_hZsN, kF_2, kF_3, kF_4, kF_5, kF_6, kF_7, kF_8, kF_9, kF_10, kF_11, kF_12, kF_13, C.xA, C.xK, C.xL, C.xE, C.xO, C.xR, C.xX, C.xF]
          repeat (with_reducible refine ⟨by omega, ?_⟩)
          repeat (with_reducible refine ⟨by omega, ?_⟩)
          refine cph (by omega) lk_X11_111 rc_s (c_iKind l G _ (by omega) _ _ _ _ _ _) (by omega) (by omega) ?_
          simp only [zr_T, zr_aload_n0, zr_get2, zr_iconst, zr_iret, zr_isub, zr_lapp, zr_lsize, zr_pop, zr_rt_a, zr_rt_i, zr_rt_l, zr_rt_n, zr_rt_z, zr_nil, zr_cons, ↓reduceIte, Nat.reduceAdd, Nat.reduceEqDiff, Nat.reduceLeDiff, Nat.reduceMul, Nat.reduceSub, Int32.reduceOfInt, Int64.reduceOfInt, Int64.reduceOfNat, true_and, and_true, false_and, and_false, or_false, false_or, true_or, or_true, Int.reduceEq, reduceCtorEq, or_self, and_self, ne_eq, not_false_eq_true, not_true_eq_false, eq_self, Nat.le_refl, Nat.zero_le, zr_eI, zr_eL, zr_eR, zr_pI, zr_pL, zr_pR, zr_pO, zr_pV, zq_pA0, zq_pA, zr_get, zr_put_n, zr_put, zr_rem_n, zr_rem, zr_cat_i, zr_cat_l, zr_cat_q, zr_w_n, zr_w, zr_args_n, zr_args, zr_tl_s, zr_tl_n, zq_hIsI, zq_hLsL, zq_hRsR, zq_hIsL, zq_hIsR, zq_hLsI, zq_hLsR, zq_hRsI, zq_hRsL, zq_hNsI, zq_hNsL, zq_hNsR, zq_hZsI, zq_hZsL, zq_hZsR, b2_01, Classical.not_not, Int32.toInt_toInt64, Int64.reduceToInt, zc_1000, zc_100, zc_10, zc_9, zc_2, ci_f, C.r0, C.r1, C.r2, C.r3, C.r4, C.r5, C.r6, C.r7, C.r8, C.r9, C.q0, C.q1, C.q2, zl_200, zl_201, zl_202, zl_203, zl_204, zl_205, zl_206, zl_207, lT_200, lT_201, lT_202, lT_203, lT_204, lT_205, lT_206, C.zK, C.zA, C.zR, C.zO, C.zE, C.zS, C.zL, zq_hInw, zq_hLnw, zq_hRnw, zq_hNnw, zq_hZnw, zq_hZsZ, zq_hNsN, zq_hIsZ, zq_hIsN, zq_hLsZ, zq_hLsN, zq_hRsZ, zq_hRsN, zq_hNsZ, zq_hZsN, kF_2, kF_3, kF_4, kF_5, kF_6, kF_7, kF_8, kF_9, kF_10, kF_11, kF_12, kF_13, C.xA, C.xK, C.xL, C.xE, C.xO, C.xR, C.xX, C.xF]
          repeat (with_reducible refine ⟨by omega, ?_⟩)
          repeat (with_reducible refine ⟨by omega, ?_⟩)
          rw [nI_pred]
          repeat (with_reducible refine ⟨by omega, ?_⟩)
          refine qci (S' := uS (uA (uA (uA S 22 (nK S) a) 23 (nK S) s) 24 (nK S) f) 15 (nI (nK S + 1))) ?_ (cr_kind C inv (by omega)) (by repeat (first | with_reducible exact z_sM.rf | with_reducible assumption | with_reducible refine z_sM.I ?_ (by decide) | with_reducible refine z_sM.L ?_ (by decide) | with_reducible refine z_sM.R ?_ (by decide) | with_reducible refine z_sM.Z ?_ | with_reducible refine z_sM.N ?_ | with_reducible refine z_sM.W ?_ (by decide) | with_reducible refine z_sM.C ?_))
          unfold o_kind
          (repeat' split) <;> (first | rfl | (exfalso; omega))
        · try simp only [b2_0, Classical.not_not] at qc4
          try simp only [Int64.le_iff_toInt_le, Int64.lt_iff_toInt_lt, Int32.lt_iff_toInt_lt, Int32.le_iff_toInt_le, Int32.toInt_toInt64, Int64.reduceToInt, Int32.reduceToInt, Int.reduceNeg, Classical.not_not, i32e, l_add, tn] at qc4
          repeat (with_reducible refine ⟨by omega, ?_⟩)
          refine qci (S' := S) ?_ C z_sM.rf
          unfold o_kind
          (repeat' split) <;> (first | rfl | (exfalso; omega))
      · try simp only [b2_0, Classical.not_not] at qc3
        try simp only [Int64.le_iff_toInt_le, Int64.lt_iff_toInt_lt, Int32.lt_iff_toInt_lt, Int32.le_iff_toInt_le, Int32.toInt_toInt64, Int64.reduceToInt, Int32.reduceToInt, Int.reduceNeg, Classical.not_not, i32e, l_add, tn] at qc3
        refine st b_X11_kind_35 _ _ k_X11_kind_35 _ _ _ _ _ ?_
        simp only [b_X11_kind_35, zr_T, zr_bipush, zr_iret, zr_rt_a, zr_rt_i, zr_rt_l, zr_rt_n, zr_rt_z, zr_nil, zr_cons, ↓reduceIte, Nat.reduceAdd, Nat.reduceEqDiff, Nat.reduceLeDiff, Nat.reduceMul, Nat.reduceSub, Int32.reduceOfInt, Int64.reduceOfInt, Int64.reduceOfNat, true_and, and_true, false_and, and_false, or_false, false_or, true_or, or_true, Int.reduceEq, reduceCtorEq, or_self, and_self, ne_eq, not_false_eq_true, not_true_eq_false, eq_self, Nat.le_refl, Nat.zero_le, zr_eI, zr_eL, zr_eR, zr_pI, zr_pL, zr_pR, zr_pO, zr_pV, zq_pA0, zq_pA, zr_get, zr_put_n, zr_put, zr_rem_n, zr_rem, zr_cat_i, zr_cat_l, zr_cat_q, zr_w_n, zr_w, zr_args_n, zr_args, zr_tl_s, zr_tl_n, zq_hIsI, zq_hLsL, zq_hRsR, zq_hIsL, zq_hIsR, zq_hLsI, zq_hLsR, zq_hRsI, zq_hRsL, zq_hNsI, zq_hNsL, zq_hNsR, zq_hZsI, zq_hZsL, zq_hZsR, b2_01, Classical.not_not, Int32.toInt_toInt64, Int64.reduceToInt, zc_1000, zc_100, zc_10, zc_9, zc_2, ci_f, C.r0, C.r1, C.r2, C.r3, C.r4, C.r5, C.r6, C.r7, C.r8, C.r9, C.q0, C.q1, C.q2, zl_200, zl_201, zl_202, zl_203, zl_204, zl_205, zl_206, zl_207, lT_200, lT_201, lT_202, lT_203, lT_204, lT_205, lT_206, C.zK, C.zA, C.zR, C.zO, C.zE, C.zS, C.zL, zq_hInw, zq_hLnw, zq_hRnw, zq_hNnw, zq_hZnw, zq_hZsZ, zq_hNsN, zq_hIsZ, zq_hIsN, zq_hLsZ, zq_hLsN, zq_hRsZ, zq_hRsN, zq_hNsZ, zq_hZsN, kF_2, kF_3, kF_4, kF_5, kF_6, kF_7, kF_8, kF_9, kF_10, kF_11, kF_12, kF_13, C.xA, C.xK, C.xL, C.xE, C.xO, C.xR, C.xX, C.xF]
        repeat (with_reducible refine ⟨by omega, ?_⟩)
        refine qci (S' := S) ?_ C z_sM.rf
        unfold o_kind
        (repeat' split) <;> (first | rfl | (exfalso; omega))
theorem fol_none {w : Nat → Int32} {a : Int32} {n : Nat} (h : ∀ i, i < n → ¬ (w i).toInt = a.toInt) : o_fol w a n = -1 ∧ o_nf w a n = 0 := by
  induction n with
  | zero => exact ⟨rfl, rfl⟩
  | succ n ih =>
    have i1 := ih (fun i hi => h i (by omega))
    refine ⟨?_, ?_⟩
    · show (if _ then nI n else o_fol w a n) = -1
      rw [if_neg (h n (by omega))]
      exact i1.1
    · show o_nf w a n + (if _ then 1 else 0) = 0
      rw [if_neg (h n (by omega)), i1.2]
theorem cr_account {tr : z_TR} {S : z_M} {h : z_H} (C : CR tr S h) (inv : INV S) (hk : nA S < 24) : CR tr (uS S 16 (nI (nA S + 1))) (sZ (sR (z_nw (sI (sI (sI (sI (z_nw h 2) 2 (nA S) 2 (-1)) 2 (nA S) 5 (-1)) 2 (nA S) 6 (-1)) 2 (nA S) 0 (nI (nA S))) 207) 2 (nA S) 1 (some (207, nA S))) 201 0 (nA S + 1)) := by
  have eN : ci (nI (nA S + 1)) = nA S + 1 := ci_nI (by omega)
  have tA := nI_toInt (show nA S < 2 ^ 31 by omega)
  have fn := fol_none (w := mA S 55) (a := nI (nA S)) (n := nF S) (fun i hi q => by have := (inv.fol i hi).1; omega)
  have z := inv.acc (nA S) (Nat.le_refl _) (by omega)
  unfold CR
  refine ⟨?_, C.xK, C.xL, C.xE, C.xO, C.xR, C.xX, ?_, C.zK, ?_, C.zR, C.zO, C.zE, C.zS, C.zL, C.ref, C.day, C.wai, C.fee, C.ter, C.hou, C.scn, C.fcn, C.kin, ?_, ?_, C.rec, C.ord, C.lin, C.len, C.row, C.sus⟩
  · show hN (z_nw h 2) 2 = ci (nI (nA S + 1))
    rw [eN, zr_hNnw, if_pos rfl, C.xA]
  · show hN h 207 + 1 = ci (nI (nA S + 1))
    rw [eN, C.xF]
  · rw [zr_hZsZ, if_pos ⟨rfl, rfl⟩]
    exact eN.symm
  · intro k hk'
    have hk2 : k < ci (nI (nA S + 1)) := hk'
    rw [eN] at hk2
    by_cases e : k = nA S
    · simp only [zq_hIsI, zq_hLsL, zq_hRsR, zq_hZsZ, zq_hNsN, zq_hInw, zq_hLnw, zq_hRnw, zq_hNnw, zq_hZnw, zq_hIsL, zq_hIsR, zq_hIsZ, zq_hIsN, zq_hLsI, zq_hLsR, zq_hLsZ, zq_hLsN, zq_hRsI, zq_hRsL, zq_hRsZ, zq_hRsN, zq_hNsI, zq_hNsL, zq_hNsR, zq_hNsZ, zq_hZsI, zq_hZsL, zq_hZsR, zq_hZsN, mA_uA, mB_uB, mS_uS, mT_uT, mA_uB, mA_uS, mA_uT, mB_uA, mB_uS, mB_uT, mS_uA, mS_uB, mS_uT, mT_uA, mT_uB, mT_uS, Nat.reduceEqDiff, true_and, and_true, false_and, and_false, ↓reduceIte, C.xA, C.xF, e, fn.1, z]
      refine ⟨fn.1.symm, fun q => ?_, ?_⟩
      · have q2 : 0 ≤ (o_fol (mA S 55) (nI (nA S)) (nF S)).toInt := q
        rw [fn.1] at q2
        exact absurd q2 (by decide)
      · first | rfl | trivial
    · simp only [zq_hIsI, zq_hLsL, zq_hRsR, zq_hZsZ, zq_hNsN, zq_hInw, zq_hLnw, zq_hRnw, zq_hNnw, zq_hZnw, zq_hIsL, zq_hIsR, zq_hIsZ, zq_hIsN, zq_hLsI, zq_hLsR, zq_hLsZ, zq_hLsN, zq_hRsI, zq_hRsL, zq_hRsZ, zq_hRsN, zq_hNsI, zq_hNsL, zq_hNsR, zq_hNsZ, zq_hZsI, zq_hZsL, zq_hZsR, zq_hZsN, mA_uA, mB_uB, mS_uS, mT_uT, mA_uB, mA_uS, mA_uT, mB_uA, mB_uS, mB_uT, mS_uA, mS_uB, mS_uT, mT_uA, mT_uB, mT_uS, Nat.reduceEqDiff, true_and, and_true, false_and, and_false, ↓reduceIte, C.xA, C.xF, e]
      exact C.acc k (by omega)
  · intro k hk'
    have hk2 : k < ci (nI (nA S + 1)) := hk'
    rw [eN] at hk2
    by_cases e : k = nA S
    · simp only [zq_hIsI, zq_hLsL, zq_hRsR, zq_hZsZ, zq_hNsN, zq_hInw, zq_hLnw, zq_hRnw, zq_hNnw, zq_hZnw, zq_hIsL, zq_hIsR, zq_hIsZ, zq_hIsN, zq_hLsI, zq_hLsR, zq_hLsZ, zq_hLsN, zq_hRsI, zq_hRsL, zq_hRsZ, zq_hRsN, zq_hNsI, zq_hNsL, zq_hNsR, zq_hNsZ, zq_hZsI, zq_hZsL, zq_hZsR, zq_hZsN, mA_uA, mB_uB, mS_uS, mT_uT, mA_uB, mA_uS, mA_uT, mB_uA, mB_uS, mB_uT, mS_uA, mS_uB, mS_uT, mT_uA, mT_uB, mT_uS, Nat.reduceEqDiff, true_and, and_true, false_and, and_false, ↓reduceIte, C.xA, C.xF, e]
      exact ⟨fn.2.symm, fun i hi q => by have := (inv.fol i hi).1; exfalso; omega⟩
    · simp only [zq_hIsI, zq_hLsL, zq_hRsR, zq_hZsZ, zq_hNsN, zq_hInw, zq_hLnw, zq_hRnw, zq_hNnw, zq_hZnw, zq_hIsL, zq_hIsR, zq_hIsZ, zq_hIsN, zq_hLsI, zq_hLsR, zq_hLsZ, zq_hLsN, zq_hRsI, zq_hRsL, zq_hRsZ, zq_hRsN, zq_hNsI, zq_hNsL, zq_hNsR, zq_hNsZ, zq_hZsI, zq_hZsL, zq_hZsR, zq_hZsN, mA_uA, mB_uB, mS_uS, mT_uT, mA_uB, mA_uS, mA_uT, mB_uA, mB_uS, mB_uT, mS_uA, mS_uB, mS_uT, mT_uA, mT_uB, mT_uS, Nat.reduceEqDiff, true_and, and_true, false_and, and_false, ↓reduceIte, C.xA, C.xF, e]
      exact C.fol k (by omega)
theorem c_account (l : Launch) (G : z_G) (d : Nat) (hd : 10 ≤ d) (tr : z_TR) (S : z_M) (h : z_H) (C : CR tr S h) (inv : INV S)  : z_MT l G d yX11_account cX11_account 1 (some .int) [z_r 13 0] h 3 60 (Ci tr h (o_account S)) := by
  have huA : nA S = ci (mS S 16) := rfl
  have htA := inv.cA.t
  have hbA := inv.cA.2
  have hpA : (mS S 16 - 1).toInt = (ci (mS S 16) : Int) - 1 := by
    rw [sub32 (by rw [htA, show (1 : Int32).toInt = 1 from rfl]; omega) (by rw [htA, show (1 : Int32).toInt = 1 from rfl]; omega), htA]
    rfl
  have tn := toIntS (show nA S < 2000000000 by omega)
  have gc := z_gc_le (nA S)
  have gs := z_gs_le (nA S)
  refine z_mt2 13 false ⟨by decide, rfl, fun q => absurd q (by decide)⟩ (by show 1 ≤ 1; decide) (fun A st wk => ?_)
  refine st b_X11_account_0 _ _ k_X11_account_0 _ _ _ _ _ ?_
  simp only [b_X11_account_0, zr_T, zr_aload_n0, zr_bipush, zr_cP_lt, zr_get2, zr_icmp, zr_iret, zr_lsize, zr_rt_a, zr_rt_i, zr_rt_l, zr_rt_n, zr_rt_z, zr_nil, zr_cons, ↓reduceIte, Nat.reduceAdd, Nat.reduceEqDiff, Nat.reduceLeDiff, Nat.reduceMul, Nat.reduceSub, Int32.reduceOfInt, Int64.reduceOfInt, Int64.reduceOfNat, true_and, and_true, false_and, and_false, or_false, false_or, true_or, or_true, Int.reduceEq, reduceCtorEq, or_self, and_self, ne_eq, not_false_eq_true, not_true_eq_false, eq_self, Nat.le_refl, Nat.zero_le, zr_eI, zr_eL, zr_eR, zr_pI, zr_pL, zr_pR, zr_pO, zr_pV, zq_pA0, zq_pA, zr_get, zr_put_n, zr_put, zr_rem_n, zr_rem, zr_cat_i, zr_cat_l, zr_cat_q, zr_w_n, zr_w, zr_args_n, zr_args, zr_tl_s, zr_tl_n, zq_hIsI, zq_hLsL, zq_hRsR, zq_hIsL, zq_hIsR, zq_hLsI, zq_hLsR, zq_hRsI, zq_hRsL, zq_hNsI, zq_hNsL, zq_hNsR, zq_hZsI, zq_hZsL, zq_hZsR, b2_01, Classical.not_not, Int32.toInt_toInt64, Int64.reduceToInt, zc_1000, zc_100, zc_10, zc_9, zc_2, ci_f, C.r0, C.r1, C.r2, C.r3, C.r4, C.r5, C.r6, C.r7, C.r8, C.r9, C.q0, C.q1, C.q2, zl_200, zl_201, zl_202, zl_203, zl_204, zl_205, zl_206, zl_207, lT_200, lT_201, lT_202, lT_203, lT_204, lT_205, lT_206, C.zK, C.zA, C.zR, C.zO, C.zE, C.zS, C.zL, zq_hInw, zq_hLnw, zq_hRnw, zq_hNnw, zq_hZnw, zq_hZsZ, zq_hNsN, zq_hIsZ, zq_hIsN, zq_hLsZ, zq_hLsN, zq_hRsZ, zq_hRsN, zq_hNsZ, zq_hZsN, kF_2, kF_3, kF_4, kF_5, kF_6, kF_7, kF_8, kF_9, kF_10, kF_11, kF_12, kF_13, C.xA, C.xK, C.xL, C.xE, C.xO, C.xR, C.xX, C.xF]
  repeat (with_reducible refine ⟨by omega, ?_⟩)
  refine ⟨fun qc1 => ?_, fun qc1 => ?_⟩
  · try simp only [b2_0, Classical.not_not] at qc1
    try simp only [Int64.le_iff_toInt_le, Int64.lt_iff_toInt_lt, Int32.lt_iff_toInt_lt, Int32.le_iff_toInt_le, Int32.toInt_toInt64, Int64.reduceToInt, Int32.reduceToInt, Int.reduceNeg, Classical.not_not, i32e, l_add, tn] at qc1
    refine st b_X11_account_15 _ _ k_X11_account_15 _ _ _ _ _ ?_
    simp only [b_X11_account_15, zr_T, zr_aload_n0, zr_call2, zr_dup, zr_get2, zr_iconst, zr_iret, zr_isub, zr_lapp, zr_lsize, zr_new, zr_pop, zr_rt_a, zr_rt_i, zr_rt_l, zr_rt_n, zr_rt_z, zr_nil, zr_cons, ↓reduceIte, Nat.reduceAdd, Nat.reduceEqDiff, Nat.reduceLeDiff, Nat.reduceMul, Nat.reduceSub, Int32.reduceOfInt, Int64.reduceOfInt, Int64.reduceOfNat, true_and, and_true, false_and, and_false, or_false, false_or, true_or, or_true, Int.reduceEq, reduceCtorEq, or_self, and_self, ne_eq, not_false_eq_true, not_true_eq_false, eq_self, Nat.le_refl, Nat.zero_le, zr_eI, zr_eL, zr_eR, zr_pI, zr_pL, zr_pR, zr_pO, zr_pV, zq_pA0, zq_pA, zr_get, zr_put_n, zr_put, zr_rem_n, zr_rem, zr_cat_i, zr_cat_l, zr_cat_q, zr_w_n, zr_w, zr_args_n, zr_args, zr_tl_s, zr_tl_n, zq_hIsI, zq_hLsL, zq_hRsR, zq_hIsL, zq_hIsR, zq_hLsI, zq_hLsR, zq_hRsI, zq_hRsL, zq_hNsI, zq_hNsL, zq_hNsR, zq_hZsI, zq_hZsL, zq_hZsR, b2_01, Classical.not_not, Int32.toInt_toInt64, Int64.reduceToInt, zc_1000, zc_100, zc_10, zc_9, zc_2, ci_f, C.r0, C.r1, C.r2, C.r3, C.r4, C.r5, C.r6, C.r7, C.r8, C.r9, C.q0, C.q1, C.q2, zl_200, zl_201, zl_202, zl_203, zl_204, zl_205, zl_206, zl_207, lT_200, lT_201, lT_202, lT_203, lT_204, lT_205, lT_206, C.zK, C.zA, C.zR, C.zO, C.zE, C.zS, C.zL, zq_hInw, zq_hLnw, zq_hRnw, zq_hNnw, zq_hZnw, zq_hZsZ, zq_hNsN, zq_hIsZ, zq_hIsN, zq_hLsZ, zq_hLsN, zq_hRsZ, zq_hRsN, zq_hNsZ, zq_hZsN, kF_2, kF_3, kF_4, kF_5, kF_6, kF_7, kF_8, kF_9, kF_10, kF_11, kF_12, kF_13, C.xA, C.xK, C.xL, C.xE, C.xO, C.xR, C.xX, C.xF]
    repeat (with_reducible refine ⟨by omega, ?_⟩)
    repeat (with_reducible refine ⟨by omega, ?_⟩)
    refine cph (by omega) lk_X11_116 rc_s (c_iAccount l G _ (by omega) _ _ _) (by omega) (by omega) ?_
    simp only [zr_T, zr_aload_n0, zr_get2, zr_iconst, zr_iret, zr_isub, zr_lapp, zr_lsize, zr_pop, zr_rt_a, zr_rt_i, zr_rt_l, zr_rt_n, zr_rt_z, zr_nil, zr_cons, ↓reduceIte, Nat.reduceAdd, Nat.reduceEqDiff, Nat.reduceLeDiff, Nat.reduceMul, Nat.reduceSub, Int32.reduceOfInt, Int64.reduceOfInt, Int64.reduceOfNat, true_and, and_true, false_and, and_false, or_false, false_or, true_or, or_true, Int.reduceEq, reduceCtorEq, or_self, and_self, ne_eq, not_false_eq_true, not_true_eq_false, eq_self, Nat.le_refl, Nat.zero_le, zr_eI, zr_eL, zr_eR, zr_pI, zr_pL, zr_pR, zr_pO, zr_pV, zq_pA0, zq_pA, zr_get, zr_put_n, zr_put, zr_rem_n, zr_rem, zr_cat_i, zr_cat_l, zr_cat_q, zr_w_n, zr_w, zr_args_n, zr_args, zr_tl_s, zr_tl_n, zq_hIsI, zq_hLsL, zq_hRsR, zq_hIsL, zq_hIsR, zq_hLsI, zq_hLsR, zq_hRsI, zq_hRsL, zq_hNsI, zq_hNsL, zq_hNsR, zq_hZsI, zq_hZsL, zq_hZsR, b2_01, Classical.not_not, Int32.toInt_toInt64, Int64.reduceToInt, zc_1000, zc_100, zc_10, zc_9, zc_2, ci_f, C.r0, C.r1, C.r2, C.r3, C.r4, C.r5, C.r6, C.r7, C.r8, C.r9, C.q0, C.q1, C.q2, zl_200, zl_201, zl_202, zl_203, zl_204, zl_205, zl_206, zl_207, lT_200, lT_201, lT_202, lT_203, lT_204, lT_205, lT_206, C.zK, C.zA, C.zR, C.zO, C.zE, C.zS, C.zL, zq_hInw, zq_hLnw, zq_hRnw, zq_hNnw, zq_hZnw, zq_hZsZ, zq_hNsN, zq_hIsZ, zq_hIsN, zq_hLsZ, zq_hLsN, zq_hRsZ, zq_hRsN, zq_hNsZ, zq_hZsN, kF_2, kF_3, kF_4, kF_5, kF_6, kF_7, kF_8, kF_9, kF_10, kF_11, kF_12, kF_13, C.xA, C.xK, C.xL, C.xE, C.xO, C.xR, C.xX, C.xF]
    repeat (with_reducible refine ⟨by omega, ?_⟩)
    repeat (with_reducible refine ⟨by omega, ?_⟩)
    rw [nI_pred]
    repeat (with_reducible refine ⟨by omega, ?_⟩)
    refine qci (S' := uS S 16 (nI (nA S + 1))) ?_ (cr_account C inv (by omega)) (by repeat (first | with_reducible exact z_sM.rf | with_reducible assumption | with_reducible refine z_sM.I ?_ (by decide) | with_reducible refine z_sM.L ?_ (by decide) | with_reducible refine z_sM.R ?_ (by decide) | with_reducible refine z_sM.Z ?_ | with_reducible refine z_sM.N ?_ | with_reducible refine z_sM.W ?_ (by decide) | with_reducible refine z_sM.C ?_))
    unfold o_account
    (repeat' split) <;> (first | rfl | (exfalso; omega))
  · try simp only [b2_0, Classical.not_not] at qc1
    try simp only [Int64.le_iff_toInt_le, Int64.lt_iff_toInt_lt, Int32.lt_iff_toInt_lt, Int32.le_iff_toInt_le, Int32.toInt_toInt64, Int64.reduceToInt, Int32.reduceToInt, Int.reduceNeg, Classical.not_not, i32e, l_add, tn] at qc1
    repeat (with_reducible refine ⟨by omega, ?_⟩)
    refine qci (S' := S) ?_ C z_sM.rf
    unfold o_account
    (repeat' split) <;> (first | rfl | (exfalso; omega))
def z_fill (h : z_H) (m : Nat) (known t : Int32) (i : Nat) : z_H := (h.1, fun K' i' k' => if K' = 103 ∧ i' = m ∧ k' < i then o_snc known t k' else h.2.1 K' i' k', h.2.2)
theorem z_fill_s {h : z_H} {m : Nat} {known t : Int32} {i : Nat} {v : Int32} (hv : v = o_snc known t i) : sI (z_fill h m known t i) 103 m i v = z_fill h m known t (i + 1) := by
  refine Prod.ext rfl (Prod.ext ?_ rfl)
  funext K' i' k'
  show (if K' = 103 ∧ i' = m ∧ k' = i then v else (if K' = 103 ∧ i' = m ∧ k' < i then o_snc known t k' else h.2.1 K' i' k')) = (if K' = 103 ∧ i' = m ∧ k' < i + 1 then o_snc known t k' else h.2.1 K' i' k')
  by_cases e : K' = 103 ∧ i' = m ∧ k' = i
  · rw [if_pos e, if_pos (by omega), e.2.2, hv]
  · rw [if_neg e]
    by_cases e2 : K' = 103 ∧ i' = m ∧ k' < i
    · rw [if_pos e2, if_pos (by omega)]
    · rw [if_neg e2, if_neg (by omega)]
theorem z_fill_0 {h : z_H} {m : Nat} {known t : Int32} : z_fill h m known t 0 = h := by
  refine Prod.ext rfl (Prod.ext ?_ rfl)
  funext K' i' k'
  show (if K' = 103 ∧ i' = m ∧ k' < 0 then o_snc known t k' else h.2.1 K' i' k') = h.2.1 K' i' k'
  rw [if_neg (by omega)]
theorem zf_Z {h : z_H} {m i : Nat} {known t : Int32} : hZ (z_fill h m known t i) = hZ h := rfl
theorem zf_R {h : z_H} {m i : Nat} {known t : Int32} : hR (z_fill h m known t i) = hR h := rfl
theorem zf_L {h : z_H} {m i : Nat} {known t : Int32} : hL (z_fill h m known t i) = hL h := rfl
theorem z_sM.fill {h h1 : z_H} (a : z_sM h h1) {m i : Nat} {known t : Int32} : z_sM h (z_fill h1 m known t i) := a.tr fun K' q => ⟨by
  funext k'
  show (if K' = 103 ∧ _ then _ else _) = _
  rw [if_neg (by omega)]
  rfl, rfl, rfl⟩
theorem c_iLoan (l : Launch) (G : z_G) (d : Nat) (hd : 1 ≤ d) (h : z_H) (n : Nat) (b : Int64) (k t : Int32) : z_MT l G d yX5_init cX5_init 6 none [z_r 7 n, z_l b, z_i k, z_i t] h 1 32 (fun r h' => r = none ∧ h' = z_fill (sR (z_nw (sL h 7 n 0 b) 103) 7 n 1 (some (103, hN h 103))) (hN h 103) k t 32) := by
  have nl32 : nI 32 = 32 := rfl
  refine z_mt2 7 true ⟨by decide, rfl, fun _ => rfl⟩ (by show 5 ≤ 6; decide) (fun A st wk => ?_)
  refine st b_X5_init_0 _ _ k_X5_init_0 _ _ _ _ _ ?_
  simp only [b_X5_init_0, zr_aload_n0, zr_bipush, zr_iconst, zr_istore, zr_lload_n1, zr_newa, zr_obj, zr_put1, zr_put2, zr_nil, zr_cons, ↓reduceIte, Nat.reduceAdd, Nat.reduceEqDiff, Nat.reduceLeDiff, Nat.reduceMul, Nat.reduceSub, Int32.reduceOfInt, Int64.reduceOfInt, Int64.reduceOfNat, true_and, and_true, false_and, and_false, or_false, false_or, true_or, or_true, Int.reduceEq, reduceCtorEq, or_self, and_self, ne_eq, not_false_eq_true, not_true_eq_false, eq_self, Nat.le_refl, Nat.zero_le, zr_eI, zr_eL, zr_eR, zr_pI, zr_pL, zr_pR, zr_pO, zr_pV, zq_pA0, zq_pA, zr_get, zr_put_n, zr_put, zr_rem_n, zr_rem, zr_cat_i, zr_cat_l, zr_cat_q, zr_w_n, zr_w, zr_args_n, zr_args, zr_tl_s, zr_tl_n, zq_hIsI, zq_hLsL, zq_hRsR, zq_hIsL, zq_hIsR, zq_hLsI, zq_hLsR, zq_hRsI, zq_hRsL, zq_hNsI, zq_hNsL, zq_hNsR, zq_hZsI, zq_hZsL, zq_hZsR, b2_01, Classical.not_not, Int32.toInt_toInt64, Int64.reduceToInt, zc_1000, zc_100, zc_10, zc_9, zc_2, ci_f, zq_hInw, zq_hLnw, zq_hRnw, zq_hNnw, zq_hZnw, zq_hZsZ, zq_hNsN, zq_hIsZ, zq_hIsN, zq_hLsZ, zq_hLsN, zq_hRsZ, zq_hRsN, zq_hNsZ, zq_hZsN, kF_2, kF_3, kF_4, kF_5, kF_6, kF_7, kF_8, kF_9, kF_10, kF_11, kF_12, kF_13, nl32, aLen_103]
  repeat (with_reducible refine ⟨by omega, ?_⟩)
  repeat (with_reducible refine ⟨by omega, ?_⟩)
  refine (show ∀ i, i ≤ 32 → A 20 [(0, z_r 7 n), (1, z_l b), (3, z_i k), (4, z_i t), (5, z_i (nI i))] [] (z_fill (sR (z_nw (sL h 7 n 0 b) 103) 7 n 1 (some (103, hN h 103))) (hN h 103) k t i) 1 32 from z_loop (fun i hi ih => ?_)) 0 (Nat.zero_le _) |> (fun q => by rw [z_fill_0] at q; exact q)
  have ti := toIntS (show i < 2000000000 by omega)
  have ki := nI_clampS (show i < 2000000000 by omega)
  have e1 : hR (z_fill (sR (z_nw (sL h 7 n 0 b) 103) 7 n 1 (some (103, hN h 103))) (hN h 103) k t i) 7 n 1 = some (103, hN h 103) := by
    show (if 7 = 7 ∧ n = n ∧ 1 = 1 then _ else _) = _
    rw [if_pos ⟨rfl, rfl, rfl⟩]
  refine st b_X5_init_20 _ _ k_X5_init_20 _ _ _ _ _ ?_
  simp only [b_X5_init_20, zr_aload_n0, zr_bipush, zr_cP_ge, zr_cP_ne, zr_get2, zr_goto, zr_iand, zr_icmp, zr_iconst, zr_iload, zr_iload_n3, zr_iushr, zr_nil, zr_cons, ↓reduceIte, Nat.reduceAdd, Nat.reduceEqDiff, Nat.reduceLeDiff, Nat.reduceMul, Nat.reduceSub, Int32.reduceOfInt, Int64.reduceOfInt, Int64.reduceOfNat, true_and, and_true, false_and, and_false, or_false, false_or, true_or, or_true, Int.reduceEq, reduceCtorEq, or_self, and_self, ne_eq, not_false_eq_true, not_true_eq_false, eq_self, Nat.le_refl, Nat.zero_le, zr_eI, zr_eL, zr_eR, zr_pI, zr_pL, zr_pR, zr_pO, zr_pV, zq_pA0, zq_pA, zr_get, zr_put_n, zr_put, zr_rem_n, zr_rem, zr_cat_i, zr_cat_l, zr_cat_q, zr_w_n, zr_w, zr_args_n, zr_args, zr_tl_s, zr_tl_n, zq_hIsI, zq_hLsL, zq_hRsR, zq_hIsL, zq_hIsR, zq_hLsI, zq_hLsR, zq_hRsI, zq_hRsL, zq_hNsI, zq_hNsL, zq_hNsR, zq_hZsI, zq_hZsL, zq_hZsR, b2_01, Classical.not_not, Int32.toInt_toInt64, Int64.reduceToInt, zc_1000, zc_100, zc_10, zc_9, zc_2, ci_f, e1, aLen_103, aCod_103, ki]
  refine ⟨fun qc1 => ?_, fun qc1 => ?_⟩
  · try simp only [b2_0, Classical.not_not] at qc1
    try simp only [Int64.le_iff_toInt_le, Int64.lt_iff_toInt_lt, Int32.lt_iff_toInt_lt, Int32.le_iff_toInt_le, Int32.toInt_toInt64, Int64.reduceToInt, Int32.reduceToInt, Int.reduceNeg, Classical.not_not, i32e, l_add] at qc1
    refine st b_X5_init_56 _ _ k_X5_init_56 _ _ _ _ _ ?_
    simp only [b_X5_init_56, zr_T, zr_ret, zr_rt_a, zr_rt_i, zr_rt_l, zr_rt_n, zr_rt_z, zr_nil, zr_cons, ↓reduceIte, Nat.reduceAdd, Nat.reduceEqDiff, Nat.reduceLeDiff, Nat.reduceMul, Nat.reduceSub, Int32.reduceOfInt, Int64.reduceOfInt, Int64.reduceOfNat, true_and, and_true, false_and, and_false, or_false, false_or, true_or, or_true, Int.reduceEq, reduceCtorEq, or_self, and_self, ne_eq, not_false_eq_true, not_true_eq_false, eq_self, Nat.le_refl, Nat.zero_le, zr_eI, zr_eL, zr_eR, zr_pI, zr_pL, zr_pR, zr_pO, zr_pV, zq_pA0, zq_pA, zr_get, zr_put_n, zr_put, zr_rem_n, zr_rem, zr_cat_i, zr_cat_l, zr_cat_q, zr_w_n, zr_w, zr_args_n, zr_args, zr_tl_s, zr_tl_n, zq_hIsI, zq_hLsL, zq_hRsR, zq_hIsL, zq_hIsR, zq_hLsI, zq_hLsR, zq_hRsI, zq_hRsL, zq_hNsI, zq_hNsL, zq_hNsR, zq_hZsI, zq_hZsL, zq_hZsR, b2_01, Classical.not_not, Int32.toInt_toInt64, Int64.reduceToInt, zc_1000, zc_100, zc_10, zc_9, zc_2, ci_f, e1, aLen_103, aCod_103, ki]
    have ei : i = 32 := by omega
    subst ei
    rfl
  · try simp only [b2_0, Classical.not_not] at qc1
    try simp only [Int64.le_iff_toInt_le, Int64.lt_iff_toInt_lt, Int32.lt_iff_toInt_lt, Int32.le_iff_toInt_le, Int32.toInt_toInt64, Int64.reduceToInt, Int32.reduceToInt, Int.reduceNeg, Classical.not_not, i32e, l_add] at qc1
    refine ⟨fun qc2 => ?_, fun qc2 => ?_⟩
    · try simp only [b2_0, Classical.not_not] at qc2
      try simp only [Int64.le_iff_toInt_le, Int64.lt_iff_toInt_lt, Int32.lt_iff_toInt_lt, Int32.le_iff_toInt_le, Int32.toInt_toInt64, Int64.reduceToInt, Int32.reduceToInt, Int.reduceNeg, Classical.not_not, i32e, l_add] at qc2
      refine st b_X5_init_48 _ _ k_X5_init_48 _ _ _ _ _ ?_
      simp only [b_X5_init_48, zr_iconst, zr_nil, zr_cons, ↓reduceIte, Nat.reduceAdd, Nat.reduceEqDiff, Nat.reduceLeDiff, Nat.reduceMul, Nat.reduceSub, Int32.reduceOfInt, Int64.reduceOfInt, Int64.reduceOfNat, true_and, and_true, false_and, and_false, or_false, false_or, true_or, or_true, Int.reduceEq, reduceCtorEq, or_self, and_self, ne_eq, not_false_eq_true, not_true_eq_false, eq_self, Nat.le_refl, Nat.zero_le, zr_eI, zr_eL, zr_eR, zr_pI, zr_pL, zr_pR, zr_pO, zr_pV, zq_pA0, zq_pA, zr_get, zr_put_n, zr_put, zr_rem_n, zr_rem, zr_cat_i, zr_cat_l, zr_cat_q, zr_w_n, zr_w, zr_args_n, zr_args, zr_tl_s, zr_tl_n, zq_hIsI, zq_hLsL, zq_hRsR, zq_hIsL, zq_hIsR, zq_hLsI, zq_hLsR, zq_hRsI, zq_hRsL, zq_hNsI, zq_hNsL, zq_hNsR, zq_hZsI, zq_hZsL, zq_hZsR, b2_01, Classical.not_not, Int32.toInt_toInt64, Int64.reduceToInt, zc_1000, zc_100, zc_10, zc_9, zc_2, ci_f, e1, aLen_103, aCod_103, ki]
      refine st b_X5_init_49 _ _ k_X5_init_49 _ _ _ _ _ ?_
      simp only [b_X5_init_49, zr_goto, zr_iast, zr_iinc, zr_nil, zr_cons, ↓reduceIte, Nat.reduceAdd, Nat.reduceEqDiff, Nat.reduceLeDiff, Nat.reduceMul, Nat.reduceSub, Int32.reduceOfInt, Int64.reduceOfInt, Int64.reduceOfNat, true_and, and_true, false_and, and_false, or_false, false_or, true_or, or_true, Int.reduceEq, reduceCtorEq, or_self, and_self, ne_eq, not_false_eq_true, not_true_eq_false, eq_self, Nat.le_refl, Nat.zero_le, zr_eI, zr_eL, zr_eR, zr_pI, zr_pL, zr_pR, zr_pO, zr_pV, zq_pA0, zq_pA, zr_get, zr_put_n, zr_put, zr_rem_n, zr_rem, zr_cat_i, zr_cat_l, zr_cat_q, zr_w_n, zr_w, zr_args_n, zr_args, zr_tl_s, zr_tl_n, zq_hIsI, zq_hLsL, zq_hRsR, zq_hIsL, zq_hIsR, zq_hLsI, zq_hLsR, zq_hRsI, zq_hRsL, zq_hNsI, zq_hNsL, zq_hNsR, zq_hZsI, zq_hZsL, zq_hZsR, b2_01, Classical.not_not, Int32.toInt_toInt64, Int64.reduceToInt, zc_1000, zc_100, zc_10, zc_9, zc_2, ci_f, e1, aLen_103, aCod_103, ki]
      refine ⟨by first | exact vpi (by omega) | with_reducible exact vp_in_nI (by omega) (by omega), ?_⟩
      rw [nI_1, z_fill_s (by unfold o_snc; first | (rw [if_pos (by simp only [i32e, Int32.reduceToInt]; assumption)]) | (rw [if_neg (by simp only [i32e, Int32.reduceToInt]; assumption)]))]
      exact ih (by omega)
    · try simp only [b2_0, Classical.not_not] at qc2
      try simp only [Int64.le_iff_toInt_le, Int64.lt_iff_toInt_lt, Int32.lt_iff_toInt_lt, Int32.le_iff_toInt_le, Int32.toInt_toInt64, Int64.reduceToInt, Int32.reduceToInt, Int.reduceNeg, Classical.not_not, i32e, l_add] at qc2
      refine st b_X5_init_49 _ _ k_X5_init_49 _ _ _ _ _ ?_
      simp only [b_X5_init_49, zr_goto, zr_iast, zr_iinc, zr_nil, zr_cons, ↓reduceIte, Nat.reduceAdd, Nat.reduceEqDiff, Nat.reduceLeDiff, Nat.reduceMul, Nat.reduceSub, Int32.reduceOfInt, Int64.reduceOfInt, Int64.reduceOfNat, true_and, and_true, false_and, and_false, or_false, false_or, true_or, or_true, Int.reduceEq, reduceCtorEq, or_self, and_self, ne_eq, not_false_eq_true, not_true_eq_false, eq_self, Nat.le_refl, Nat.zero_le, zr_eI, zr_eL, zr_eR, zr_pI, zr_pL, zr_pR, zr_pO, zr_pV, zq_pA0, zq_pA, zr_get, zr_put_n, zr_put, zr_rem_n, zr_rem, zr_cat_i, zr_cat_l, zr_cat_q, zr_w_n, zr_w, zr_args_n, zr_args, zr_tl_s, zr_tl_n, zq_hIsI, zq_hLsL, zq_hRsR, zq_hIsL, zq_hIsR, zq_hLsI, zq_hLsR, zq_hRsI, zq_hRsL, zq_hNsI, zq_hNsL, zq_hNsR, zq_hZsI, zq_hZsL, zq_hZsR, b2_01, Classical.not_not, Int32.toInt_toInt64, Int64.reduceToInt, zc_1000, zc_100, zc_10, zc_9, zc_2, ci_f, e1, aLen_103, aCod_103, ki]
      refine ⟨by first | exact vpi (by omega) | with_reducible exact vp_in_nI (by omega) (by omega), ?_⟩
      rw [nI_1, z_fill_s (by unfold o_snc; first | (rw [if_pos (by simp only [i32e, Int32.reduceToInt]; assumption)]) | (rw [if_neg (by simp only [i32e, Int32.reduceToInt]; assumption)]))]
      exact ih (by omega)
theorem c_bookOf0 (l : Launch) (G : z_G) (d : Nat) (h : z_H) (k : Nat) (v : Int64) (rate : Int32) : z_MT l G d yX2_bookOf cX2_bookOf 6 (some .long) [z_r 4 k, z_l v, z_i rate] h 0 0 (fun q h' => q = some (z_l (o_b (hI h 4 k 3) rate v)) ∧ h' = h) := by
  refine z_mt2 4 false ⟨by decide, rfl, fun q => absurd q (by decide)⟩ (by show 4 ≤ 6; decide) (fun A st wk => ?_)
  refine st b_X2_bookOf_0 _ _ k_X2_bookOf_0 _ _ _ _ _ ?_
  simp only [b_X2_bookOf_0, zr_T, zr_aload_n0, zr_get0, zr_i2l, zr_iload_n3, zr_ldc2, zr_ldiv, zr_lload, zr_lload_n1, zr_lmul, zr_lret, zr_lstore, zr_rt_a, zr_rt_i, zr_rt_l, zr_rt_n, zr_rt_z, zr_nil, zr_cons, ↓reduceIte, Nat.reduceAdd, Nat.reduceEqDiff, Nat.reduceLeDiff, Nat.reduceMul, Nat.reduceSub, Int32.reduceOfInt, Int64.reduceOfInt, Int64.reduceOfNat, true_and, and_true, false_and, and_false, or_false, false_or, true_or, or_true, Int.reduceEq, reduceCtorEq, or_self, and_self, ne_eq, not_false_eq_true, not_true_eq_false, eq_self, Nat.le_refl, Nat.zero_le, zr_eI, zr_eL, zr_eR, zr_pI, zr_pL, zr_pR, zr_pO, zr_pV, zq_pA0, zq_pA, zr_get, zr_put_n, zr_put, zr_rem_n, zr_rem, zr_cat_i, zr_cat_l, zr_cat_q, zr_w_n, zr_w, zr_args_n, zr_args, zr_tl_s, zr_tl_n, zq_hIsI, zq_hLsL, zq_hRsR, zq_hIsL, zq_hIsR, zq_hLsI, zq_hLsR, zq_hRsI, zq_hRsL, zq_hNsI, zq_hNsL, zq_hNsR, zq_hZsI, zq_hZsL, zq_hZsR, b2_01, Classical.not_not, Int32.toInt_toInt64, Int64.reduceToInt, zc_1000, zc_100, zc_10, zc_9, zc_2, ci_f]
  rfl
theorem sub32_64 {x y : Int32} (h1 : -2147483648 ≤ x.toInt - y.toInt) (h2 : x.toInt - y.toInt ≤ 2147483647) : (x - y).toInt64 = x.toInt64 - y.toInt64 := by
  rw [← Int64.toInt_inj, Int32.toInt_toInt64, sub32 h1 h2, sub64 (by rw [Int32.toInt_toInt64, Int32.toInt_toInt64]; omega) (by rw [Int32.toInt_toInt64, Int32.toInt_toInt64]; omega), Int32.toInt_toInt64, Int32.toInt_toInt64]
theorem cr_loan {tr : z_TR} {S : z_M} {h : z_H} (C : CR tr S h) (inv : INV S) {k n known : Int32} (hk : isx k (nK S)) (h1 : 1 ≤ n.toInt) (h2 : n.toInt ≤ (mB S 25 (ci k)).toInt) (he : nE S < 20) : CR tr (o_lend S k n known) (sZ (z_fill (sR (z_nw (sL (z_nw (sL (sI h 4 (ci k) 4 (hI h 4 (ci k) 4 - n)) 4 (ci k) 5 (mB S 26 (ci k) - o_lw S k n)) 7) 7 (nE S) 0 (o_bk S (ci k) (o_lw S k n))) 103) 7 (nE S) 1 (some (103, nE S))) (nE S) known (dy S) 32) 204 0 (nE S + 1)) := by
  have eN : ci (nI (nE S + 1)) = nE S + 1 := ci_nI (by omega)
  have kk := ci_lt hk
  have jk := C.kin (ci k) kk
  have ik := (inv.kin.1 (ci k) kk).2.2.2.2
  have rb : nR S ≤ 200 := inv.cR.2
  have e4 : (hI h 4 (ci k) 4).toInt = (mB S 25 (ci k)).toInt := by
    have := congrArg Int64.toInt jk.2.2.2.2.1
    rw [Int32.toInt_toInt64] at this
    exact this
  have e5 : (hI h 4 (ci k) 4 - n).toInt64 = mB S 25 (ci k) - n.toInt64 := by
    rw [sub32_64 (by omega) (by omega), jk.2.2.2.2.1]
  unfold CR
  refine ⟨C.xA, C.xK, C.xL, ?_, C.xO, C.xR, ?_, C.xF, C.zK, C.zA, C.zR, C.zO, ?_, C.zS, C.zL, C.ref, C.day, C.wai, C.fee, C.ter, C.hou, C.scn, C.fcn, ?_, C.acc, C.fol, C.rec, C.ord, C.lin, ?_, C.row, C.sus⟩
  · show hN h 7 + 1 = ci (nI (nE S + 1))
    rw [eN, C.xE]
  · show hN h 103 + 1 = ci (nI (nE S + 1))
    rw [eN, C.xX]
  · rw [zr_hZsZ, if_pos ⟨rfl, rfl⟩]
    exact eN.symm
  · show C_kin (nK S) (hI (sI h 4 (ci k) 4 (hI h 4 (ci k) 4 - n)) 4) (hL (sL h 4 (ci k) 5 (mB S 26 (ci k) - o_lw S k n)) 4) (mA S 22) (mA S 23) (mA S 24) (mB (uB S 25 (ci k) (mB S 25 (ci k) - n.toInt64)) 25) (mB (uB S 26 (ci k) (mB S 26 (ci k) - o_lw S k n)) 26)
    intro b hb
    have j := C.kin b hb
    by_cases e : b = ci k
    · simp only [zq_hIsI, zq_hLsL, zq_hRsR, zq_hZsZ, zq_hNsN, zq_hInw, zq_hLnw, zq_hRnw, zq_hNnw, zq_hZnw, zq_hIsL, zq_hIsR, zq_hIsZ, zq_hIsN, zq_hLsI, zq_hLsR, zq_hLsZ, zq_hLsN, zq_hRsI, zq_hRsL, zq_hRsZ, zq_hRsN, zq_hNsI, zq_hNsL, zq_hNsR, zq_hNsZ, zq_hZsI, zq_hZsL, zq_hZsR, zq_hZsN, mA_uA, mB_uB, mS_uS, mT_uT, mA_uB, mA_uS, mA_uT, mB_uA, mB_uS, mB_uT, mS_uA, mS_uB, mS_uT, mT_uA, mT_uB, mT_uS, Nat.reduceEqDiff, true_and, and_true, false_and, and_false, ↓reduceIte, e]
      rw [e] at j
      exact ⟨j.1, j.2.1, j.2.2.1, j.2.2.2.1, e5⟩
    · simp only [zq_hIsI, zq_hLsL, zq_hRsR, zq_hZsZ, zq_hNsN, zq_hInw, zq_hLnw, zq_hRnw, zq_hNnw, zq_hZnw, zq_hIsL, zq_hIsR, zq_hIsZ, zq_hIsN, zq_hLsI, zq_hLsR, zq_hLsZ, zq_hLsN, zq_hRsI, zq_hRsL, zq_hRsZ, zq_hRsN, zq_hNsI, zq_hNsL, zq_hNsR, zq_hNsZ, zq_hZsI, zq_hZsL, zq_hZsR, zq_hZsN, mA_uA, mB_uB, mS_uS, mT_uT, mA_uB, mA_uS, mA_uT, mB_uA, mB_uS, mB_uT, mS_uA, mS_uB, mS_uT, mT_uA, mT_uB, mT_uS, Nat.reduceEqDiff, true_and, and_true, false_and, and_false, ↓reduceIte, e]
      exact j
  · intro b hb
    have hb2 : b < ci (nI (nE S + 1)) := hb
    rw [eN] at hb2
    have a1 : ∀ p, p < 32 → mA (o_lend S k n known) 58 (32 * b + p) = if b = nE S then o_snc known (dy S) p else mA S 58 (32 * b + p) := fun p hp => by
      show (if 58 = 58 ∧ 32 * nE S ≤ 32 * b + p ∧ 32 * b + p < 32 * nE S + 32 then o_snc known (dy S) (32 * b + p - 32 * nE S) else mA S 58 (32 * b + p)) = _
      by_cases e : b = nE S
      · rw [if_pos (by omega), if_pos e, show 32 * b + p - 32 * nE S = p from by omega]
      · rw [if_neg (by omega), if_neg e]
    have a2 : mB (o_lend S k n known) 59 b = if b = nE S then o_bk S (ci k) (o_lw S k n) else mB S 59 b := by
      show (if 59 = 59 ∧ b = nE S then _ else _) = _
      by_cases e : b = nE S
      · rw [if_pos ⟨rfl, e⟩, if_pos e]
      · rw [if_neg (fun q => e q.2), if_neg e]
        rfl
    by_cases e : b = nE S
    · refine ⟨?_, ?_, fun p hp => ?_⟩
      · rw [a2, if_pos e]
        show (if 7 = 7 ∧ b = nE S ∧ 0 = 0 then _ else _) = _
        rw [if_pos ⟨rfl, e, rfl⟩]
      · show (if 7 = 7 ∧ b = nE S ∧ 1 = 1 then _ else _) = _
        rw [if_pos ⟨rfl, e, rfl⟩, e]
      · rw [a1 p hp, if_pos e]
        show (if 103 = 103 ∧ b = nE S ∧ p < 32 then _ else _) = _
        rw [if_pos ⟨rfl, e, hp⟩]
    · have j := C.len b (by omega)
      refine ⟨?_, ?_, fun p hp => ?_⟩
      · rw [a2, if_neg e, ← j.1]
        show hL (sL (z_nw (sL (sI h 4 (ci k) 4 (hI h 4 (ci k) 4 - n)) 4 (ci k) 5 (mB S 26 (ci k) - o_lw S k n)) 7) 7 (nE S) 0 (o_bk S (ci k) (o_lw S k n))) 7 b 0 = _
        simp only [zq_hIsI, zq_hLsL, zq_hRsR, zq_hZsZ, zq_hNsN, zq_hInw, zq_hLnw, zq_hRnw, zq_hNnw, zq_hZnw, zq_hIsL, zq_hIsR, zq_hIsZ, zq_hIsN, zq_hLsI, zq_hLsR, zq_hLsZ, zq_hLsN, zq_hRsI, zq_hRsL, zq_hRsZ, zq_hRsN, zq_hNsI, zq_hNsL, zq_hNsR, zq_hNsZ, zq_hZsI, zq_hZsL, zq_hZsR, zq_hZsN, mA_uA, mB_uB, mS_uS, mT_uT, mA_uB, mA_uS, mA_uT, mB_uA, mB_uS, mB_uT, mS_uA, mS_uB, mS_uT, mT_uA, mT_uB, mT_uS, Nat.reduceEqDiff, true_and, and_true, false_and, and_false, ↓reduceIte, e, C.xE]
      · rw [← j.2.1]
        show hR (sR (z_nw h 7) 7 (nE S) 1 (some (103, nE S))) 7 b 1 = _
        simp only [zq_hIsI, zq_hLsL, zq_hRsR, zq_hZsZ, zq_hNsN, zq_hInw, zq_hLnw, zq_hRnw, zq_hNnw, zq_hZnw, zq_hIsL, zq_hIsR, zq_hIsZ, zq_hIsN, zq_hLsI, zq_hLsR, zq_hLsZ, zq_hLsN, zq_hRsI, zq_hRsL, zq_hRsZ, zq_hRsN, zq_hNsI, zq_hNsL, zq_hNsR, zq_hNsZ, zq_hZsI, zq_hZsL, zq_hZsR, zq_hZsN, mA_uA, mB_uB, mS_uS, mT_uT, mA_uB, mA_uS, mA_uT, mB_uA, mB_uS, mB_uT, mS_uA, mS_uB, mS_uT, mT_uA, mT_uB, mT_uS, Nat.reduceEqDiff, true_and, and_true, false_and, and_false, ↓reduceIte, e, C.xE]
      · rw [a1 p hp, if_neg e, ← j.2.2 p hp]
        show (if 103 = 103 ∧ b = nE S ∧ p < 32 then _ else hI (z_nw h 103) 103 b p) = _
        rw [if_neg (fun q => e q.2.1), zr_hInw, C.xX, if_neg (fun q => e q.2)]
theorem c_loan (l : Launch) (G : z_G) (d : Nat) (hd : 10 ≤ d) (tr : z_TR) (S : z_M) (h : z_H) (C : CR tr S h) (inv : INV S) (k n known : Int32) : z_MT l G d yX11_loan cX11_loan 7 (some .int) [z_r 13 0, z_i k, z_i n, z_i known] h 3 80 (Ci tr h (o_loan S k n known)) := by
  have huK : nK S = ci (mS S 15) := rfl
  have htK := inv.cK.t
  have hbK := inv.cK.2
  have hpK : (mS S 15 - 1).toInt = (ci (mS S 15) : Int) - 1 := by
    rw [sub32 (by rw [htK, show (1 : Int32).toInt = 1 from rfl]; omega) (by rw [htK, show (1 : Int32).toInt = 1 from rfl]; omega), htK]
    rfl
  have huE : nE S = ci (mS S 21) := rfl
  have htE := inv.cE.t
  have hbE := inv.cE.2
  have hpE : (mS S 21 - 1).toInt = (ci (mS S 21) : Int) - 1 := by
    rw [sub32 (by rw [htE, show (1 : Int32).toInt = 1 from rfl]; omega) (by rw [htE, show (1 : Int32).toInt = 1 from rfl]; omega), htE]
    rfl
  have tn := toIntS (show nE S < 2000000000 by omega)
  have gc := z_gc_le (nE S)
  have gs := z_gs_le (nE S)
  have jt := C.ter
  have hlw : mB S 26 (ci k) * n.toInt64 / mB S 25 (ci k) = o_lw S k n := rfl
  refine z_mt2 13 false ⟨by decide, rfl, fun q => absurd q (by decide)⟩ (by show 4 ≤ 7; decide) (fun A st wk => ?_)
  refine st b_X11_loan_0 _ _ k_X11_loan_0 _ _ _ _ _ ?_
  simp only [b_X11_loan_0, zr_aload, zr_aload_n0, zr_astore, zr_cP_ge, zr_call0, zr_icmp, zr_iconst, zr_ifnull, zr_iload_n1, zr_iload_n2, zr_nil, zr_cons, ↓reduceIte, Nat.reduceAdd, Nat.reduceEqDiff, Nat.reduceLeDiff, Nat.reduceMul, Nat.reduceSub, Int32.reduceOfInt, Int64.reduceOfInt, Int64.reduceOfNat, true_and, and_true, false_and, and_false, or_false, false_or, true_or, or_true, Int.reduceEq, reduceCtorEq, or_self, and_self, ne_eq, not_false_eq_true, not_true_eq_false, eq_self, Nat.le_refl, Nat.zero_le, zr_eI, zr_eL, zr_eR, zr_pI, zr_pL, zr_pR, zr_pO, zr_pV, zq_pA0, zq_pA, zr_get, zr_put_n, zr_put, zr_rem_n, zr_rem, zr_cat_i, zr_cat_l, zr_cat_q, zr_w_n, zr_w, zr_args_n, zr_args, zr_tl_s, zr_tl_n, zq_hIsI, zq_hLsL, zq_hRsR, zq_hIsL, zq_hIsR, zq_hLsI, zq_hLsR, zq_hRsI, zq_hRsL, zq_hNsI, zq_hNsL, zq_hNsR, zq_hZsI, zq_hZsL, zq_hZsR, b2_01, Classical.not_not, Int32.toInt_toInt64, Int64.reduceToInt, zc_1000, zc_100, zc_10, zc_9, zc_2, ci_f, C.r0, C.r1, C.r2, C.r3, C.r4, C.r5, C.r6, C.r7, C.r8, C.r9, C.q0, C.q1, C.q2, zl_200, zl_201, zl_202, zl_203, zl_204, zl_205, zl_206, zl_207, lT_200, lT_201, lT_202, lT_203, lT_204, lT_205, lT_206, C.zK, C.zA, C.zR, C.zO, C.zE, C.zS, C.zL, zq_hInw, zq_hLnw, zq_hRnw, zq_hNnw, zq_hZnw, zq_hZsZ, zq_hNsN, zq_hIsZ, zq_hIsN, zq_hLsZ, zq_hLsN, zq_hRsZ, zq_hRsN, zq_hNsZ, zq_hZsN, kF_2, kF_3, kF_4, kF_5, kF_6, kF_7, kF_8, kF_9, kF_10, kF_11, kF_12, kF_13, C.xA, C.xK, C.xL, C.xE, C.xO, C.xR, C.xX, C.xF, C.day, jt.1, hlw, zf_Z, zf_R, zf_L]
  refine cp0 (by omega) lk_X11_133 (rc_13 rfl) (c_kindAt l G _ (by omega) tr S _ C inv _) (by omega) (by omega) ?_
  simp only [zr_aload, zr_astore, zr_cP_ge, zr_icmp, zr_iconst, zr_ifnull, zr_iload_n2, zr_nil, zr_cons, ↓reduceIte, Nat.reduceAdd, Nat.reduceEqDiff, Nat.reduceLeDiff, Nat.reduceMul, Nat.reduceSub, Int32.reduceOfInt, Int64.reduceOfInt, Int64.reduceOfNat, true_and, and_true, false_and, and_false, or_false, false_or, true_or, or_true, Int.reduceEq, reduceCtorEq, or_self, and_self, ne_eq, not_false_eq_true, not_true_eq_false, eq_self, Nat.le_refl, Nat.zero_le, zr_eI, zr_eL, zr_eR, zr_pI, zr_pL, zr_pR, zr_pO, zr_pV, zq_pA0, zq_pA, zr_get, zr_put_n, zr_put, zr_rem_n, zr_rem, zr_cat_i, zr_cat_l, zr_cat_q, zr_w_n, zr_w, zr_args_n, zr_args, zr_tl_s, zr_tl_n, zq_hIsI, zq_hLsL, zq_hRsR, zq_hIsL, zq_hIsR, zq_hLsI, zq_hLsR, zq_hRsI, zq_hRsL, zq_hNsI, zq_hNsL, zq_hNsR, zq_hZsI, zq_hZsL, zq_hZsR, b2_01, Classical.not_not, Int32.toInt_toInt64, Int64.reduceToInt, zc_1000, zc_100, zc_10, zc_9, zc_2, ci_f, C.r0, C.r1, C.r2, C.r3, C.r4, C.r5, C.r6, C.r7, C.r8, C.r9, C.q0, C.q1, C.q2, zl_200, zl_201, zl_202, zl_203, zl_204, zl_205, zl_206, zl_207, lT_200, lT_201, lT_202, lT_203, lT_204, lT_205, lT_206, C.zK, C.zA, C.zR, C.zO, C.zE, C.zS, C.zL, zq_hInw, zq_hLnw, zq_hRnw, zq_hNnw, zq_hZnw, zq_hZsZ, zq_hNsN, zq_hIsZ, zq_hIsN, zq_hLsZ, zq_hLsN, zq_hRsZ, zq_hRsN, zq_hNsZ, zq_hZsN, kF_2, kF_3, kF_4, kF_5, kF_6, kF_7, kF_8, kF_9, kF_10, kF_11, kF_12, kF_13, C.xA, C.xK, C.xL, C.xE, C.xO, C.xR, C.xX, C.xF, C.day, jt.1, hlw, zf_Z, zf_R, zf_L]
  refine ⟨fun qc1 => ?_, fun qq1 qc1 => ?_⟩
  · simp only [op_n] at qc1
    refine st b_X11_loan_17 _ _ k_X11_loan_17 _ _ _ _ _ ?_
    simp only [b_X11_loan_17, zr_T, zr_bipush, zr_iret, zr_rt_a, zr_rt_i, zr_rt_l, zr_rt_n, zr_rt_z, zr_nil, zr_cons, ↓reduceIte, Nat.reduceAdd, Nat.reduceEqDiff, Nat.reduceLeDiff, Nat.reduceMul, Nat.reduceSub, Int32.reduceOfInt, Int64.reduceOfInt, Int64.reduceOfNat, true_and, and_true, false_and, and_false, or_false, false_or, true_or, or_true, Int.reduceEq, reduceCtorEq, or_self, and_self, ne_eq, not_false_eq_true, not_true_eq_false, eq_self, Nat.le_refl, Nat.zero_le, zr_eI, zr_eL, zr_eR, zr_pI, zr_pL, zr_pR, zr_pO, zr_pV, zq_pA0, zq_pA, zr_get, zr_put_n, zr_put, zr_rem_n, zr_rem, zr_cat_i, zr_cat_l, zr_cat_q, zr_w_n, zr_w, zr_args_n, zr_args, zr_tl_s, zr_tl_n, zq_hIsI, zq_hLsL, zq_hRsR, zq_hIsL, zq_hIsR, zq_hLsI, zq_hLsR, zq_hRsI, zq_hRsL, zq_hNsI, zq_hNsL, zq_hNsR, zq_hZsI, zq_hZsL, zq_hZsR, b2_01, Classical.not_not, Int32.toInt_toInt64, Int64.reduceToInt, zc_1000, zc_100, zc_10, zc_9, zc_2, ci_f, C.r0, C.r1, C.r2, C.r3, C.r4, C.r5, C.r6, C.r7, C.r8, C.r9, C.q0, C.q1, C.q2, zl_200, zl_201, zl_202, zl_203, zl_204, zl_205, zl_206, zl_207, lT_200, lT_201, lT_202, lT_203, lT_204, lT_205, lT_206, C.zK, C.zA, C.zR, C.zO, C.zE, C.zS, C.zL, zq_hInw, zq_hLnw, zq_hRnw, zq_hNnw, zq_hZnw, zq_hZsZ, zq_hNsN, zq_hIsZ, zq_hIsN, zq_hLsZ, zq_hLsN, zq_hRsZ, zq_hRsN, zq_hNsZ, zq_hZsN, kF_2, kF_3, kF_4, kF_5, kF_6, kF_7, kF_8, kF_9, kF_10, kF_11, kF_12, kF_13, C.xA, C.xK, C.xL, C.xE, C.xO, C.xR, C.xX, C.xF, C.day, jt.1, hlw, zf_Z, zf_R, zf_L]
    repeat (with_reducible refine ⟨by omega, ?_⟩)
    refine qci (S' := S) ?_ C z_sM.rf
    unfold o_loan
    (repeat' split) <;> (first | rfl | (exfalso; omega))
  · replace qc1 := op_p qc1
    have kk := ci_lt qc1
    have jk := C.kin (ci k) kk
    have ik := (inv.kin.1 (ci k) kk).2.2.2.2
    have e4 : (hI h 4 (ci k) 4).toInt = (mB S 25 (ci k)).toInt := by
      have := congrArg Int64.toInt jk.2.2.2.2.1
      rw [Int32.toInt_toInt64] at this
      exact this
    try simp only [zr_cP_ge, zr_icmp, zr_iconst, zr_iload_n2, zr_nil, zr_cons, ↓reduceIte, Nat.reduceAdd, Nat.reduceEqDiff, Nat.reduceLeDiff, Nat.reduceMul, Nat.reduceSub, Int32.reduceOfInt, Int64.reduceOfInt, Int64.reduceOfNat, true_and, and_true, false_and, and_false, or_false, false_or, true_or, or_true, Int.reduceEq, reduceCtorEq, or_self, and_self, ne_eq, not_false_eq_true, not_true_eq_false, eq_self, Nat.le_refl, Nat.zero_le, zr_eI, zr_eL, zr_eR, zr_pI, zr_pL, zr_pR, zr_pO, zr_pV, zq_pA0, zq_pA, zr_get, zr_put_n, zr_put, zr_rem_n, zr_rem, zr_cat_i, zr_cat_l, zr_cat_q, zr_w_n, zr_w, zr_args_n, zr_args, zr_tl_s, zr_tl_n, zq_hIsI, zq_hLsL, zq_hRsR, zq_hIsL, zq_hIsR, zq_hLsI, zq_hLsR, zq_hRsI, zq_hRsL, zq_hNsI, zq_hNsL, zq_hNsR, zq_hZsI, zq_hZsL, zq_hZsR, b2_01, Classical.not_not, Int32.toInt_toInt64, Int64.reduceToInt, zc_1000, zc_100, zc_10, zc_9, zc_2, ci_f, C.r0, C.r1, C.r2, C.r3, C.r4, C.r5, C.r6, C.r7, C.r8, C.r9, C.q0, C.q1, C.q2, zl_200, zl_201, zl_202, zl_203, zl_204, zl_205, zl_206, zl_207, lT_200, lT_201, lT_202, lT_203, lT_204, lT_205, lT_206, C.zK, C.zA, C.zR, C.zO, C.zE, C.zS, C.zL, zq_hInw, zq_hLnw, zq_hRnw, zq_hNnw, zq_hZnw, zq_hZsZ, zq_hNsN, zq_hIsZ, zq_hIsN, zq_hLsZ, zq_hLsN, zq_hRsZ, zq_hRsN, zq_hNsZ, zq_hZsN, kF_2, kF_3, kF_4, kF_5, kF_6, kF_7, kF_8, kF_9, kF_10, kF_11, kF_12, kF_13, C.xA, C.xK, C.xL, C.xE, C.xO, C.xR, C.xX, C.xF, C.day, jt.1, hlw, zf_Z, zf_R, zf_L, if_pos qc1, jk.1, jk.2.1, jk.2.2.1, jk.2.2.2.1, jk.2.2.2.2.1, jk.2.2.2.2.2]
    refine ⟨fun qc2 => ?_, fun qc2 => ?_⟩
    · try simp only [b2_0, Classical.not_not] at qc2
      try simp only [Int64.le_iff_toInt_le, Int64.lt_iff_toInt_lt, Int32.lt_iff_toInt_lt, Int32.le_iff_toInt_le, Int32.toInt_toInt64, Int64.reduceToInt, Int32.reduceToInt, Int.reduceNeg, Classical.not_not, i32e, l_add, tn, e4] at qc2
      refine st b_X11_loan_20 _ _ k_X11_loan_20 _ _ _ _ _ ?_
      simp only [b_X11_loan_20, zr_T, zr_aload, zr_bipush, zr_cP_ge, zr_get0, zr_icmp, zr_iload_n2, zr_iret, zr_rt_a, zr_rt_i, zr_rt_l, zr_rt_n, zr_rt_z, zr_nil, zr_cons, ↓reduceIte, Nat.reduceAdd, Nat.reduceEqDiff, Nat.reduceLeDiff, Nat.reduceMul, Nat.reduceSub, Int32.reduceOfInt, Int64.reduceOfInt, Int64.reduceOfNat, true_and, and_true, false_and, and_false, or_false, false_or, true_or, or_true, Int.reduceEq, reduceCtorEq, or_self, and_self, ne_eq, not_false_eq_true, not_true_eq_false, eq_self, Nat.le_refl, Nat.zero_le, zr_eI, zr_eL, zr_eR, zr_pI, zr_pL, zr_pR, zr_pO, zr_pV, zq_pA0, zq_pA, zr_get, zr_put_n, zr_put, zr_rem_n, zr_rem, zr_cat_i, zr_cat_l, zr_cat_q, zr_w_n, zr_w, zr_args_n, zr_args, zr_tl_s, zr_tl_n, zq_hIsI, zq_hLsL, zq_hRsR, zq_hIsL, zq_hIsR, zq_hLsI, zq_hLsR, zq_hRsI, zq_hRsL, zq_hNsI, zq_hNsL, zq_hNsR, zq_hZsI, zq_hZsL, zq_hZsR, b2_01, Classical.not_not, Int32.toInt_toInt64, Int64.reduceToInt, zc_1000, zc_100, zc_10, zc_9, zc_2, ci_f, C.r0, C.r1, C.r2, C.r3, C.r4, C.r5, C.r6, C.r7, C.r8, C.r9, C.q0, C.q1, C.q2, zl_200, zl_201, zl_202, zl_203, zl_204, zl_205, zl_206, zl_207, lT_200, lT_201, lT_202, lT_203, lT_204, lT_205, lT_206, C.zK, C.zA, C.zR, C.zO, C.zE, C.zS, C.zL, zq_hInw, zq_hLnw, zq_hRnw, zq_hNnw, zq_hZnw, zq_hZsZ, zq_hNsN, zq_hIsZ, zq_hIsN, zq_hLsZ, zq_hLsN, zq_hRsZ, zq_hRsN, zq_hNsZ, zq_hZsN, kF_2, kF_3, kF_4, kF_5, kF_6, kF_7, kF_8, kF_9, kF_10, kF_11, kF_12, kF_13, C.xA, C.xK, C.xL, C.xE, C.xO, C.xR, C.xX, C.xF, C.day, jt.1, hlw, zf_Z, zf_R, zf_L, if_pos qc1, jk.1, jk.2.1, jk.2.2.1, jk.2.2.2.1, jk.2.2.2.2.1, jk.2.2.2.2.2]
      refine ⟨fun qc3 => ?_, fun qc3 => ?_⟩
      · try simp only [b2_0, Classical.not_not] at qc3
        try simp only [Int64.le_iff_toInt_le, Int64.lt_iff_toInt_lt, Int32.lt_iff_toInt_lt, Int32.le_iff_toInt_le, Int32.toInt_toInt64, Int64.reduceToInt, Int32.reduceToInt, Int.reduceNeg, Classical.not_not, i32e, l_add, tn, e4] at qc3
        refine st b_X11_loan_32 _ _ k_X11_loan_32 _ _ _ _ _ ?_
        simp only [b_X11_loan_32, zr_T, zr_aload_n0, zr_bipush, zr_cP_lt, zr_get2, zr_icmp, zr_iret, zr_lsize, zr_rt_a, zr_rt_i, zr_rt_l, zr_rt_n, zr_rt_z, zr_nil, zr_cons, ↓reduceIte, Nat.reduceAdd, Nat.reduceEqDiff, Nat.reduceLeDiff, Nat.reduceMul, Nat.reduceSub, Int32.reduceOfInt, Int64.reduceOfInt, Int64.reduceOfNat, true_and, and_true, false_and, and_false, or_false, false_or, true_or, or_true, Int.reduceEq, reduceCtorEq, or_self, and_self, ne_eq, not_false_eq_true, not_true_eq_false, eq_self, Nat.le_refl, Nat.zero_le, zr_eI, zr_eL, zr_eR, zr_pI, zr_pL, zr_pR, zr_pO, zr_pV, zq_pA0, zq_pA, zr_get, zr_put_n, zr_put, zr_rem_n, zr_rem, zr_cat_i, zr_cat_l, zr_cat_q, zr_w_n, zr_w, zr_args_n, zr_args, zr_tl_s, zr_tl_n, zq_hIsI, zq_hLsL, zq_hRsR, zq_hIsL, zq_hIsR, zq_hLsI, zq_hLsR, zq_hRsI, zq_hRsL, zq_hNsI, zq_hNsL, zq_hNsR, zq_hZsI, zq_hZsL, zq_hZsR, b2_01, Classical.not_not, Int32.toInt_toInt64, Int64.reduceToInt, zc_1000, zc_100, zc_10, zc_9, zc_2, ci_f, C.r0, C.r1, C.r2, C.r3, C.r4, C.r5, C.r6, C.r7, C.r8, C.r9, C.q0, C.q1, C.q2, zl_200, zl_201, zl_202, zl_203, zl_204, zl_205, zl_206, zl_207, lT_200, lT_201, lT_202, lT_203, lT_204, lT_205, lT_206, C.zK, C.zA, C.zR, C.zO, C.zE, C.zS, C.zL, zq_hInw, zq_hLnw, zq_hRnw, zq_hNnw, zq_hZnw, zq_hZsZ, zq_hNsN, zq_hIsZ, zq_hIsN, zq_hLsZ, zq_hLsN, zq_hRsZ, zq_hRsN, zq_hNsZ, zq_hZsN, kF_2, kF_3, kF_4, kF_5, kF_6, kF_7, kF_8, kF_9, kF_10, kF_11, kF_12, kF_13, C.xA, C.xK, C.xL, C.xE, C.xO, C.xR, C.xX, C.xF, C.day, jt.1, hlw, zf_Z, zf_R, zf_L, if_pos qc1, jk.1, jk.2.1, jk.2.2.1, jk.2.2.2.1, jk.2.2.2.2.1, jk.2.2.2.2.2]
        repeat (with_reducible refine ⟨by omega, ?_⟩)
        refine ⟨fun qc4 => ?_, fun qc4 => ?_⟩
        · try simp only [b2_0, Classical.not_not] at qc4
          try simp only [Int64.le_iff_toInt_le, Int64.lt_iff_toInt_lt, Int32.lt_iff_toInt_lt, Int32.le_iff_toInt_le, Int32.toInt_toInt64, Int64.reduceToInt, Int32.reduceToInt, Int.reduceNeg, Classical.not_not, i32e, l_add, tn, e4] at qc4
          refine st b_X11_loan_47 _ _ k_X11_loan_47 _ _ _ _ _ ?_
          simp only [b_X11_loan_47, zr_T, zr_aload, zr_aload_n0, zr_call0, zr_call2, zr_dup, zr_get0, zr_get1, zr_get2, zr_i2l, zr_iconst, zr_iload_n2, zr_iload_n3, zr_iret, zr_isub, zr_lapp, zr_ldiv, zr_lload, zr_lmul, zr_lsize, zr_lstore, zr_lsub, zr_new, zr_pop, zr_put0, zr_put1, zr_rt_a, zr_rt_i, zr_rt_l, zr_rt_n, zr_rt_z, zr_nil, zr_cons, ↓reduceIte, Nat.reduceAdd, Nat.reduceEqDiff, Nat.reduceLeDiff, Nat.reduceMul, Nat.reduceSub, Int32.reduceOfInt, Int64.reduceOfInt, Int64.reduceOfNat, true_and, and_true, false_and, and_false, or_false, false_or, true_or, or_true, Int.reduceEq, reduceCtorEq, or_self, and_self, ne_eq, not_false_eq_true, not_true_eq_false, eq_self, Nat.le_refl, Nat.zero_le, zr_eI, zr_eL, zr_eR, zr_pI, zr_pL, zr_pR, zr_pO, zr_pV, zq_pA0, zq_pA, zr_get, zr_put_n, zr_put, zr_rem_n, zr_rem, zr_cat_i, zr_cat_l, zr_cat_q, zr_w_n, zr_w, zr_args_n, zr_args, zr_tl_s, zr_tl_n, zq_hIsI, zq_hLsL, zq_hRsR, zq_hIsL, zq_hIsR, zq_hLsI, zq_hLsR, zq_hRsI, zq_hRsL, zq_hNsI, zq_hNsL, zq_hNsR, zq_hZsI, zq_hZsL, zq_hZsR, b2_01, Classical.not_not, Int32.toInt_toInt64, Int64.reduceToInt, zc_1000, zc_100, zc_10, zc_9, zc_2, ci_f, C.r0, C.r1, C.r2, C.r3, C.r4, C.r5, C.r6, C.r7, C.r8, C.r9, C.q0, C.q1, C.q2, zl_200, zl_201, zl_202, zl_203, zl_204, zl_205, zl_206, zl_207, lT_200, lT_201, lT_202, lT_203, lT_204, lT_205, lT_206, C.zK, C.zA, C.zR, C.zO, C.zE, C.zS, C.zL, zq_hInw, zq_hLnw, zq_hRnw, zq_hNnw, zq_hZnw, zq_hZsZ, zq_hNsN, zq_hIsZ, zq_hIsN, zq_hLsZ, zq_hLsN, zq_hRsZ, zq_hRsN, zq_hNsZ, zq_hZsN, kF_2, kF_3, kF_4, kF_5, kF_6, kF_7, kF_8, kF_9, kF_10, kF_11, kF_12, kF_13, C.xA, C.xK, C.xL, C.xE, C.xO, C.xR, C.xX, C.xF, C.day, jt.1, hlw, zf_Z, zf_R, zf_L, if_pos qc1, jk.1, jk.2.1, jk.2.2.1, jk.2.2.2.1, jk.2.2.2.2.1, jk.2.2.2.2.2]
          refine ⟨(fun q => by rw [i64e] at q; have : (0 : Int64).toInt = 0 := rfl; omega), ?_⟩
          repeat (with_reducible refine ⟨by omega, ?_⟩)
          refine cp0 (by omega) lk_X11_305 (rc_4 rfl) (c_bookOf0 l G _ _ _ _ _) (by omega) (by omega) ?_
          simp only [zr_T, zr_aload_n0, zr_call2, zr_get0, zr_get2, zr_iconst, zr_iload_n3, zr_iret, zr_isub, zr_lapp, zr_lsize, zr_pop, zr_rt_a, zr_rt_i, zr_rt_l, zr_rt_n, zr_rt_z, zr_nil, zr_cons, ↓reduceIte, Nat.reduceAdd, Nat.reduceEqDiff, Nat.reduceLeDiff, Nat.reduceMul, Nat.reduceSub, Int32.reduceOfInt, Int64.reduceOfInt, Int64.reduceOfNat, true_and, and_true, false_and, and_false, or_false, false_or, true_or, or_true, Int.reduceEq, reduceCtorEq, or_self, and_self, ne_eq, not_false_eq_true, not_true_eq_false, eq_self, Nat.le_refl, Nat.zero_le, zr_eI, zr_eL, zr_eR, zr_pI, zr_pL, zr_pR, zr_pO, zr_pV, zq_pA0, zq_pA, zr_get, zr_put_n, zr_put, zr_rem_n, zr_rem, zr_cat_i, zr_cat_l, zr_cat_q, zr_w_n, zr_w, zr_args_n, zr_args, zr_tl_s, zr_tl_n, zq_hIsI, zq_hLsL, zq_hRsR, zq_hIsL, zq_hIsR, zq_hLsI, zq_hLsR, zq_hRsI, zq_hRsL, zq_hNsI, zq_hNsL, zq_hNsR, zq_hZsI, zq_hZsL, zq_hZsR, b2_01, Classical.not_not, Int32.toInt_toInt64, Int64.reduceToInt, zc_1000, zc_100, zc_10, zc_9, zc_2, ci_f, C.r0, C.r1, C.r2, C.r3, C.r4, C.r5, C.r6, C.r7, C.r8, C.r9, C.q0, C.q1, C.q2, zl_200, zl_201, zl_202, zl_203, zl_204, zl_205, zl_206, zl_207, lT_200, lT_201, lT_202, lT_203, lT_204, lT_205, lT_206, C.zK, C.zA, C.zR, C.zO, C.zE, C.zS, C.zL, zq_hInw, zq_hLnw, zq_hRnw, zq_hNnw, zq_hZnw, zq_hZsZ, zq_hNsN, zq_hIsZ, zq_hIsN, zq_hLsZ, zq_hLsN, zq_hRsZ, zq_hRsN, zq_hNsZ, zq_hZsN, kF_2, kF_3, kF_4, kF_5, kF_6, kF_7, kF_8, kF_9, kF_10, kF_11, kF_12, kF_13, C.xA, C.xK, C.xL, C.xE, C.xO, C.xR, C.xX, C.xF, C.day, jt.1, hlw, zf_Z, zf_R, zf_L, if_pos qc1, jk.1, jk.2.1, jk.2.2.1, jk.2.2.2.1, jk.2.2.2.2.1, jk.2.2.2.2.2]
          refine cph (by omega) lk_X11_311 rc_s (c_iLoan l G _ (by omega) _ _ _ _ _) (by omega) (by omega) ?_
          simp only [zr_T, zr_aload_n0, zr_get2, zr_iconst, zr_iret, zr_isub, zr_lapp, zr_lsize, zr_pop, zr_rt_a, zr_rt_i, zr_rt_l, zr_rt_n, zr_rt_z, zr_nil, zr_cons, ↓reduceIte, Nat.reduceAdd, Nat.reduceEqDiff, Nat.reduceLeDiff, Nat.reduceMul, Nat.reduceSub, Int32.reduceOfInt, Int64.reduceOfInt, Int64.reduceOfNat, true_and, and_true, false_and, and_false, or_false, false_or, true_or, or_true, Int.reduceEq, reduceCtorEq, or_self, and_self, ne_eq, not_false_eq_true, not_true_eq_false, eq_self, Nat.le_refl, Nat.zero_le, zr_eI, zr_eL, zr_eR, zr_pI, zr_pL, zr_pR, zr_pO, zr_pV, zq_pA0, zq_pA, zr_get, zr_put_n, zr_put, zr_rem_n, zr_rem, zr_cat_i, zr_cat_l, zr_cat_q, zr_w_n, zr_w, zr_args_n, zr_args, zr_tl_s, zr_tl_n, zq_hIsI, zq_hLsL, zq_hRsR, zq_hIsL, zq_hIsR, zq_hLsI, zq_hLsR, zq_hRsI, zq_hRsL, zq_hNsI, zq_hNsL, zq_hNsR, zq_hZsI, zq_hZsL, zq_hZsR, b2_01, Classical.not_not, Int32.toInt_toInt64, Int64.reduceToInt, zc_1000, zc_100, zc_10, zc_9, zc_2, ci_f, C.r0, C.r1, C.r2, C.r3, C.r4, C.r5, C.r6, C.r7, C.r8, C.r9, C.q0, C.q1, C.q2, zl_200, zl_201, zl_202, zl_203, zl_204, zl_205, zl_206, zl_207, lT_200, lT_201, lT_202, lT_203, lT_204, lT_205, lT_206, C.zK, C.zA, C.zR, C.zO, C.zE, C.zS, C.zL, zq_hInw, zq_hLnw, zq_hRnw, zq_hNnw, zq_hZnw, zq_hZsZ, zq_hNsN, zq_hIsZ, zq_hIsN, zq_hLsZ, zq_hLsN, zq_hRsZ, zq_hRsN, zq_hNsZ, zq_hZsN, kF_2, kF_3, kF_4, kF_5, kF_6, kF_7, kF_8, kF_9, kF_10, kF_11, kF_12, kF_13, C.xA, C.xK, C.xL, C.xE, C.xO, C.xR, C.xX, C.xF, C.day, jt.1, hlw, zf_Z, zf_R, zf_L, if_pos qc1, jk.1, jk.2.1, jk.2.2.1, jk.2.2.2.1, jk.2.2.2.2.1, jk.2.2.2.2.2]
          repeat (with_reducible refine ⟨by omega, ?_⟩)
          repeat (with_reducible refine ⟨by omega, ?_⟩)
          rw [nI_pred]
          repeat (with_reducible refine ⟨by omega, ?_⟩)
          refine qci (S' := o_lend S k n known) ?_ (cr_loan C inv (by assumption) (by omega) (by omega) (by omega)) (by repeat (first | with_reducible exact z_sM.rf | with_reducible assumption | with_reducible refine z_sM.I ?_ (by decide) | with_reducible refine z_sM.L ?_ (by decide) | with_reducible refine z_sM.R ?_ (by decide) | with_reducible refine z_sM.Z ?_ | with_reducible refine z_sM.N ?_ | with_reducible refine z_sM.W ?_ (by decide) | with_reducible refine z_sM.C ?_ | with_reducible refine z_sM.fill ?_))
          unfold o_loan
          (repeat' split) <;> (first | rfl | (exfalso; omega))
        · try simp only [b2_0, Classical.not_not] at qc4
          try simp only [Int64.le_iff_toInt_le, Int64.lt_iff_toInt_lt, Int32.lt_iff_toInt_lt, Int32.le_iff_toInt_le, Int32.toInt_toInt64, Int64.reduceToInt, Int32.reduceToInt, Int.reduceNeg, Classical.not_not, i32e, l_add, tn, e4] at qc4
          repeat (with_reducible refine ⟨by omega, ?_⟩)
          refine qci (S' := S) ?_ C z_sM.rf
          unfold o_loan
          (repeat' split) <;> (first | rfl | (exfalso; omega))
      · try simp only [b2_0, Classical.not_not] at qc3
        try simp only [Int64.le_iff_toInt_le, Int64.lt_iff_toInt_lt, Int32.lt_iff_toInt_lt, Int32.le_iff_toInt_le, Int32.toInt_toInt64, Int64.reduceToInt, Int32.reduceToInt, Int.reduceNeg, Classical.not_not, i32e, l_add, tn, e4] at qc3
        repeat (with_reducible refine ⟨by omega, ?_⟩)
        refine qci (S' := S) ?_ C z_sM.rf
        unfold o_loan
        (repeat' split) <;> (first | rfl | (exfalso; omega))
    · try simp only [b2_0, Classical.not_not] at qc2
      try simp only [Int64.le_iff_toInt_le, Int64.lt_iff_toInt_lt, Int32.lt_iff_toInt_lt, Int32.le_iff_toInt_le, Int32.toInt_toInt64, Int64.reduceToInt, Int32.reduceToInt, Int.reduceNeg, Classical.not_not, i32e, l_add, tn, e4] at qc2
      refine st b_X11_loan_17 _ _ k_X11_loan_17 _ _ _ _ _ ?_
      simp only [b_X11_loan_17, zr_T, zr_bipush, zr_iret, zr_rt_a, zr_rt_i, zr_rt_l, zr_rt_n, zr_rt_z, zr_nil, zr_cons, ↓reduceIte, Nat.reduceAdd, Nat.reduceEqDiff, Nat.reduceLeDiff, Nat.reduceMul, Nat.reduceSub, Int32.reduceOfInt, Int64.reduceOfInt, Int64.reduceOfNat, true_and, and_true, false_and, and_false, or_false, false_or, true_or, or_true, Int.reduceEq, reduceCtorEq, or_self, and_self, ne_eq, not_false_eq_true, not_true_eq_false, eq_self, Nat.le_refl, Nat.zero_le, zr_eI, zr_eL, zr_eR, zr_pI, zr_pL, zr_pR, zr_pO, zr_pV, zq_pA0, zq_pA, zr_get, zr_put_n, zr_put, zr_rem_n, zr_rem, zr_cat_i, zr_cat_l, zr_cat_q, zr_w_n, zr_w, zr_args_n, zr_args, zr_tl_s, zr_tl_n, zq_hIsI, zq_hLsL, zq_hRsR, zq_hIsL, zq_hIsR, zq_hLsI, zq_hLsR, zq_hRsI, zq_hRsL, zq_hNsI, zq_hNsL, zq_hNsR, zq_hZsI, zq_hZsL, zq_hZsR, b2_01, Classical.not_not, Int32.toInt_toInt64, Int64.reduceToInt, zc_1000, zc_100, zc_10, zc_9, zc_2, ci_f, C.r0, C.r1, C.r2, C.r3, C.r4, C.r5, C.r6, C.r7, C.r8, C.r9, C.q0, C.q1, C.q2, zl_200, zl_201, zl_202, zl_203, zl_204, zl_205, zl_206, zl_207, lT_200, lT_201, lT_202, lT_203, lT_204, lT_205, lT_206, C.zK, C.zA, C.zR, C.zO, C.zE, C.zS, C.zL, zq_hInw, zq_hLnw, zq_hRnw, zq_hNnw, zq_hZnw, zq_hZsZ, zq_hNsN, zq_hIsZ, zq_hIsN, zq_hLsZ, zq_hLsN, zq_hRsZ, zq_hRsN, zq_hNsZ, zq_hZsN, kF_2, kF_3, kF_4, kF_5, kF_6, kF_7, kF_8, kF_9, kF_10, kF_11, kF_12, kF_13, C.xA, C.xK, C.xL, C.xE, C.xO, C.xR, C.xX, C.xF, C.day, jt.1, hlw, zf_Z, zf_R, zf_L, if_pos qc1, jk.1, jk.2.1, jk.2.2.1, jk.2.2.2.1, jk.2.2.2.2.1, jk.2.2.2.2.2]
      repeat (with_reducible refine ⟨by omega, ?_⟩)
      refine qci (S' := S) ?_ C z_sM.rf
      unfold o_loan
      (repeat' split) <;> (first | rfl | (exfalso; omega))
