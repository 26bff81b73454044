/-! the model's methods: lines, receipts, orders -/
theorem m_writes (l : Launch) (G : z_G) (d : Nat) (hd : 1 ≤ d) (S : z_M) (h : z_H) (e : mv h = S) (hM : z_MR h) (inv : INV S) (d0 a side : Int32) (sum : Int64) (order : Int32) (hr : nL S < 2000) : z_MT l G d yX12_writes cX12_writes 8 (some .int) [z_r 14 0, z_i d0, z_i a, z_i side, z_l sum, z_i order] h 0 0 (Qi h (o_writes S d0 a side sum order)) := by
  have hM' := hM
  unfold z_MR at hM
  have huL : nL S = ci (mS S 19) := rfl
  have htL := inv.cL.t
  have hbL := inv.cL.2
  have hpL : (mS S 19 - 1).toInt = (ci (mS S 19) : Int) - 1 := by
    rw [sub32 (by rw [htL, show (1 : Int32).toInt = 1 from rfl]; omega) (by rw [htL, show (1 : Int32).toInt = 1 from rfl]; omega), htL]
    rfl
  have huF : nF S = ci (mS S 20) := rfl
  have htF := inv.cF.t
  have hbF := inv.cF.2
  have hpF : (mS S 20 - 1).toInt = (ci (mS S 20) : Int) - 1 := by
    rw [sub32 (by rw [htF, show (1 : Int32).toInt = 1 from rfl]; omega) (by rw [htF, show (1 : Int32).toInt = 1 from rfl]; omega), htF]
    rfl
  have hfl := inv.fl
  have hf := o_fol_in (mA S 55) a (nF S) (by omega)
  refine z_mt2 14 false ⟨by decide, rfl, fun q => absurd q (by decide)⟩ (by show 7 ≤ 8; decide) (fun A st wk => ?_)
  refine st b_X12_writes_0 _ _ k_X12_writes_0 _ _ _ _ _ ?_
  simp only [b_X12_writes_0, lg_cmp_eq, lg_cmp_ge, lg_cmp_gt, lg_cmp_le, lg_cmp_lt, zr_T, zr_cP_ne, zr_iconst, zr_ifc, zr_iret, zr_lcmp, zr_lconst0, zr_lload, zr_rt_a, zr_rt_i, zr_rt_l, zr_rt_n, zr_rt_z, zr_nil, zr_cons, ↓reduceIte, Nat.reduceAdd, Nat.reduceEqDiff, Nat.reduceLeDiff, Nat.reduceMul, Nat.reduceSub, Int32.reduceOfInt, Int64.reduceOfInt, Int64.reduceOfNat, true_and, and_true, false_and, and_false, or_false, false_or, true_or, or_true, Int.reduceEq, reduceCtorEq, or_self, and_self, ne_eq, not_false_eq_true, not_true_eq_false, eq_self, Nat.le_refl, Nat.zero_le, zr_eI, zr_eL, zr_eR, zr_pI, zr_pL, zr_pR, zr_pO, zr_pV, zq_pA0, zq_pA, zr_get, zr_put_n, zr_put, zr_rem_n, zr_rem, zr_cat_i, zr_cat_l, zr_cat_q, zr_w_n, zr_w, zr_args_n, zr_args, zr_tl_s, zr_tl_n, zr_hIsI, zr_hLsL, zr_hRsR, zr_hIsL, zr_hIsR, zr_hLsI, zr_hLsR, zr_hRsI, zr_hRsL, zr_hNsI, zr_hNsL, zr_hNsR, zr_hZsI, zr_hZsL, zr_hZsR, b2_01, Classical.not_not, Int32.toInt_toInt64, Int64.reduceToInt, zc_1000, zc_100, zc_10, zc_9, zc_2, ci_f, hM, ms_19 e, ms_20 e, mR_49, aLen_349, aCod_349, ma_49 e, mR_50, aLen_350, aCod_350, ma_50 e, mR_51, aLen_351, aCod_351, ma_51 e, mR_52, aLen_352, aCod_352, ma_52 e, mR_53, aLen_353, aCod_353, ma_53 e, mR_54, aLen_354, aCod_354, mb_54 e, mR_55, aLen_355, aCod_355, ma_55 e, mR_56, aLen_356, aCod_356, ma_56 e, inv.cL.s, inv.cF.s]
  refine ⟨fun qc1 => ?_, fun qc1 => ?_⟩
  · try simp only [b2_0, Classical.not_not] at qc1
    try simp only [Int64.le_iff_toInt_le, Int64.lt_iff_toInt_lt, Int32.lt_iff_toInt_lt, Int32.le_iff_toInt_le, Int32.toInt_toInt64, Int64.reduceToInt, Int32.reduceToInt, Int.reduceNeg, Classical.not_not, i32e, l_add] at qc1
    refine st b_X12_writes_9 _ _ k_X12_writes_9 _ _ _ _ _ ?_
    simp only [b_X12_writes_9, zr_aload_n0, zr_bipush, zr_cP_lt, zr_cP_ne, zr_call0, zr_get2, zr_iald, zr_icmp, zr_ifc, zr_iload, zr_iload_n2, zr_istore, zr_nil, zr_cons, ↓reduceIte, Nat.reduceAdd, Nat.reduceEqDiff, Nat.reduceLeDiff, Nat.reduceMul, Nat.reduceSub, Int32.reduceOfInt, Int64.reduceOfInt, Int64.reduceOfNat, true_and, and_true, false_and, and_false, or_false, false_or, true_or, or_true, Int.reduceEq, reduceCtorEq, or_self, and_self, ne_eq, not_false_eq_true, not_true_eq_false, eq_self, Nat.le_refl, Nat.zero_le, zr_eI, zr_eL, zr_eR, zr_pI, zr_pL, zr_pR, zr_pO, zr_pV, zq_pA0, zq_pA, zr_get, zr_put_n, zr_put, zr_rem_n, zr_rem, zr_cat_i, zr_cat_l, zr_cat_q, zr_w_n, zr_w, zr_args_n, zr_args, zr_tl_s, zr_tl_n, zr_hIsI, zr_hLsL, zr_hRsR, zr_hIsL, zr_hIsR, zr_hLsI, zr_hLsR, zr_hRsI, zr_hRsL, zr_hNsI, zr_hNsL, zr_hNsR, zr_hZsI, zr_hZsL, zr_hZsR, b2_01, Classical.not_not, Int32.toInt_toInt64, Int64.reduceToInt, zc_1000, zc_100, zc_10, zc_9, zc_2, ci_f, hM, ms_19 e, ms_20 e, mR_49, aLen_349, aCod_349, ma_49 e, mR_50, aLen_350, aCod_350, ma_50 e, mR_51, aLen_351, aCod_351, ma_51 e, mR_52, aLen_352, aCod_352, ma_52 e, mR_53, aLen_353, aCod_353, ma_53 e, mR_54, aLen_354, aCod_354, mb_54 e, mR_55, aLen_355, aCod_355, ma_55 e, mR_56, aLen_356, aCod_356, ma_56 e, inv.cL.s, inv.cF.s]
    refine cp0 (by omega) lk_X12_221 (rc_14 rfl) (m_folioOf l G _ S _ e hM' inv _) (Nat.le_refl _) (Nat.le_refl _) ?_
    simp only [zr_aload_n0, zr_bipush, zr_cP_lt, zr_cP_ne, zr_get2, zr_iald, zr_icmp, zr_ifc, zr_iload, zr_istore, zr_nil, zr_cons, ↓reduceIte, Nat.reduceAdd, Nat.reduceEqDiff, Nat.reduceLeDiff, Nat.reduceMul, Nat.reduceSub, Int32.reduceOfInt, Int64.reduceOfInt, Int64.reduceOfNat, true_and, and_true, false_and, and_false, or_false, false_or, true_or, or_true, Int.reduceEq, reduceCtorEq, or_self, and_self, ne_eq, not_false_eq_true, not_true_eq_false, eq_self, Nat.le_refl, Nat.zero_le, zr_eI, zr_eL, zr_eR, zr_pI, zr_pL, zr_pR, zr_pO, zr_pV, zq_pA0, zq_pA, zr_get, zr_put_n, zr_put, zr_rem_n, zr_rem, zr_cat_i, zr_cat_l, zr_cat_q, zr_w_n, zr_w, zr_args_n, zr_args, zr_tl_s, zr_tl_n, zr_hIsI, zr_hLsL, zr_hRsR, zr_hIsL, zr_hIsR, zr_hLsI, zr_hLsR, zr_hRsI, zr_hRsL, zr_hNsI, zr_hNsL, zr_hNsR, zr_hZsI, zr_hZsL, zr_hZsR, b2_01, Classical.not_not, Int32.toInt_toInt64, Int64.reduceToInt, zc_1000, zc_100, zc_10, zc_9, zc_2, ci_f, hM, ms_19 e, ms_20 e, mR_49, aLen_349, aCod_349, ma_49 e, mR_50, aLen_350, aCod_350, ma_50 e, mR_51, aLen_351, aCod_351, ma_51 e, mR_52, aLen_352, aCod_352, ma_52 e, mR_53, aLen_353, aCod_353, ma_53 e, mR_54, aLen_354, aCod_354, mb_54 e, mR_55, aLen_355, aCod_355, ma_55 e, mR_56, aLen_356, aCod_356, ma_56 e, inv.cL.s, inv.cF.s]
    refine ⟨fun qc2 => ?_, fun qc2 => ?_⟩
    · try simp only [b2_0, Classical.not_not] at qc2
      try simp only [Int64.le_iff_toInt_le, Int64.lt_iff_toInt_lt, Int32.lt_iff_toInt_lt, Int32.le_iff_toInt_le, Int32.toInt_toInt64, Int64.reduceToInt, Int32.reduceToInt, Int.reduceNeg, Classical.not_not, i32e, l_add] at qc2
      refine st b_X12_writes_33 _ _ k_X12_writes_33 _ _ _ _ _ ?_
      simp only [b_X12_writes_33, zr_aload_n0, zr_dup, zr_get0, zr_get2, zr_iadd, zr_iast, zr_iconst, zr_iload, zr_iload_n2, zr_istore, zr_put0, zr_nil, zr_cons, ↓reduceIte, Nat.reduceAdd, Nat.reduceEqDiff, Nat.reduceLeDiff, Nat.reduceMul, Nat.reduceSub, Int32.reduceOfInt, Int64.reduceOfInt, Int64.reduceOfNat, true_and, and_true, false_and, and_false, or_false, false_or, true_or, or_true, Int.reduceEq, reduceCtorEq, or_self, and_self, ne_eq, not_false_eq_true, not_true_eq_false, eq_self, Nat.le_refl, Nat.zero_le, zr_eI, zr_eL, zr_eR, zr_pI, zr_pL, zr_pR, zr_pO, zr_pV, zq_pA0, zq_pA, zr_get, zr_put_n, zr_put, zr_rem_n, zr_rem, zr_cat_i, zr_cat_l, zr_cat_q, zr_w_n, zr_w, zr_args_n, zr_args, zr_tl_s, zr_tl_n, zr_hIsI, zr_hLsL, zr_hRsR, zr_hIsL, zr_hIsR, zr_hLsI, zr_hLsR, zr_hRsI, zr_hRsL, zr_hNsI, zr_hNsL, zr_hNsR, zr_hZsI, zr_hZsL, zr_hZsR, b2_01, Classical.not_not, Int32.toInt_toInt64, Int64.reduceToInt, zc_1000, zc_100, zc_10, zc_9, zc_2, ci_f, hM, ms_19 e, ms_20 e, mR_49, aLen_349, aCod_349, ma_49 e, mR_50, aLen_350, aCod_350, ma_50 e, mR_51, aLen_351, aCod_351, ma_51 e, mR_52, aLen_352, aCod_352, ma_52 e, mR_53, aLen_353, aCod_353, ma_53 e, mR_54, aLen_354, aCod_354, mb_54 e, mR_55, aLen_355, aCod_355, ma_55 e, mR_56, aLen_356, aCod_356, ma_56 e, inv.cL.s, inv.cF.s]
      refine ⟨by first | exact vpi (by omega) | exact vpi (by rw [nI_toInt (by omega)]; omega), ?_⟩
      refine ⟨by first | exact vpi (by omega) | exact vpi (by rw [nI_toInt (by omega)]; omega), ?_⟩
      refine st b_X12_writes_65 _ _ k_X12_writes_65 _ _ _ _ _ ?_
      simp only [b_X12_writes_65, zr_T, zr_aload_n0, zr_dup, zr_dup2, zr_get0, zr_get2, zr_iadd, zr_iald, zr_iast, zr_iconst, zr_iload, zr_iload_n1, zr_iload_n2, zr_iload_n3, zr_iret, zr_isub, zr_last, zr_lload, zr_put0, zr_rt_a, zr_rt_i, zr_rt_l, zr_rt_n, zr_rt_z, zr_nil, zr_cons, ↓reduceIte, Nat.reduceAdd, Nat.reduceEqDiff, Nat.reduceLeDiff, Nat.reduceMul, Nat.reduceSub, Int32.reduceOfInt, Int64.reduceOfInt, Int64.reduceOfNat, true_and, and_true, false_and, and_false, or_false, false_or, true_or, or_true, Int.reduceEq, reduceCtorEq, or_self, and_self, ne_eq, not_false_eq_true, not_true_eq_false, eq_self, Nat.le_refl, Nat.zero_le, zr_eI, zr_eL, zr_eR, zr_pI, zr_pL, zr_pR, zr_pO, zr_pV, zq_pA0, zq_pA, zr_get, zr_put_n, zr_put, zr_rem_n, zr_rem, zr_cat_i, zr_cat_l, zr_cat_q, zr_w_n, zr_w, zr_args_n, zr_args, zr_tl_s, zr_tl_n, zr_hIsI, zr_hLsL, zr_hRsR, zr_hIsL, zr_hIsR, zr_hLsI, zr_hLsR, zr_hRsI, zr_hRsL, zr_hNsI, zr_hNsL, zr_hNsR, zr_hZsI, zr_hZsL, zr_hZsR, b2_01, Classical.not_not, Int32.toInt_toInt64, Int64.reduceToInt, zc_1000, zc_100, zc_10, zc_9, zc_2, ci_f, hM, ms_19 e, ms_20 e, mR_49, aLen_349, aCod_349, ma_49 e, mR_50, aLen_350, aCod_350, ma_50 e, mR_51, aLen_351, aCod_351, ma_51 e, mR_52, aLen_352, aCod_352, ma_52 e, mR_53, aLen_353, aCod_353, ma_53 e, mR_54, aLen_354, aCod_354, mb_54 e, mR_55, aLen_355, aCod_355, ma_55 e, mR_56, aLen_356, aCod_356, ma_56 e, inv.cL.s, inv.cF.s]
      refine ⟨by first | exact vpi (by omega) | exact vpi (by rw [nI_toInt (by omega)]; omega), ?_⟩
      refine ⟨by first | exact vpi (by omega) | exact vpi (by rw [nI_toInt (by omega)]; omega), ?_⟩
      refine ⟨by first | exact vpi (by omega) | exact vpi (by rw [nI_toInt (by omega)]; omega), ?_⟩
      refine ⟨by first | exact vpi (by omega) | exact vpi (by rw [nI_toInt (by omega)]; omega), ?_⟩
      refine ⟨by first | exact vpi (by omega) | exact vpi (by rw [nI_toInt (by omega)]; omega), ?_⟩
      refine ⟨by first | exact vpi (by omega) | exact vpi (by rw [nI_toInt (by omega)]; omega), ?_⟩
      refine ⟨by first | exact vpi (by omega) | exact vpi (by rw [nI_toInt (by omega)]; omega), ?_⟩
      refine ⟨by first | exact vpi (by omega) | exact vpi (by rw [nI_toInt (by omega)]; omega), ?_⟩
      rw [nI_pred]
      refine qi' ?_ (by repeat (first | exact z_sC.rf | exact hsc | refine z_sC.I ?_ (by decide) | refine z_sC.L ?_ (by decide))) hM'
      simp only [mv_thr, mv_sLs, mv_moved, e, mw_19, mw_20, mx_49, mx_50, mx_51, mx_52, mx_53, my_54, mx_55, mx_56]
      unfold o_writes o_ff o_ln
      rw [if_neg qc1]
      first
        | rw [if_pos (by omega)]
        | rw [if_neg (by omega)]
      simp only [nL, nF, mS_uA, mS_uB, mS_uS, Nat.reduceEqDiff, ↓reduceIte, Int32.reduceAdd]
      try rw [show nI (ci (mS S 20)) = mS S 20 from inv.cF.1.symm]
    · try simp only [b2_0, Classical.not_not] at qc2
      try simp only [Int64.le_iff_toInt_le, Int64.lt_iff_toInt_lt, Int32.lt_iff_toInt_lt, Int32.le_iff_toInt_le, Int32.toInt_toInt64, Int64.reduceToInt, Int32.reduceToInt, Int.reduceNeg, Classical.not_not, i32e, l_add] at qc2
      refine ⟨by first | exact vpi (by omega) | exact vpi (by rw [nI_toInt (by omega)]; omega), ?_⟩
      refine ⟨fun qc3 => ?_, fun qc3 => ?_⟩
      · try simp only [b2_0, Classical.not_not] at qc3
        try simp only [Int64.le_iff_toInt_le, Int64.lt_iff_toInt_lt, Int32.lt_iff_toInt_lt, Int32.le_iff_toInt_le, Int32.toInt_toInt64, Int64.reduceToInt, Int32.reduceToInt, Int.reduceNeg, Classical.not_not, i32e, l_add] at qc3
        refine st b_X12_writes_65 _ _ k_X12_writes_65 _ _ _ _ _ ?_
        simp only [b_X12_writes_65, zr_T, zr_aload_n0, zr_dup, zr_dup2, zr_get0, zr_get2, zr_iadd, zr_iald, zr_iast, zr_iconst, zr_iload, zr_iload_n1, zr_iload_n2, zr_iload_n3, zr_iret, zr_isub, zr_last, zr_lload, zr_put0, zr_rt_a, zr_rt_i, zr_rt_l, zr_rt_n, zr_rt_z, zr_nil, zr_cons, ↓reduceIte, Nat.reduceAdd, Nat.reduceEqDiff, Nat.reduceLeDiff, Nat.reduceMul, Nat.reduceSub, Int32.reduceOfInt, Int64.reduceOfInt, Int64.reduceOfNat, true_and, and_true, false_and, and_false, or_false, false_or, true_or, or_true, Int.reduceEq, reduceCtorEq, or_self, and_self, ne_eq, not_false_eq_true, not_true_eq_false, eq_self, Nat.le_refl, Nat.zero_le, zr_eI, zr_eL, zr_eR, zr_pI, zr_pL, zr_pR, zr_pO, zr_pV, zq_pA0, zq_pA, zr_get, zr_put_n, zr_put, zr_rem_n, zr_rem, zr_cat_i, zr_cat_l, zr_cat_q, zr_w_n, zr_w, zr_args_n, zr_args, zr_tl_s, zr_tl_n, zr_hIsI, zr_hLsL, zr_hRsR, zr_hIsL, zr_hIsR, zr_hLsI, zr_hLsR, zr_hRsI, zr_hRsL, zr_hNsI, zr_hNsL, zr_hNsR, zr_hZsI, zr_hZsL, zr_hZsR, b2_01, Classical.not_not, Int32.toInt_toInt64, Int64.reduceToInt, zc_1000, zc_100, zc_10, zc_9, zc_2, ci_f, hM, ms_19 e, ms_20 e, mR_49, aLen_349, aCod_349, ma_49 e, mR_50, aLen_350, aCod_350, ma_50 e, mR_51, aLen_351, aCod_351, ma_51 e, mR_52, aLen_352, aCod_352, ma_52 e, mR_53, aLen_353, aCod_353, ma_53 e, mR_54, aLen_354, aCod_354, mb_54 e, mR_55, aLen_355, aCod_355, ma_55 e, mR_56, aLen_356, aCod_356, ma_56 e, inv.cL.s, inv.cF.s]
        refine ⟨by first | exact vpi (by omega) | exact vpi (by rw [nI_toInt (by omega)]; omega), ?_⟩
        refine ⟨by first | exact vpi (by omega) | exact vpi (by rw [nI_toInt (by omega)]; omega), ?_⟩
        refine ⟨by first | exact vpi (by omega) | exact vpi (by rw [nI_toInt (by omega)]; omega), ?_⟩
        refine ⟨by first | exact vpi (by omega) | exact vpi (by rw [nI_toInt (by omega)]; omega), ?_⟩
        refine ⟨by first | exact vpi (by omega) | exact vpi (by rw [nI_toInt (by omega)]; omega), ?_⟩
        refine ⟨by first | exact vpi (by omega) | exact vpi (by rw [nI_toInt (by omega)]; omega), ?_⟩
        refine ⟨by first | exact vpi (by omega) | exact vpi (by rw [nI_toInt (by omega)]; omega), ?_⟩
        refine ⟨by first | exact vpi (by omega) | exact vpi (by rw [nI_toInt (by omega)]; omega), ?_⟩
        rw [nI_pred]
        refine qi' ?_ (by repeat (first | exact z_sC.rf | exact hsc | refine z_sC.I ?_ (by decide) | refine z_sC.L ?_ (by decide))) hM'
        simp only [mv_thr, mv_sLs, mv_moved, e, mw_19, mw_20, mx_49, mx_50, mx_51, mx_52, mx_53, my_54, mx_55, mx_56]
        unfold o_writes o_ff o_ln
        rw [if_neg qc1]
        first
          | rw [if_pos (by omega)]
          | rw [if_neg (by omega)]
        simp only [nL, nF, mS_uA, mS_uB, mS_uS, Nat.reduceEqDiff, ↓reduceIte, Int32.reduceAdd]
        try rw [show nI (ci (mS S 20)) = mS S 20 from inv.cF.1.symm]
      · try simp only [b2_0, Classical.not_not] at qc3
        try simp only [Int64.le_iff_toInt_le, Int64.lt_iff_toInt_lt, Int32.lt_iff_toInt_lt, Int32.le_iff_toInt_le, Int32.toInt_toInt64, Int64.reduceToInt, Int32.reduceToInt, Int.reduceNeg, Classical.not_not, i32e, l_add] at qc3
        refine st b_X12_writes_33 _ _ k_X12_writes_33 _ _ _ _ _ ?_
        simp only [b_X12_writes_33, zr_aload_n0, zr_dup, zr_get0, zr_get2, zr_iadd, zr_iast, zr_iconst, zr_iload, zr_iload_n2, zr_istore, zr_put0, zr_nil, zr_cons, ↓reduceIte, Nat.reduceAdd, Nat.reduceEqDiff, Nat.reduceLeDiff, Nat.reduceMul, Nat.reduceSub, Int32.reduceOfInt, Int64.reduceOfInt, Int64.reduceOfNat, true_and, and_true, false_and, and_false, or_false, false_or, true_or, or_true, Int.reduceEq, reduceCtorEq, or_self, and_self, ne_eq, not_false_eq_true, not_true_eq_false, eq_self, Nat.le_refl, Nat.zero_le, zr_eI, zr_eL, zr_eR, zr_pI, zr_pL, zr_pR, zr_pO, zr_pV, zq_pA0, zq_pA, zr_get, zr_put_n, zr_put, zr_rem_n, zr_rem, zr_cat_i, zr_cat_l, zr_cat_q, zr_w_n, zr_w, zr_args_n, zr_args, zr_tl_s, zr_tl_n, zr_hIsI, zr_hLsL, zr_hRsR, zr_hIsL, zr_hIsR, zr_hLsI, zr_hLsR, zr_hRsI, zr_hRsL, zr_hNsI, zr_hNsL, zr_hNsR, zr_hZsI, zr_hZsL, zr_hZsR, b2_01, Classical.not_not, Int32.toInt_toInt64, Int64.reduceToInt, zc_1000, zc_100, zc_10, zc_9, zc_2, ci_f, hM, ms_19 e, ms_20 e, mR_49, aLen_349, aCod_349, ma_49 e, mR_50, aLen_350, aCod_350, ma_50 e, mR_51, aLen_351, aCod_351, ma_51 e, mR_52, aLen_352, aCod_352, ma_52 e, mR_53, aLen_353, aCod_353, ma_53 e, mR_54, aLen_354, aCod_354, mb_54 e, mR_55, aLen_355, aCod_355, ma_55 e, mR_56, aLen_356, aCod_356, ma_56 e, inv.cL.s, inv.cF.s]
        refine ⟨by first | exact vpi (by omega) | exact vpi (by rw [nI_toInt (by omega)]; omega), ?_⟩
        refine ⟨by first | exact vpi (by omega) | exact vpi (by rw [nI_toInt (by omega)]; omega), ?_⟩
        refine st b_X12_writes_65 _ _ k_X12_writes_65 _ _ _ _ _ ?_
        simp only [b_X12_writes_65, zr_T, zr_aload_n0, zr_dup, zr_dup2, zr_get0, zr_get2, zr_iadd, zr_iald, zr_iast, zr_iconst, zr_iload, zr_iload_n1, zr_iload_n2, zr_iload_n3, zr_iret, zr_isub, zr_last, zr_lload, zr_put0, zr_rt_a, zr_rt_i, zr_rt_l, zr_rt_n, zr_rt_z, zr_nil, zr_cons, ↓reduceIte, Nat.reduceAdd, Nat.reduceEqDiff, Nat.reduceLeDiff, Nat.reduceMul, Nat.reduceSub, Int32.reduceOfInt, Int64.reduceOfInt, Int64.reduceOfNat, true_and, and_true, false_and, and_false, or_false, false_or, true_or, or_true, Int.reduceEq, reduceCtorEq, or_self, and_self, ne_eq, not_false_eq_true, not_true_eq_false, eq_self, Nat.le_refl, Nat.zero_le, zr_eI, zr_eL, zr_eR, zr_pI, zr_pL, zr_pR, zr_pO, zr_pV, zq_pA0, zq_pA, zr_get, zr_put_n, zr_put, zr_rem_n, zr_rem, zr_cat_i, zr_cat_l, zr_cat_q, zr_w_n, zr_w, zr_args_n, zr_args, zr_tl_s, zr_tl_n, zr_hIsI, zr_hLsL, zr_hRsR, zr_hIsL, zr_hIsR, zr_hLsI, zr_hLsR, zr_hRsI, zr_hRsL, zr_hNsI, zr_hNsL, zr_hNsR, zr_hZsI, zr_hZsL, zr_hZsR, b2_01, Classical.not_not, Int32.toInt_toInt64, Int64.reduceToInt, zc_1000, zc_100, zc_10, zc_9, zc_2, ci_f, hM, ms_19 e, ms_20 e, mR_49, aLen_349, aCod_349, ma_49 e, mR_50, aLen_350, aCod_350, ma_50 e, mR_51, aLen_351, aCod_351, ma_51 e, mR_52, aLen_352, aCod_352, ma_52 e, mR_53, aLen_353, aCod_353, ma_53 e, mR_54, aLen_354, aCod_354, mb_54 e, mR_55, aLen_355, aCod_355, ma_55 e, mR_56, aLen_356, aCod_356, ma_56 e, inv.cL.s, inv.cF.s]
        refine ⟨by first | exact vpi (by omega) | exact vpi (by rw [nI_toInt (by omega)]; omega), ?_⟩
        refine ⟨by first | exact vpi (by omega) | exact vpi (by rw [nI_toInt (by omega)]; omega), ?_⟩
        refine ⟨by first | exact vpi (by omega) | exact vpi (by rw [nI_toInt (by omega)]; omega), ?_⟩
        refine ⟨by first | exact vpi (by omega) | exact vpi (by rw [nI_toInt (by omega)]; omega), ?_⟩
        refine ⟨by first | exact vpi (by omega) | exact vpi (by rw [nI_toInt (by omega)]; omega), ?_⟩
        refine ⟨by first | exact vpi (by omega) | exact vpi (by rw [nI_toInt (by omega)]; omega), ?_⟩
        refine ⟨by first | exact vpi (by omega) | exact vpi (by rw [nI_toInt (by omega)]; omega), ?_⟩
        refine ⟨by first | exact vpi (by omega) | exact vpi (by rw [nI_toInt (by omega)]; omega), ?_⟩
        rw [nI_pred]
        refine qi' ?_ (by repeat (first | exact z_sC.rf | exact hsc | refine z_sC.I ?_ (by decide) | refine z_sC.L ?_ (by decide))) hM'
        simp only [mv_thr, mv_sLs, mv_moved, e, mw_19, mw_20, mx_49, mx_50, mx_51, mx_52, mx_53, my_54, mx_55, mx_56]
        unfold o_writes o_ff o_ln
        rw [if_neg qc1]
        first
          | rw [if_pos (by omega)]
          | rw [if_neg (by omega)]
        simp only [nL, nF, mS_uA, mS_uB, mS_uS, Nat.reduceEqDiff, ↓reduceIte, Int32.reduceAdd]
        try rw [show nI (ci (mS S 20)) = mS S 20 from inv.cF.1.symm]
  · try simp only [b2_0, Classical.not_not] at qc1
    try simp only [Int64.le_iff_toInt_le, Int64.lt_iff_toInt_lt, Int32.lt_iff_toInt_lt, Int32.le_iff_toInt_le, Int32.toInt_toInt64, Int64.reduceToInt, Int32.reduceToInt, Int.reduceNeg, Classical.not_not, i32e, l_add] at qc1
    refine qi' ?_ (by repeat (first | exact z_sC.rf | exact hsc | refine z_sC.I ?_ (by decide) | refine z_sC.L ?_ (by decide))) hM'
    simp only [mv_thr, e]
    unfold o_writes
    rw [if_pos qc1]
theorem m_pays (l : Launch) (G : z_G) (d : Nat) (hd : 2 ≤ d) (S : z_M) (h : z_H) (e : mv h = S) (hM : z_MR h) (inv : INV S) (a : Int32) (sum : Int64) (ha : isx a (nA S)) (hr : nL S < 2000) : z_MT l G d yX12_pays cX12_pays 5 none [z_r 14 0, z_i a, z_l sum] h 0 0 (Qv h (o_pays S a sum)) := by
  have hM' := hM
  unfold z_MR at hM
  have huA : nA S = ci (mS S 16) := rfl
  have htA := inv.cA.t
  have hbA := inv.cA.2
  have hpA : (mS S 16 - 1).toInt = (ci (mS S 16) : Int) - 1 := by
    rw [sub32 (by rw [htA, show (1 : Int32).toInt = 1 from rfl]; omega) (by rw [htA, show (1 : Int32).toInt = 1 from rfl]; omega), htA]
    rfl
  refine z_mt2 14 false ⟨by decide, rfl, fun q => absurd q (by decide)⟩ (by show 4 ≤ 5; decide) (fun A st wk => ?_)
  refine st b_X12_pays_0 _ _ k_X12_pays_0 _ _ _ _ _ ?_
  simp only [b_X12_pays_0, zr_T, zr_aload_n0, zr_call0, zr_dup2, zr_get0, zr_get2, zr_iconst, zr_iload_n1, zr_istore, zr_lald, zr_last, zr_lload_n2, zr_lsub, zr_ret, zr_rt_a, zr_rt_i, zr_rt_l, zr_rt_n, zr_rt_z, zr_nil, zr_cons, ↓reduceIte, Nat.reduceAdd, Nat.reduceEqDiff, Nat.reduceLeDiff, Nat.reduceMul, Nat.reduceSub, Int32.reduceOfInt, Int64.reduceOfInt, Int64.reduceOfNat, true_and, and_true, false_and, and_false, or_false, false_or, true_or, or_true, Int.reduceEq, reduceCtorEq, or_self, and_self, ne_eq, not_false_eq_true, not_true_eq_false, eq_self, Nat.le_refl, Nat.zero_le, zr_eI, zr_eL, zr_eR, zr_pI, zr_pL, zr_pR, zr_pO, zr_pV, zq_pA0, zq_pA, zr_get, zr_put_n, zr_put, zr_rem_n, zr_rem, zr_cat_i, zr_cat_l, zr_cat_q, zr_w_n, zr_w, zr_args_n, zr_args, zr_tl_s, zr_tl_n, zr_hIsI, zr_hLsL, zr_hRsR, zr_hIsL, zr_hIsR, zr_hLsI, zr_hLsR, zr_hRsI, zr_hRsL, zr_hNsI, zr_hNsL, zr_hNsR, zr_hZsI, zr_hZsL, zr_hZsR, b2_01, Classical.not_not, Int32.toInt_toInt64, Int64.reduceToInt, zc_1000, zc_100, zc_10, zc_9, zc_2, ci_f, hM, ms_14 e, mR_27, aLen_327, aCod_327, mb_27 e]
  refine ⟨by first | exact vpi (by omega) | with_reducible exact vp_in_nI (by omega) (by omega), ?_⟩
  refine ⟨by first | exact vpi (by omega) | with_reducible exact vp_in_nI (by omega) (by omega), ?_⟩
  refine cpx (by omega) lk_X12_249 (rc_14 rfl) (m_writes l G _ (by omega) (uB S 27 (ci a) (mB S 27 (ci a) - sum)) _ (by simp only [my_27, e]) (by repeat (first | exact hM' | refine z_MR.I ?_ | refine z_MR.L ?_)) (inv_bal inv (ci_lt ha)) _ _ _ _ _ hr) (Nat.le_refl _) (Nat.le_refl _) (fun r1 h1 g1 => ?_)
  obtain ⟨rfl, e1, s1, M1⟩ := g1
  have hsc : z_sC h h1 := z_sC.tr (by repeat (first | exact z_sC.rf | exact hsc | refine z_sC.I ?_ (by decide) | refine z_sC.L ?_ (by decide))) s1
  have N1 := M1
  unfold z_MR at N1
  simp only [zr_T, zr_istore, zr_ret, zr_rt_a, zr_rt_i, zr_rt_l, zr_rt_n, zr_rt_z, zr_nil, zr_cons, ↓reduceIte, Nat.reduceAdd, Nat.reduceEqDiff, Nat.reduceLeDiff, Nat.reduceMul, Nat.reduceSub, Int32.reduceOfInt, Int64.reduceOfInt, Int64.reduceOfNat, true_and, and_true, false_and, and_false, or_false, false_or, true_or, or_true, Int.reduceEq, reduceCtorEq, or_self, and_self, ne_eq, not_false_eq_true, not_true_eq_false, eq_self, Nat.le_refl, Nat.zero_le, zr_eI, zr_eL, zr_eR, zr_pI, zr_pL, zr_pR, zr_pO, zr_pV, zq_pA0, zq_pA, zr_get, zr_put_n, zr_put, zr_rem_n, zr_rem, zr_cat_i, zr_cat_l, zr_cat_q, zr_w_n, zr_w, zr_args_n, zr_args, zr_tl_s, zr_tl_n, zr_hIsI, zr_hLsL, zr_hRsR, zr_hIsL, zr_hIsR, zr_hLsI, zr_hLsR, zr_hRsI, zr_hRsL, zr_hNsI, zr_hNsL, zr_hNsR, zr_hZsI, zr_hZsL, zr_hZsR, b2_01, Classical.not_not, Int32.toInt_toInt64, Int64.reduceToInt, zc_1000, zc_100, zc_10, zc_9, zc_2, ci_f, N1, ms_14 e1, mR_27, aLen_327, aCod_327, mb_27 e1]
  exact qv e1 hsc M1
theorem m_give (l : Launch) (G : z_G) (d : Nat) (hd : 3 ≤ d) (S : z_M) (h : z_H) (e : mv h = S) (hM : z_MR h) (inv : INV S) (r a : Int32) : z_MT l G d yX12_give cX12_give 3 (some .int) [z_r 14 0, z_i r, z_i a] h 0 0 (Qi h (o_give S r a)) := by
  have hM' := hM
  unfold z_MR at hM
  have huA : nA S = ci (mS S 16) := rfl
  have htA := inv.cA.t
  have hbA := inv.cA.2
  have hpA : (mS S 16 - 1).toInt = (ci (mS S 16) : Int) - 1 := by
    rw [sub32 (by rw [htA, show (1 : Int32).toInt = 1 from rfl]; omega) (by rw [htA, show (1 : Int32).toInt = 1 from rfl]; omega), htA]
    rfl
  have huR : nR S = ci (mS S 17) := rfl
  have htR := inv.cR.t
  have hbR := inv.cR.2
  have hpR : (mS S 17 - 1).toInt = (ci (mS S 17) : Int) - 1 := by
    rw [sub32 (by rw [htR, show (1 : Int32).toInt = 1 from rfl]; omega) (by rw [htR, show (1 : Int32).toInt = 1 from rfl]; omega), htR]
    rfl
  refine z_mt2 14 false ⟨by decide, rfl, fun q => absurd q (by decide)⟩ (by show 3 ≤ 3; decide) (fun A st wk => ?_)
  refine st b_X12_give_0 _ _ k_X12_give_0 _ _ _ _ _ ?_
  simp only [b_X12_give_0, zr_aload_n0, zr_cP_eq, zr_cP_ne, zr_call0, zr_iconst, zr_ifc, zr_iload_n1, zr_iload_n2, zr_put0, zr_nil, zr_cons, ↓reduceIte, Nat.reduceAdd, Nat.reduceEqDiff, Nat.reduceLeDiff, Nat.reduceMul, Nat.reduceSub, Int32.reduceOfInt, Int64.reduceOfInt, Int64.reduceOfNat, true_and, and_true, false_and, and_false, or_false, false_or, true_or, or_true, Int.reduceEq, reduceCtorEq, or_self, and_self, ne_eq, not_false_eq_true, not_true_eq_false, eq_self, Nat.le_refl, Nat.zero_le, zr_eI, zr_eL, zr_eR, zr_pI, zr_pL, zr_pR, zr_pO, zr_pV, zq_pA0, zq_pA, zr_get, zr_put_n, zr_put, zr_rem_n, zr_rem, zr_cat_i, zr_cat_l, zr_cat_q, zr_w_n, zr_w, zr_args_n, zr_args, zr_tl_s, zr_tl_n, zr_hIsI, zr_hLsL, zr_hRsR, zr_hIsL, zr_hIsR, zr_hLsI, zr_hLsR, zr_hRsI, zr_hRsL, zr_hNsI, zr_hNsL, zr_hNsR, zr_hZsI, zr_hZsL, zr_hZsR, b2_01, Classical.not_not, Int32.toInt_toInt64, Int64.reduceToInt, zc_1000, zc_100, zc_10, zc_9, zc_2, ci_f, hM, mR_30, aLen_330, aCod_330, ma_30 e]
  refine cp0 (by omega) lk_X12_253 (rc_14 rfl) (m_isOpen l G _ (by omega) S _ (by simp only [mv_thr, e]) (z_MR.I hM') inv _) (Nat.le_refl _) (Nat.le_refl _) ?_
  simp only [zr_aload_n0, zr_cP_eq, zr_cP_ne, zr_call0, zr_ifc, zr_iload_n2, zr_nil, zr_cons, ↓reduceIte, Nat.reduceAdd, Nat.reduceEqDiff, Nat.reduceLeDiff, Nat.reduceMul, Nat.reduceSub, Int32.reduceOfInt, Int64.reduceOfInt, Int64.reduceOfNat, true_and, and_true, false_and, and_false, or_false, false_or, true_or, or_true, Int.reduceEq, reduceCtorEq, or_self, and_self, ne_eq, not_false_eq_true, not_true_eq_false, eq_self, Nat.le_refl, Nat.zero_le, zr_eI, zr_eL, zr_eR, zr_pI, zr_pL, zr_pR, zr_pO, zr_pV, zq_pA0, zq_pA, zr_get, zr_put_n, zr_put, zr_rem_n, zr_rem, zr_cat_i, zr_cat_l, zr_cat_q, zr_w_n, zr_w, zr_args_n, zr_args, zr_tl_s, zr_tl_n, zr_hIsI, zr_hLsL, zr_hRsR, zr_hIsL, zr_hIsR, zr_hLsI, zr_hLsR, zr_hRsI, zr_hRsL, zr_hNsI, zr_hNsL, zr_hNsR, zr_hZsI, zr_hZsL, zr_hZsR, b2_01, Classical.not_not, Int32.toInt_toInt64, Int64.reduceToInt, zc_1000, zc_100, zc_10, zc_9, zc_2, ci_f, hM, mR_30, aLen_330, aCod_330, ma_30 e]
  refine ⟨fun qc1 => ?_, fun qc1 => ?_⟩
  · try simp only [b2_0, Classical.not_not] at qc1
    try simp only [Int64.le_iff_toInt_le, Int64.lt_iff_toInt_lt, Int32.lt_iff_toInt_lt, Int32.le_iff_toInt_le, Int32.toInt_toInt64, Int64.reduceToInt, Int32.reduceToInt, Int.reduceNeg, Classical.not_not, i32e, l_add] at qc1
    refine st b_X12_give_21 _ _ k_X12_give_21 _ _ _ _ _ ?_
    simp only [b_X12_give_21, zr_T, zr_bipush, zr_iret, zr_rt_a, zr_rt_i, zr_rt_l, zr_rt_n, zr_rt_z, zr_nil, zr_cons, ↓reduceIte, Nat.reduceAdd, Nat.reduceEqDiff, Nat.reduceLeDiff, Nat.reduceMul, Nat.reduceSub, Int32.reduceOfInt, Int64.reduceOfInt, Int64.reduceOfNat, true_and, and_true, false_and, and_false, or_false, false_or, true_or, or_true, Int.reduceEq, reduceCtorEq, or_self, and_self, ne_eq, not_false_eq_true, not_true_eq_false, eq_self, Nat.le_refl, Nat.zero_le, zr_eI, zr_eL, zr_eR, zr_pI, zr_pL, zr_pR, zr_pO, zr_pV, zq_pA0, zq_pA, zr_get, zr_put_n, zr_put, zr_rem_n, zr_rem, zr_cat_i, zr_cat_l, zr_cat_q, zr_w_n, zr_w, zr_args_n, zr_args, zr_tl_s, zr_tl_n, zr_hIsI, zr_hLsL, zr_hRsR, zr_hIsL, zr_hIsR, zr_hLsI, zr_hLsR, zr_hRsI, zr_hRsL, zr_hNsI, zr_hNsL, zr_hNsR, zr_hZsI, zr_hZsL, zr_hZsR, b2_01, Classical.not_not, Int32.toInt_toInt64, Int64.reduceToInt, zc_1000, zc_100, zc_10, zc_9, zc_2, ci_f, hM, mR_30, aLen_330, aCod_330, ma_30 e]
    refine qi' ?_ (by repeat (first | exact z_sC.rf | exact hsc | refine z_sC.I ?_ (by decide) | refine z_sC.L ?_ (by decide))) hM'
    simp only [mv_thr, mv_sLs, mv_moved, e, mx_30]
    unfold o_give
    (repeat' split) <;> (first | rfl | (exfalso; omega))
  · try simp only [b2_0, Classical.not_not] at qc1
    try simp only [Int64.le_iff_toInt_le, Int64.lt_iff_toInt_lt, Int32.lt_iff_toInt_lt, Int32.le_iff_toInt_le, Int32.toInt_toInt64, Int64.reduceToInt, Int32.reduceToInt, Int.reduceNeg, Classical.not_not, i32e, l_add] at qc1
    refine cp0 (by omega) lk_X12_205 (rc_14 rfl) (m_isAccount l G _ (by omega) S _ (by simp only [mv_thr, e]) (z_MR.I hM') inv _) (Nat.le_refl _) (Nat.le_refl _) ?_
    simp only [zr_cP_ne, zr_ifc, zr_nil, zr_cons, ↓reduceIte, Nat.reduceAdd, Nat.reduceEqDiff, Nat.reduceLeDiff, Nat.reduceMul, Nat.reduceSub, Int32.reduceOfInt, Int64.reduceOfInt, Int64.reduceOfNat, true_and, and_true, false_and, and_false, or_false, false_or, true_or, or_true, Int.reduceEq, reduceCtorEq, or_self, and_self, ne_eq, not_false_eq_true, not_true_eq_false, eq_self, Nat.le_refl, Nat.zero_le, zr_eI, zr_eL, zr_eR, zr_pI, zr_pL, zr_pR, zr_pO, zr_pV, zq_pA0, zq_pA, zr_get, zr_put_n, zr_put, zr_rem_n, zr_rem, zr_cat_i, zr_cat_l, zr_cat_q, zr_w_n, zr_w, zr_args_n, zr_args, zr_tl_s, zr_tl_n, zr_hIsI, zr_hLsL, zr_hRsR, zr_hIsL, zr_hIsR, zr_hLsI, zr_hLsR, zr_hRsI, zr_hRsL, zr_hNsI, zr_hNsL, zr_hNsR, zr_hZsI, zr_hZsL, zr_hZsR, b2_01, Classical.not_not, Int32.toInt_toInt64, Int64.reduceToInt, zc_1000, zc_100, zc_10, zc_9, zc_2, ci_f, hM, mR_30, aLen_330, aCod_330, ma_30 e]
    refine ⟨fun qc2 => ?_, fun qc2 => ?_⟩
    · try simp only [b2_0, Classical.not_not] at qc2
      try simp only [Int64.le_iff_toInt_le, Int64.lt_iff_toInt_lt, Int32.lt_iff_toInt_lt, Int32.le_iff_toInt_le, Int32.toInt_toInt64, Int64.reduceToInt, Int32.reduceToInt, Int.reduceNeg, Classical.not_not, i32e, l_add] at qc2
      refine st b_X12_give_24 _ _ k_X12_give_24 _ _ _ _ _ ?_
      simp only [b_X12_give_24, zr_T, zr_aload_n0, zr_get2, zr_iast, zr_iconst, zr_iload_n1, zr_iload_n2, zr_iret, zr_rt_a, zr_rt_i, zr_rt_l, zr_rt_n, zr_rt_z, zr_nil, zr_cons, ↓reduceIte, Nat.reduceAdd, Nat.reduceEqDiff, Nat.reduceLeDiff, Nat.reduceMul, Nat.reduceSub, Int32.reduceOfInt, Int64.reduceOfInt, Int64.reduceOfNat, true_and, and_true, false_and, and_false, or_false, false_or, true_or, or_true, Int.reduceEq, reduceCtorEq, or_self, and_self, ne_eq, not_false_eq_true, not_true_eq_false, eq_self, Nat.le_refl, Nat.zero_le, zr_eI, zr_eL, zr_eR, zr_pI, zr_pL, zr_pR, zr_pO, zr_pV, zq_pA0, zq_pA, zr_get, zr_put_n, zr_put, zr_rem_n, zr_rem, zr_cat_i, zr_cat_l, zr_cat_q, zr_w_n, zr_w, zr_args_n, zr_args, zr_tl_s, zr_tl_n, zr_hIsI, zr_hLsL, zr_hRsR, zr_hIsL, zr_hIsR, zr_hLsI, zr_hLsR, zr_hRsI, zr_hRsL, zr_hNsI, zr_hNsL, zr_hNsR, zr_hZsI, zr_hZsL, zr_hZsR, b2_01, Classical.not_not, Int32.toInt_toInt64, Int64.reduceToInt, zc_1000, zc_100, zc_10, zc_9, zc_2, ci_f, hM, mR_30, aLen_330, aCod_330, ma_30 e]
      refine ⟨by first | exact vpi (by omega) | with_reducible exact vp_in_nI (by omega) (by omega), ?_⟩
      refine qi' ?_ (by repeat (first | exact z_sC.rf | exact hsc | refine z_sC.I ?_ (by decide) | refine z_sC.L ?_ (by decide))) hM'
      simp only [mv_thr, mv_sLs, mv_moved, e, mx_30]
      unfold o_give
      (repeat' split) <;> (first | rfl | (exfalso; omega))
    · try simp only [b2_0, Classical.not_not] at qc2
      try simp only [Int64.le_iff_toInt_le, Int64.lt_iff_toInt_lt, Int32.lt_iff_toInt_lt, Int32.le_iff_toInt_le, Int32.toInt_toInt64, Int64.reduceToInt, Int32.reduceToInt, Int.reduceNeg, Classical.not_not, i32e, l_add] at qc2
      refine st b_X12_give_21 _ _ k_X12_give_21 _ _ _ _ _ ?_
      simp only [b_X12_give_21, zr_T, zr_bipush, zr_iret, zr_rt_a, zr_rt_i, zr_rt_l, zr_rt_n, zr_rt_z, zr_nil, zr_cons, ↓reduceIte, Nat.reduceAdd, Nat.reduceEqDiff, Nat.reduceLeDiff, Nat.reduceMul, Nat.reduceSub, Int32.reduceOfInt, Int64.reduceOfInt, Int64.reduceOfNat, true_and, and_true, false_and, and_false, or_false, false_or, true_or, or_true, Int.reduceEq, reduceCtorEq, or_self, and_self, ne_eq, not_false_eq_true, not_true_eq_false, eq_self, Nat.le_refl, Nat.zero_le, zr_eI, zr_eL, zr_eR, zr_pI, zr_pL, zr_pR, zr_pO, zr_pV, zq_pA0, zq_pA, zr_get, zr_put_n, zr_put, zr_rem_n, zr_rem, zr_cat_i, zr_cat_l, zr_cat_q, zr_w_n, zr_w, zr_args_n, zr_args, zr_tl_s, zr_tl_n, zr_hIsI, zr_hLsL, zr_hRsR, zr_hIsL, zr_hIsR, zr_hLsI, zr_hLsR, zr_hRsI, zr_hRsL, zr_hNsI, zr_hNsL, zr_hNsR, zr_hZsI, zr_hZsL, zr_hZsR, b2_01, Classical.not_not, Int32.toInt_toInt64, Int64.reduceToInt, zc_1000, zc_100, zc_10, zc_9, zc_2, ci_f, hM, mR_30, aLen_330, aCod_330, ma_30 e]
      refine qi' ?_ (by repeat (first | exact z_sC.rf | exact hsc | refine z_sC.I ?_ (by decide) | refine z_sC.L ?_ (by decide))) hM'
      simp only [mv_thr, mv_sLs, mv_moved, e, mx_30]
      unfold o_give
      (repeat' split) <;> (first | rfl | (exfalso; omega))
theorem m_prolong (l : Launch) (G : z_G) (d : Nat) (hd : 3 ≤ d) (S : z_M) (h : z_H) (e : mv h = S) (hM : z_MR h) (inv : INV S) (r : Int32) : z_MT l G d yX12_prolong cX12_prolong 4 (some .long) [z_r 14 0, z_i r] h 0 0 (Ql h (o_prolong S r)) := by
  have hM' := hM
  unfold z_MR at hM
  have huA : nA S = ci (mS S 16) := rfl
  have htA := inv.cA.t
  have hbA := inv.cA.2
  have hpA : (mS S 16 - 1).toInt = (ci (mS S 16) : Int) - 1 := by
    rw [sub32 (by rw [htA, show (1 : Int32).toInt = 1 from rfl]; omega) (by rw [htA, show (1 : Int32).toInt = 1 from rfl]; omega), htA]
    rfl
  have huR : nR S = ci (mS S 17) := rfl
  have htR := inv.cR.t
  have hbR := inv.cR.2
  have hpR : (mS S 17 - 1).toInt = (ci (mS S 17) : Int) - 1 := by
    rw [sub32 (by rw [htR, show (1 : Int32).toInt = 1 from rfl]; omega) (by rw [htR, show (1 : Int32).toInt = 1 from rfl]; omega), htR]
    rfl
  have huL : nL S = ci (mS S 19) := rfl
  have htL := inv.cL.t
  have hbL := inv.cL.2
  have hpL : (mS S 19 - 1).toInt = (ci (mS S 19) : Int) - 1 := by
    rw [sub32 (by rw [htL, show (1 : Int32).toInt = 1 from rfl]; omega) (by rw [htL, show (1 : Int32).toInt = 1 from rfl]; omega), htL]
    rfl
  have hrm : o_rm S = 2000 - nL S - 3 * o_wt (mA S 42) (nO S) := rfl
  have hrt := toIntS (show o_rm S < 2000000000 by omega)
  have hfee : mB S 36 (ci r) * (mS S 6).toInt64 / 1000 = o_fee S (ci r) := rfl
  refine z_mt2 14 false ⟨by decide, rfl, fun q => absurd q (by decide)⟩ (by show 2 ≤ 4; decide) (fun A st wk => ?_)
  refine st b_X12_prolong_0 _ _ k_X12_prolong_0 _ _ _ _ _ ?_
  simp only [b_X12_prolong_0, zr_T, zr_aload_n0, zr_cP_ne, zr_call0, zr_iconst, zr_ifc, zr_iload_n1, zr_ldc2, zr_lret, zr_put0, zr_rt_a, zr_rt_i, zr_rt_l, zr_rt_n, zr_rt_z, zr_nil, zr_cons, ↓reduceIte, Nat.reduceAdd, Nat.reduceEqDiff, Nat.reduceLeDiff, Nat.reduceMul, Nat.reduceSub, Int32.reduceOfInt, Int64.reduceOfInt, Int64.reduceOfNat, true_and, and_true, false_and, and_false, or_false, false_or, true_or, or_true, Int.reduceEq, reduceCtorEq, or_self, and_self, ne_eq, not_false_eq_true, not_true_eq_false, eq_self, Nat.le_refl, Nat.zero_le, zr_eI, zr_eL, zr_eR, zr_pI, zr_pL, zr_pR, zr_pO, zr_pV, zq_pA0, zq_pA, zr_get, zr_put_n, zr_put, zr_rem_n, zr_rem, zr_cat_i, zr_cat_l, zr_cat_q, zr_w_n, zr_w, zr_args_n, zr_args, zr_tl_s, zr_tl_n, zr_hIsI, zr_hLsL, zr_hRsR, zr_hIsL, zr_hIsR, zr_hLsI, zr_hLsR, zr_hRsI, zr_hRsL, zr_hNsI, zr_hNsL, zr_hNsR, zr_hZsI, zr_hZsL, zr_hZsR, b2_01, Classical.not_not, Int32.toInt_toInt64, Int64.reduceToInt, zc_1000, zc_100, zc_10, zc_9, zc_2, ci_f, hM, ms_6 e, ms_7 e, mR_27, aLen_327, aCod_327, mb_27 e, mR_30, aLen_330, aCod_330, ma_30 e, mR_33, aLen_333, aCod_333, ma_33 e, mR_36, aLen_336, aCod_336, mb_36 e, mt_64 e, hfee]
  refine cp0 (by omega) lk_X12_253 (rc_14 rfl) (m_isOpen l G _ (by omega) S _ (by simp only [mv_thr, e]) (z_MR.I hM') inv _) (Nat.le_refl _) (Nat.le_refl _) ?_
  simp only [zr_T, zr_cP_ne, zr_ifc, zr_ldc2, zr_lret, zr_rt_a, zr_rt_i, zr_rt_l, zr_rt_n, zr_rt_z, zr_nil, zr_cons, ↓reduceIte, Nat.reduceAdd, Nat.reduceEqDiff, Nat.reduceLeDiff, Nat.reduceMul, Nat.reduceSub, Int32.reduceOfInt, Int64.reduceOfInt, Int64.reduceOfNat, true_and, and_true, false_and, and_false, or_false, false_or, true_or, or_true, Int.reduceEq, reduceCtorEq, or_self, and_self, ne_eq, not_false_eq_true, not_true_eq_false, eq_self, Nat.le_refl, Nat.zero_le, zr_eI, zr_eL, zr_eR, zr_pI, zr_pL, zr_pR, zr_pO, zr_pV, zq_pA0, zq_pA, zr_get, zr_put_n, zr_put, zr_rem_n, zr_rem, zr_cat_i, zr_cat_l, zr_cat_q, zr_w_n, zr_w, zr_args_n, zr_args, zr_tl_s, zr_tl_n, zr_hIsI, zr_hLsL, zr_hRsR, zr_hIsL, zr_hIsR, zr_hLsI, zr_hLsR, zr_hRsI, zr_hRsL, zr_hNsI, zr_hNsL, zr_hNsR, zr_hZsI, zr_hZsL, zr_hZsR, b2_01, Classical.not_not, Int32.toInt_toInt64, Int64.reduceToInt, zc_1000, zc_100, zc_10, zc_9, zc_2, ci_f, hM, ms_6 e, ms_7 e, mR_27, aLen_327, aCod_327, mb_27 e, mR_30, aLen_330, aCod_330, ma_30 e, mR_33, aLen_333, aCod_333, ma_33 e, mR_36, aLen_336, aCod_336, mb_36 e, mt_64 e, hfee]
  refine ⟨fun qc1 => ?_, fun qc1 => ?_⟩
  · try simp only [b2_0, Classical.not_not] at qc1
    try simp only [Int64.le_iff_toInt_le, Int64.lt_iff_toInt_lt, Int32.lt_iff_toInt_lt, Int32.le_iff_toInt_le, Int32.toInt_toInt64, Int64.reduceToInt, Int32.reduceToInt, Int.reduceNeg, Classical.not_not, i32e, l_add] at qc1
    refine st b_X12_prolong_17 _ _ k_X12_prolong_17 _ _ _ _ _ ?_
    simp only [b_X12_prolong_17, lg_cmp_eq, lg_cmp_ge, lg_cmp_gt, lg_cmp_le, lg_cmp_lt, zr_T, zr_aload_n0, zr_cP_ge, zr_get0, zr_get2, zr_i2l, zr_iald, zr_ifc, zr_iload_n1, zr_lald, zr_lcmp, zr_ldc2, zr_ldiv, zr_lload_n2, zr_lmul, zr_lret, zr_lstore_n2, zr_rt_a, zr_rt_i, zr_rt_l, zr_rt_n, zr_rt_z, zr_nil, zr_cons, ↓reduceIte, Nat.reduceAdd, Nat.reduceEqDiff, Nat.reduceLeDiff, Nat.reduceMul, Nat.reduceSub, Int32.reduceOfInt, Int64.reduceOfInt, Int64.reduceOfNat, true_and, and_true, false_and, and_false, or_false, false_or, true_or, or_true, Int.reduceEq, reduceCtorEq, or_self, and_self, ne_eq, not_false_eq_true, not_true_eq_false, eq_self, Nat.le_refl, Nat.zero_le, zr_eI, zr_eL, zr_eR, zr_pI, zr_pL, zr_pR, zr_pO, zr_pV, zq_pA0, zq_pA, zr_get, zr_put_n, zr_put, zr_rem_n, zr_rem, zr_cat_i, zr_cat_l, zr_cat_q, zr_w_n, zr_w, zr_args_n, zr_args, zr_tl_s, zr_tl_n, zr_hIsI, zr_hLsL, zr_hRsR, zr_hIsL, zr_hIsR, zr_hLsI, zr_hLsR, zr_hRsI, zr_hRsL, zr_hNsI, zr_hNsL, zr_hNsR, zr_hZsI, zr_hZsL, zr_hZsR, b2_01, Classical.not_not, Int32.toInt_toInt64, Int64.reduceToInt, zc_1000, zc_100, zc_10, zc_9, zc_2, ci_f, hM, ms_6 e, ms_7 e, mR_27, aLen_327, aCod_327, mb_27 e, mR_30, aLen_330, aCod_330, ma_30 e, mR_33, aLen_333, aCod_333, ma_33 e, mR_36, aLen_336, aCod_336, mb_36 e, mt_64 e, hfee]
    have kr := ci_int (x := r) (by omega)
    have jr := inv.rec (ci r) (by omega)
    refine ⟨by first | exact vpi (by omega) | with_reducible exact vp_in_nI (by omega) (by omega), ?_⟩
    refine ⟨by first | exact vpi (by omega) | with_reducible exact vp_in_nI (by omega) (by omega), ?_⟩
    refine ⟨by first | exact vpi (by omega) | with_reducible exact vp_in_nI (by omega) (by omega), ?_⟩
    refine ⟨fun qc2 => ?_, fun qc2 => ?_⟩
    · try simp only [b2_0, Classical.not_not] at qc2
      try simp only [Int64.le_iff_toInt_le, Int64.lt_iff_toInt_lt, Int32.lt_iff_toInt_lt, Int32.le_iff_toInt_le, Int32.toInt_toInt64, Int64.reduceToInt, Int32.reduceToInt, Int.reduceNeg, Classical.not_not, i32e, l_add] at qc2
      refine st b_X12_prolong_54 _ _ k_X12_prolong_54 _ _ _ _ _ ?_
      simp only [b_X12_prolong_54, zr_T, zr_aload_n0, zr_cP_ge, zr_call0, zr_icmp, zr_iconst, zr_ldc2, zr_lret, zr_rt_a, zr_rt_i, zr_rt_l, zr_rt_n, zr_rt_z, zr_nil, zr_cons, ↓reduceIte, Nat.reduceAdd, Nat.reduceEqDiff, Nat.reduceLeDiff, Nat.reduceMul, Nat.reduceSub, Int32.reduceOfInt, Int64.reduceOfInt, Int64.reduceOfNat, true_and, and_true, false_and, and_false, or_false, false_or, true_or, or_true, Int.reduceEq, reduceCtorEq, or_self, and_self, ne_eq, not_false_eq_true, not_true_eq_false, eq_self, Nat.le_refl, Nat.zero_le, zr_eI, zr_eL, zr_eR, zr_pI, zr_pL, zr_pR, zr_pO, zr_pV, zq_pA0, zq_pA, zr_get, zr_put_n, zr_put, zr_rem_n, zr_rem, zr_cat_i, zr_cat_l, zr_cat_q, zr_w_n, zr_w, zr_args_n, zr_args, zr_tl_s, zr_tl_n, zr_hIsI, zr_hLsL, zr_hRsR, zr_hIsL, zr_hIsR, zr_hLsI, zr_hLsR, zr_hRsI, zr_hRsL, zr_hNsI, zr_hNsL, zr_hNsR, zr_hZsI, zr_hZsL, zr_hZsR, b2_01, Classical.not_not, Int32.toInt_toInt64, Int64.reduceToInt, zc_1000, zc_100, zc_10, zc_9, zc_2, ci_f, hM, ms_6 e, ms_7 e, mR_27, aLen_327, aCod_327, mb_27 e, mR_30, aLen_330, aCod_330, ma_30 e, mR_33, aLen_333, aCod_333, ma_33 e, mR_36, aLen_336, aCod_336, mb_36 e, mt_64 e, hfee]
      refine cp0 (by omega) lk_X12_231 (rc_14 rfl) (m_room l G _ S _ (by simp only [mv_thr, e]) (z_MR.I hM') inv) (Nat.le_refl _) (Nat.le_refl _) ?_
      simp only [zr_T, zr_cP_ge, zr_icmp, zr_iconst, zr_ldc2, zr_lret, zr_rt_a, zr_rt_i, zr_rt_l, zr_rt_n, zr_rt_z, zr_nil, zr_cons, ↓reduceIte, Nat.reduceAdd, Nat.reduceEqDiff, Nat.reduceLeDiff, Nat.reduceMul, Nat.reduceSub, Int32.reduceOfInt, Int64.reduceOfInt, Int64.reduceOfNat, true_and, and_true, false_and, and_false, or_false, false_or, true_or, or_true, Int.reduceEq, reduceCtorEq, or_self, and_self, ne_eq, not_false_eq_true, not_true_eq_false, eq_self, Nat.le_refl, Nat.zero_le, zr_eI, zr_eL, zr_eR, zr_pI, zr_pL, zr_pR, zr_pO, zr_pV, zq_pA0, zq_pA, zr_get, zr_put_n, zr_put, zr_rem_n, zr_rem, zr_cat_i, zr_cat_l, zr_cat_q, zr_w_n, zr_w, zr_args_n, zr_args, zr_tl_s, zr_tl_n, zr_hIsI, zr_hLsL, zr_hRsR, zr_hIsL, zr_hIsR, zr_hLsI, zr_hLsR, zr_hRsI, zr_hRsL, zr_hNsI, zr_hNsL, zr_hNsR, zr_hZsI, zr_hZsL, zr_hZsR, b2_01, Classical.not_not, Int32.toInt_toInt64, Int64.reduceToInt, zc_1000, zc_100, zc_10, zc_9, zc_2, ci_f, hM, ms_6 e, ms_7 e, mR_27, aLen_327, aCod_327, mb_27 e, mR_30, aLen_330, aCod_330, ma_30 e, mR_33, aLen_333, aCod_333, ma_33 e, mR_36, aLen_336, aCod_336, mb_36 e, mt_64 e, hfee]
      refine ⟨fun qc3 => ?_, fun qc3 => ?_⟩
      · try simp only [b2_0, Classical.not_not] at qc3
        try simp only [Int64.le_iff_toInt_le, Int64.lt_iff_toInt_lt, Int32.lt_iff_toInt_lt, Int32.le_iff_toInt_le, Int32.toInt_toInt64, Int64.reduceToInt, Int32.reduceToInt, Int.reduceNeg, Classical.not_not, i32e, l_add] at qc3
        refine st b_X12_prolong_66 _ _ k_X12_prolong_66 _ _ _ _ _ ?_
        simp only [b_X12_prolong_66, zr_T, zr_aload_n0, zr_call0, zr_dup, zr_dup2, zr_get0, zr_get1, zr_get2, zr_iadd, zr_iald, zr_iast, zr_iload_n1, zr_ladd, zr_lload_n2, zr_lret, zr_put1, zr_rt_a, zr_rt_i, zr_rt_l, zr_rt_n, zr_rt_z, zr_nil, zr_cons, ↓reduceIte, Nat.reduceAdd, Nat.reduceEqDiff, Nat.reduceLeDiff, Nat.reduceMul, Nat.reduceSub, Int32.reduceOfInt, Int64.reduceOfInt, Int64.reduceOfNat, true_and, and_true, false_and, and_false, or_false, false_or, true_or, or_true, Int.reduceEq, reduceCtorEq, or_self, and_self, ne_eq, not_false_eq_true, not_true_eq_false, eq_self, Nat.le_refl, Nat.zero_le, zr_eI, zr_eL, zr_eR, zr_pI, zr_pL, zr_pR, zr_pO, zr_pV, zq_pA0, zq_pA, zr_get, zr_put_n, zr_put, zr_rem_n, zr_rem, zr_cat_i, zr_cat_l, zr_cat_q, zr_w_n, zr_w, zr_args_n, zr_args, zr_tl_s, zr_tl_n, zr_hIsI, zr_hLsL, zr_hRsR, zr_hIsL, zr_hIsR, zr_hLsI, zr_hLsR, zr_hRsI, zr_hRsL, zr_hNsI, zr_hNsL, zr_hNsR, zr_hZsI, zr_hZsL, zr_hZsR, b2_01, Classical.not_not, Int32.toInt_toInt64, Int64.reduceToInt, zc_1000, zc_100, zc_10, zc_9, zc_2, ci_f, hM, ms_6 e, ms_7 e, mR_27, aLen_327, aCod_327, mb_27 e, mR_30, aLen_330, aCod_330, ma_30 e, mR_33, aLen_333, aCod_333, ma_33 e, mR_36, aLen_336, aCod_336, mb_36 e, mt_64 e, hfee]
        
        refine ⟨by first | exact vpi (by omega) | with_reducible exact vp_in_nI (by omega) (by omega), ?_⟩
        refine ⟨by first | exact vpi (by omega) | with_reducible exact vp_in_nI (by omega) (by omega), ?_⟩
        refine ⟨by first | exact vpi (by omega) | with_reducible exact vp_in_nI (by omega) (by omega), ?_⟩
        refine cpx (by omega) lk_X12_267 (rc_14 rfl) (m_pays l G _ (by omega) (uT (uA S 33 (ci r) (mA S 33 (ci r) + mS S 7)) 64 (mT S 64 + o_fee S (ci r))) _ (by simp only [mv_thr, mv_sLs, mv_moved, e, mw_6, mw_7, my_27, mx_30, mx_33, my_36]; try rfl) (by repeat (first | exact hM' | refine z_MR.I ?_ | refine z_MR.L ?_)) (inv_due inv) _ _ jr.1 (show nL S < 2000 by omega)) (Nat.le_refl _) (Nat.le_refl _) (fun r2 h2 g2 => ?_)
        obtain ⟨rfl, e2, s2, M2⟩ := g2
        have hsc : z_sC h h2 := z_sC.tr (by repeat (first | exact z_sC.rf | exact hsc | refine z_sC.I ?_ (by decide) | refine z_sC.L ?_ (by decide))) s2
        have N2 := M2
        unfold z_MR at N2
        simp only [zr_T, zr_lload_n2, zr_lret, zr_rt_a, zr_rt_i, zr_rt_l, zr_rt_n, zr_rt_z, zr_nil, zr_cons, ↓reduceIte, Nat.reduceAdd, Nat.reduceEqDiff, Nat.reduceLeDiff, Nat.reduceMul, Nat.reduceSub, Int32.reduceOfInt, Int64.reduceOfInt, Int64.reduceOfNat, true_and, and_true, false_and, and_false, or_false, false_or, true_or, or_true, Int.reduceEq, reduceCtorEq, or_self, and_self, ne_eq, not_false_eq_true, not_true_eq_false, eq_self, Nat.le_refl, Nat.zero_le, zr_eI, zr_eL, zr_eR, zr_pI, zr_pL, zr_pR, zr_pO, zr_pV, zq_pA0, zq_pA, zr_get, zr_put_n, zr_put, zr_rem_n, zr_rem, zr_cat_i, zr_cat_l, zr_cat_q, zr_w_n, zr_w, zr_args_n, zr_args, zr_tl_s, zr_tl_n, zr_hIsI, zr_hLsL, zr_hRsR, zr_hIsL, zr_hIsR, zr_hLsI, zr_hLsR, zr_hRsI, zr_hRsL, zr_hNsI, zr_hNsL, zr_hNsR, zr_hZsI, zr_hZsL, zr_hZsR, b2_01, Classical.not_not, Int32.toInt_toInt64, Int64.reduceToInt, zc_1000, zc_100, zc_10, zc_9, zc_2, ci_f, N2, ms_6 e2, ms_7 e2, mR_27, aLen_327, aCod_327, mb_27 e2, mR_30, aLen_330, aCod_330, ma_30 e2, mR_33, aLen_333, aCod_333, ma_33 e2, mR_36, aLen_336, aCod_336, mb_36 e2, mt_64 e2]
        refine ql ?_ e2 hsc M2
        unfold o_prolong
        (repeat' split) <;> (first | rfl | (exfalso; omega))
      · try simp only [b2_0, Classical.not_not] at qc3
        try simp only [Int64.le_iff_toInt_le, Int64.lt_iff_toInt_lt, Int32.lt_iff_toInt_lt, Int32.le_iff_toInt_le, Int32.toInt_toInt64, Int64.reduceToInt, Int32.reduceToInt, Int.reduceNeg, Classical.not_not, i32e, l_add] at qc3
        refine ql' ?_ (by repeat (first | exact z_sC.rf | exact hsc | refine z_sC.I ?_ (by decide) | refine z_sC.L ?_ (by decide))) hM'
        simp only [mv_thr, mv_sLs, mv_moved, e, mw_6, mw_7, my_27, mx_30, mx_33, my_36]
        unfold o_prolong
        (repeat' split) <;> (first | rfl | (exfalso; omega))
    · try simp only [b2_0, Classical.not_not] at qc2
      try simp only [Int64.le_iff_toInt_le, Int64.lt_iff_toInt_lt, Int32.lt_iff_toInt_lt, Int32.le_iff_toInt_le, Int32.toInt_toInt64, Int64.reduceToInt, Int32.reduceToInt, Int.reduceNeg, Classical.not_not, i32e, l_add] at qc2
      refine ql' ?_ (by repeat (first | exact z_sC.rf | exact hsc | refine z_sC.I ?_ (by decide) | refine z_sC.L ?_ (by decide))) hM'
      simp only [mv_thr, mv_sLs, mv_moved, e, mw_6, mw_7, my_27, mx_30, mx_33, my_36]
      unfold o_prolong
      (repeat' split) <;> (first | rfl | (exfalso; omega))
  · try simp only [b2_0, Classical.not_not] at qc1
    try simp only [Int64.le_iff_toInt_le, Int64.lt_iff_toInt_lt, Int32.lt_iff_toInt_lt, Int32.le_iff_toInt_le, Int32.toInt_toInt64, Int64.reduceToInt, Int32.reduceToInt, Int.reduceNeg, Classical.not_not, i32e, l_add] at qc1
    refine ql' ?_ (by repeat (first | exact z_sC.rf | exact hsc | refine z_sC.I ?_ (by decide) | refine z_sC.L ?_ (by decide))) hM'
    simp only [mv_thr, mv_sLs, mv_moved, e, mw_6, mw_7, my_27, mx_30, mx_33, my_36]
    unfold o_prolong
    (repeat' split) <;> (first | rfl | (exfalso; omega))
theorem m_redeem (l : Launch) (G : z_G) (d : Nat) (hd : 3 ≤ d) (S : z_M) (h : z_H) (e : mv h = S) (hM : z_MR h) (inv : INV S) (r : Int32) : z_MT l G d yX12_redeem cX12_redeem 5 (some .long) [z_r 14 0, z_i r] h 0 0 (Ql h (o_redeem S r)) := by
  have hM' := hM
  unfold z_MR at hM
  have huA : nA S = ci (mS S 16) := rfl
  have htA := inv.cA.t
  have hbA := inv.cA.2
  have hpA : (mS S 16 - 1).toInt = (ci (mS S 16) : Int) - 1 := by
    rw [sub32 (by rw [htA, show (1 : Int32).toInt = 1 from rfl]; omega) (by rw [htA, show (1 : Int32).toInt = 1 from rfl]; omega), htA]
    rfl
  have huR : nR S = ci (mS S 17) := rfl
  have htR := inv.cR.t
  have hbR := inv.cR.2
  have hpR : (mS S 17 - 1).toInt = (ci (mS S 17) : Int) - 1 := by
    rw [sub32 (by rw [htR, show (1 : Int32).toInt = 1 from rfl]; omega) (by rw [htR, show (1 : Int32).toInt = 1 from rfl]; omega), htR]
    rfl
  have huL : nL S = ci (mS S 19) := rfl
  have htL := inv.cL.t
  have hbL := inv.cL.2
  have hpL : (mS S 19 - 1).toInt = (ci (mS S 19) : Int) - 1 := by
    rw [sub32 (by rw [htL, show (1 : Int32).toInt = 1 from rfl]; omega) (by rw [htL, show (1 : Int32).toInt = 1 from rfl]; omega), htL]
    rfl
  have huK : nK S = ci (mS S 15) := rfl
  have htK := inv.cK.t
  have hbK := inv.cK.2
  have hpK : (mS S 15 - 1).toInt = (ci (mS S 15) : Int) - 1 := by
    rw [sub32 (by rw [htK, show (1 : Int32).toInt = 1 from rfl]; omega) (by rw [htK, show (1 : Int32).toInt = 1 from rfl]; omega), htK]
    rfl
  have hrm : o_rm S = 2000 - nL S - 3 * o_wt (mA S 42) (nO S) := rfl
  have hrt := toIntS (show o_rm S < 2000000000 by omega)
  have hfee : mB S 36 (ci r) * (mS S 6).toInt64 / 1000 = o_fee S (ci r) := rfl
  refine z_mt2 14 false ⟨by decide, rfl, fun q => absurd q (by decide)⟩ (by show 2 ≤ 5; decide) (fun A st wk => ?_)
  refine st b_X12_redeem_0 _ _ k_X12_redeem_0 _ _ _ _ _ ?_
  simp only [b_X12_redeem_0, zr_T, zr_aload_n0, zr_cP_ne, zr_call0, zr_iconst, zr_ifc, zr_iload_n1, zr_ldc2, zr_lret, zr_put0, zr_rt_a, zr_rt_i, zr_rt_l, zr_rt_n, zr_rt_z, zr_nil, zr_cons, ↓reduceIte, Nat.reduceAdd, Nat.reduceEqDiff, Nat.reduceLeDiff, Nat.reduceMul, Nat.reduceSub, Int32.reduceOfInt, Int64.reduceOfInt, Int64.reduceOfNat, true_and, and_true, false_and, and_false, or_false, false_or, true_or, or_true, Int.reduceEq, reduceCtorEq, or_self, and_self, ne_eq, not_false_eq_true, not_true_eq_false, eq_self, Nat.le_refl, Nat.zero_le, zr_eI, zr_eL, zr_eR, zr_pI, zr_pL, zr_pR, zr_pO, zr_pV, zq_pA0, zq_pA, zr_get, zr_put_n, zr_put, zr_rem_n, zr_rem, zr_cat_i, zr_cat_l, zr_cat_q, zr_w_n, zr_w, zr_args_n, zr_args, zr_tl_s, zr_tl_n, zr_hIsI, zr_hLsL, zr_hRsR, zr_hIsL, zr_hIsR, zr_hLsI, zr_hLsR, zr_hRsI, zr_hRsL, zr_hNsI, zr_hNsL, zr_hNsR, zr_hZsI, zr_hZsL, zr_hZsR, b2_01, Classical.not_not, Int32.toInt_toInt64, Int64.reduceToInt, zc_1000, zc_100, zc_10, zc_9, zc_2, ci_f, hM, ms_6 e, mR_25, aLen_325, aCod_325, mb_25 e, mR_26, aLen_326, aCod_326, mb_26 e, mR_27, aLen_327, aCod_327, mb_27 e, mR_30, aLen_330, aCod_330, ma_30 e, mR_31, aLen_331, aCod_331, ma_31 e, mR_32, aLen_332, aCod_332, ma_32 e, mR_34, aLen_334, aCod_334, ma_34 e, mR_35, aLen_335, aCod_335, mb_35 e, mR_36, aLen_336, aCod_336, mb_36 e, mt_64 e, hfee]
  refine cp0 (by omega) lk_X12_253 (rc_14 rfl) (m_isOpen l G _ (by omega) S _ (by simp only [mv_thr, e]) (z_MR.I hM') inv _) (Nat.le_refl _) (Nat.le_refl _) ?_
  simp only [zr_T, zr_cP_ne, zr_ifc, zr_ldc2, zr_lret, zr_rt_a, zr_rt_i, zr_rt_l, zr_rt_n, zr_rt_z, zr_nil, zr_cons, ↓reduceIte, Nat.reduceAdd, Nat.reduceEqDiff, Nat.reduceLeDiff, Nat.reduceMul, Nat.reduceSub, Int32.reduceOfInt, Int64.reduceOfInt, Int64.reduceOfNat, true_and, and_true, false_and, and_false, or_false, false_or, true_or, or_true, Int.reduceEq, reduceCtorEq, or_self, and_self, ne_eq, not_false_eq_true, not_true_eq_false, eq_self, Nat.le_refl, Nat.zero_le, zr_eI, zr_eL, zr_eR, zr_pI, zr_pL, zr_pR, zr_pO, zr_pV, zq_pA0, zq_pA, zr_get, zr_put_n, zr_put, zr_rem_n, zr_rem, zr_cat_i, zr_cat_l, zr_cat_q, zr_w_n, zr_w, zr_args_n, zr_args, zr_tl_s, zr_tl_n, zr_hIsI, zr_hLsL, zr_hRsR, zr_hIsL, zr_hIsR, zr_hLsI, zr_hLsR, zr_hRsI, zr_hRsL, zr_hNsI, zr_hNsL, zr_hNsR, zr_hZsI, zr_hZsL, zr_hZsR, b2_01, Classical.not_not, Int32.toInt_toInt64, Int64.reduceToInt, zc_1000, zc_100, zc_10, zc_9, zc_2, ci_f, hM, ms_6 e, mR_25, aLen_325, aCod_325, mb_25 e, mR_26, aLen_326, aCod_326, mb_26 e, mR_27, aLen_327, aCod_327, mb_27 e, mR_30, aLen_330, aCod_330, ma_30 e, mR_31, aLen_331, aCod_331, ma_31 e, mR_32, aLen_332, aCod_332, ma_32 e, mR_34, aLen_334, aCod_334, ma_34 e, mR_35, aLen_335, aCod_335, mb_35 e, mR_36, aLen_336, aCod_336, mb_36 e, mt_64 e, hfee]
  refine ⟨fun qc1 => ?_, fun qc1 => ?_⟩
  · try simp only [b2_0, Classical.not_not] at qc1
    try simp only [Int64.le_iff_toInt_le, Int64.lt_iff_toInt_lt, Int32.lt_iff_toInt_lt, Int32.le_iff_toInt_le, Int32.toInt_toInt64, Int64.reduceToInt, Int32.reduceToInt, Int.reduceNeg, Classical.not_not, i32e, l_add] at qc1
    refine st b_X12_redeem_17 _ _ k_X12_redeem_17 _ _ _ _ _ ?_
    simp only [b_X12_redeem_17, lg_cmp_eq, lg_cmp_ge, lg_cmp_gt, lg_cmp_le, lg_cmp_lt, zr_T, zr_aload_n0, zr_cP_ge, zr_get0, zr_get2, zr_i2l, zr_iald, zr_ifc, zr_iload_n1, zr_istore, zr_ladd, zr_lald, zr_lcmp, zr_ldc2, zr_ldiv, zr_lload_n2, zr_lmul, zr_lret, zr_lstore_n2, zr_rt_a, zr_rt_i, zr_rt_l, zr_rt_n, zr_rt_z, zr_nil, zr_cons, ↓reduceIte, Nat.reduceAdd, Nat.reduceEqDiff, Nat.reduceLeDiff, Nat.reduceMul, Nat.reduceSub, Int32.reduceOfInt, Int64.reduceOfInt, Int64.reduceOfNat, true_and, and_true, false_and, and_false, or_false, false_or, true_or, or_true, Int.reduceEq, reduceCtorEq, or_self, and_self, ne_eq, not_false_eq_true, not_true_eq_false, eq_self, Nat.le_refl, Nat.zero_le, zr_eI, zr_eL, zr_eR, zr_pI, zr_pL, zr_pR, zr_pO, zr_pV, zq_pA0, zq_pA, zr_get, zr_put_n, zr_put, zr_rem_n, zr_rem, zr_cat_i, zr_cat_l, zr_cat_q, zr_w_n, zr_w, zr_args_n, zr_args, zr_tl_s, zr_tl_n, zr_hIsI, zr_hLsL, zr_hRsR, zr_hIsL, zr_hIsR, zr_hLsI, zr_hLsR, zr_hRsI, zr_hRsL, zr_hNsI, zr_hNsL, zr_hNsR, zr_hZsI, zr_hZsL, zr_hZsR, b2_01, Classical.not_not, Int32.toInt_toInt64, Int64.reduceToInt, zc_1000, zc_100, zc_10, zc_9, zc_2, ci_f, hM, ms_6 e, mR_25, aLen_325, aCod_325, mb_25 e, mR_26, aLen_326, aCod_326, mb_26 e, mR_27, aLen_327, aCod_327, mb_27 e, mR_30, aLen_330, aCod_330, ma_30 e, mR_31, aLen_331, aCod_331, ma_31 e, mR_32, aLen_332, aCod_332, ma_32 e, mR_34, aLen_334, aCod_334, ma_34 e, mR_35, aLen_335, aCod_335, mb_35 e, mR_36, aLen_336, aCod_336, mb_36 e, mt_64 e, hfee]
    have kr := ci_int (x := r) (by omega)
    have jr := inv.rec (ci r) (by omega)
    refine ⟨by first | exact vpi (by omega) | with_reducible exact vp_in_nI (by omega) (by omega), ?_⟩
    refine ⟨by first | exact vpi (by omega) | with_reducible exact vp_in_nI (by omega) (by omega), ?_⟩
    refine ⟨by first | exact vpi (by omega) | with_reducible exact vp_in_nI (by omega) (by omega), ?_⟩
    refine ⟨by first | exact vpi (by omega) | with_reducible exact vp_in_nI (by omega) (by omega), ?_⟩
    refine ⟨by first | exact vpi (by omega) | with_reducible exact vp_in_nI (by omega) (by omega), ?_⟩
    refine ⟨fun qc2 => ?_, fun qc2 => ?_⟩
    · try simp only [b2_0, Classical.not_not] at qc2
      try simp only [Int64.le_iff_toInt_le, Int64.lt_iff_toInt_lt, Int32.lt_iff_toInt_lt, Int32.le_iff_toInt_le, Int32.toInt_toInt64, Int64.reduceToInt, Int32.reduceToInt, Int.reduceNeg, Classical.not_not, i32e, l_add] at qc2
      refine st b_X12_redeem_69 _ _ k_X12_redeem_69 _ _ _ _ _ ?_
      simp only [b_X12_redeem_69, zr_T, zr_aload_n0, zr_cP_ge, zr_call0, zr_icmp, zr_iconst, zr_ldc2, zr_lret, zr_rt_a, zr_rt_i, zr_rt_l, zr_rt_n, zr_rt_z, zr_nil, zr_cons, ↓reduceIte, Nat.reduceAdd, Nat.reduceEqDiff, Nat.reduceLeDiff, Nat.reduceMul, Nat.reduceSub, Int32.reduceOfInt, Int64.reduceOfInt, Int64.reduceOfNat, true_and, and_true, false_and, and_false, or_false, false_or, true_or, or_true, Int.reduceEq, reduceCtorEq, or_self, and_self, ne_eq, not_false_eq_true, not_true_eq_false, eq_self, Nat.le_refl, Nat.zero_le, zr_eI, zr_eL, zr_eR, zr_pI, zr_pL, zr_pR, zr_pO, zr_pV, zq_pA0, zq_pA, zr_get, zr_put_n, zr_put, zr_rem_n, zr_rem, zr_cat_i, zr_cat_l, zr_cat_q, zr_w_n, zr_w, zr_args_n, zr_args, zr_tl_s, zr_tl_n, zr_hIsI, zr_hLsL, zr_hRsR, zr_hIsL, zr_hIsR, zr_hLsI, zr_hLsR, zr_hRsI, zr_hRsL, zr_hNsI, zr_hNsL, zr_hNsR, zr_hZsI, zr_hZsL, zr_hZsR, b2_01, Classical.not_not, Int32.toInt_toInt64, Int64.reduceToInt, zc_1000, zc_100, zc_10, zc_9, zc_2, ci_f, hM, ms_6 e, mR_25, aLen_325, aCod_325, mb_25 e, mR_26, aLen_326, aCod_326, mb_26 e, mR_27, aLen_327, aCod_327, mb_27 e, mR_30, aLen_330, aCod_330, ma_30 e, mR_31, aLen_331, aCod_331, ma_31 e, mR_32, aLen_332, aCod_332, ma_32 e, mR_34, aLen_334, aCod_334, ma_34 e, mR_35, aLen_335, aCod_335, mb_35 e, mR_36, aLen_336, aCod_336, mb_36 e, mt_64 e, hfee]
      refine cp0 (by omega) lk_X12_231 (rc_14 rfl) (m_room l G _ S _ (by simp only [mv_thr, e]) (z_MR.I hM') inv) (Nat.le_refl _) (Nat.le_refl _) ?_
      simp only [zr_T, zr_cP_ge, zr_icmp, zr_iconst, zr_ldc2, zr_lret, zr_rt_a, zr_rt_i, zr_rt_l, zr_rt_n, zr_rt_z, zr_nil, zr_cons, ↓reduceIte, Nat.reduceAdd, Nat.reduceEqDiff, Nat.reduceLeDiff, Nat.reduceMul, Nat.reduceSub, Int32.reduceOfInt, Int64.reduceOfInt, Int64.reduceOfNat, true_and, and_true, false_and, and_false, or_false, false_or, true_or, or_true, Int.reduceEq, reduceCtorEq, or_self, and_self, ne_eq, not_false_eq_true, not_true_eq_false, eq_self, Nat.le_refl, Nat.zero_le, zr_eI, zr_eL, zr_eR, zr_pI, zr_pL, zr_pR, zr_pO, zr_pV, zq_pA0, zq_pA, zr_get, zr_put_n, zr_put, zr_rem_n, zr_rem, zr_cat_i, zr_cat_l, zr_cat_q, zr_w_n, zr_w, zr_args_n, zr_args, zr_tl_s, zr_tl_n, zr_hIsI, zr_hLsL, zr_hRsR, zr_hIsL, zr_hIsR, zr_hLsI, zr_hLsR, zr_hRsI, zr_hRsL, zr_hNsI, zr_hNsL, zr_hNsR, zr_hZsI, zr_hZsL, zr_hZsR, b2_01, Classical.not_not, Int32.toInt_toInt64, Int64.reduceToInt, zc_1000, zc_100, zc_10, zc_9, zc_2, ci_f, hM, ms_6 e, mR_25, aLen_325, aCod_325, mb_25 e, mR_26, aLen_326, aCod_326, mb_26 e, mR_27, aLen_327, aCod_327, mb_27 e, mR_30, aLen_330, aCod_330, ma_30 e, mR_31, aLen_331, aCod_331, ma_31 e, mR_32, aLen_332, aCod_332, ma_32 e, mR_34, aLen_334, aCod_334, ma_34 e, mR_35, aLen_335, aCod_335, mb_35 e, mR_36, aLen_336, aCod_336, mb_36 e, mt_64 e, hfee]
      refine ⟨fun qc3 => ?_, fun qc3 => ?_⟩
      · try simp only [b2_0, Classical.not_not] at qc3
        try simp only [Int64.le_iff_toInt_le, Int64.lt_iff_toInt_lt, Int32.lt_iff_toInt_lt, Int32.le_iff_toInt_le, Int32.toInt_toInt64, Int64.reduceToInt, Int32.reduceToInt, Int.reduceNeg, Classical.not_not, i32e, l_add] at qc3
        refine st b_X12_redeem_81 _ _ k_X12_redeem_81 _ _ _ _ _ ?_
        simp only [b_X12_redeem_81, lg_cmp_eq, lg_cmp_ge, lg_cmp_gt, lg_cmp_le, lg_cmp_lt, zr_aload_n0, zr_cP_ge, zr_cP_lt, zr_get2, zr_i2l, zr_iald, zr_ifc, zr_iload, zr_iload_n1, zr_lald, zr_lcmp, zr_nil, zr_cons, ↓reduceIte, Nat.reduceAdd, Nat.reduceEqDiff, Nat.reduceLeDiff, Nat.reduceMul, Nat.reduceSub, Int32.reduceOfInt, Int64.reduceOfInt, Int64.reduceOfNat, true_and, and_true, false_and, and_false, or_false, false_or, true_or, or_true, Int.reduceEq, reduceCtorEq, or_self, and_self, ne_eq, not_false_eq_true, not_true_eq_false, eq_self, Nat.le_refl, Nat.zero_le, zr_eI, zr_eL, zr_eR, zr_pI, zr_pL, zr_pR, zr_pO, zr_pV, zq_pA0, zq_pA, zr_get, zr_put_n, zr_put, zr_rem_n, zr_rem, zr_cat_i, zr_cat_l, zr_cat_q, zr_w_n, zr_w, zr_args_n, zr_args, zr_tl_s, zr_tl_n, zr_hIsI, zr_hLsL, zr_hRsR, zr_hIsL, zr_hIsR, zr_hLsI, zr_hLsR, zr_hRsI, zr_hRsL, zr_hNsI, zr_hNsL, zr_hNsR, zr_hZsI, zr_hZsL, zr_hZsR, b2_01, Classical.not_not, Int32.toInt_toInt64, Int64.reduceToInt, zc_1000, zc_100, zc_10, zc_9, zc_2, ci_f, hM, ms_6 e, mR_25, aLen_325, aCod_325, mb_25 e, mR_26, aLen_326, aCod_326, mb_26 e, mR_27, aLen_327, aCod_327, mb_27 e, mR_30, aLen_330, aCod_330, ma_30 e, mR_31, aLen_331, aCod_331, ma_31 e, mR_32, aLen_332, aCod_332, ma_32 e, mR_34, aLen_334, aCod_334, ma_34 e, mR_35, aLen_335, aCod_335, mb_35 e, mR_36, aLen_336, aCod_336, mb_36 e, mt_64 e, hfee]
        refine ⟨by first | exact vpi (by omega) | with_reducible exact vp_in_nI (by omega) (by omega), ?_⟩
        refine ⟨by first | exact vpi (by omega) | with_reducible exact vp_in_nI (by omega) (by omega), ?_⟩
        refine ⟨fun qc4 => ?_, fun qc4 => ?_⟩
        · try simp only [b2_0, Classical.not_not] at qc4
          try simp only [Int64.le_iff_toInt_le, Int64.lt_iff_toInt_lt, Int32.lt_iff_toInt_lt, Int32.le_iff_toInt_le, Int32.toInt_toInt64, Int64.reduceToInt, Int32.reduceToInt, Int.reduceNeg, Classical.not_not, i32e, l_add] at qc4
          refine st b_X12_redeem_116 _ _ k_X12_redeem_116 _ _ _ _ _ ?_
          simp only [b_X12_redeem_116, zr_T, zr_ldc2, zr_lret, zr_rt_a, zr_rt_i, zr_rt_l, zr_rt_n, zr_rt_z, zr_nil, zr_cons, ↓reduceIte, Nat.reduceAdd, Nat.reduceEqDiff, Nat.reduceLeDiff, Nat.reduceMul, Nat.reduceSub, Int32.reduceOfInt, Int64.reduceOfInt, Int64.reduceOfNat, true_and, and_true, false_and, and_false, or_false, false_or, true_or, or_true, Int.reduceEq, reduceCtorEq, or_self, and_self, ne_eq, not_false_eq_true, not_true_eq_false, eq_self, Nat.le_refl, Nat.zero_le, zr_eI, zr_eL, zr_eR, zr_pI, zr_pL, zr_pR, zr_pO, zr_pV, zq_pA0, zq_pA, zr_get, zr_put_n, zr_put, zr_rem_n, zr_rem, zr_cat_i, zr_cat_l, zr_cat_q, zr_w_n, zr_w, zr_args_n, zr_args, zr_tl_s, zr_tl_n, zr_hIsI, zr_hLsL, zr_hRsR, zr_hIsL, zr_hIsR, zr_hLsI, zr_hLsR, zr_hRsI, zr_hRsL, zr_hNsI, zr_hNsL, zr_hNsR, zr_hZsI, zr_hZsL, zr_hZsR, b2_01, Classical.not_not, Int32.toInt_toInt64, Int64.reduceToInt, zc_1000, zc_100, zc_10, zc_9, zc_2, ci_f, hM, ms_6 e, mR_25, aLen_325, aCod_325, mb_25 e, mR_26, aLen_326, aCod_326, mb_26 e, mR_27, aLen_327, aCod_327, mb_27 e, mR_30, aLen_330, aCod_330, ma_30 e, mR_31, aLen_331, aCod_331, ma_31 e, mR_32, aLen_332, aCod_332, ma_32 e, mR_34, aLen_334, aCod_334, ma_34 e, mR_35, aLen_335, aCod_335, mb_35 e, mR_36, aLen_336, aCod_336, mb_36 e, mt_64 e, hfee]
          refine ql' ?_ (by repeat (first | exact z_sC.rf | exact hsc | refine z_sC.I ?_ (by decide) | refine z_sC.L ?_ (by decide))) hM'
          simp only [mv_thr, mv_sLs, mv_moved, e, mw_6, my_25, my_26, my_27, mx_30, mx_31, mx_32, mx_34, my_35, my_36]
          unfold o_redeem
          (repeat' split) <;> (first | rfl | (exfalso; omega))
        · try simp only [b2_0, Classical.not_not] at qc4
          try simp only [Int64.le_iff_toInt_le, Int64.lt_iff_toInt_lt, Int32.lt_iff_toInt_lt, Int32.le_iff_toInt_le, Int32.toInt_toInt64, Int64.reduceToInt, Int32.reduceToInt, Int.reduceNeg, Classical.not_not, i32e, l_add] at qc4
          refine ⟨by first | exact vpi (by omega) | with_reducible exact vp_in_nI (by omega) (by omega), ?_⟩
          refine ⟨by first | exact vpi (by omega) | with_reducible exact vp_in_nI (by omega) (by omega), ?_⟩
          refine ⟨fun qc5 => ?_, fun qc5 => ?_⟩
          · try simp only [b2_0, Classical.not_not] at qc5
            try simp only [Int64.le_iff_toInt_le, Int64.lt_iff_toInt_lt, Int32.lt_iff_toInt_lt, Int32.le_iff_toInt_le, Int32.toInt_toInt64, Int64.reduceToInt, Int32.reduceToInt, Int.reduceNeg, Classical.not_not, i32e, l_add] at qc5
            refine st b_X12_redeem_120 _ _ k_X12_redeem_120 _ _ _ _ _ ?_
            simp only [b_X12_redeem_120, zr_T, zr_aload_n0, zr_call0, zr_dup, zr_dup2, zr_get1, zr_get2, zr_i2l, zr_iald, zr_iast, zr_iconst, zr_iload, zr_iload_n1, zr_ladd, zr_lald, zr_last, zr_lload_n2, zr_lret, zr_lsub, zr_put1, zr_rt_a, zr_rt_i, zr_rt_l, zr_rt_n, zr_rt_z, zr_nil, zr_cons, ↓reduceIte, Nat.reduceAdd, Nat.reduceEqDiff, Nat.reduceLeDiff, Nat.reduceMul, Nat.reduceSub, Int32.reduceOfInt, Int64.reduceOfInt, Int64.reduceOfNat, true_and, and_true, false_and, and_false, or_false, false_or, true_or, or_true, Int.reduceEq, reduceCtorEq, or_self, and_self, ne_eq, not_false_eq_true, not_true_eq_false, eq_self, Nat.le_refl, Nat.zero_le, zr_eI, zr_eL, zr_eR, zr_pI, zr_pL, zr_pR, zr_pO, zr_pV, zq_pA0, zq_pA, zr_get, zr_put_n, zr_put, zr_rem_n, zr_rem, zr_cat_i, zr_cat_l, zr_cat_q, zr_w_n, zr_w, zr_args_n, zr_args, zr_tl_s, zr_tl_n, zr_hIsI, zr_hLsL, zr_hRsR, zr_hIsL, zr_hIsR, zr_hLsI, zr_hLsR, zr_hRsI, zr_hRsL, zr_hNsI, zr_hNsL, zr_hNsR, zr_hZsI, zr_hZsL, zr_hZsR, b2_01, Classical.not_not, Int32.toInt_toInt64, Int64.reduceToInt, zc_1000, zc_100, zc_10, zc_9, zc_2, ci_f, hM, ms_6 e, mR_25, aLen_325, aCod_325, mb_25 e, mR_26, aLen_326, aCod_326, mb_26 e, mR_27, aLen_327, aCod_327, mb_27 e, mR_30, aLen_330, aCod_330, ma_30 e, mR_31, aLen_331, aCod_331, ma_31 e, mR_32, aLen_332, aCod_332, ma_32 e, mR_34, aLen_334, aCod_334, ma_34 e, mR_35, aLen_335, aCod_335, mb_35 e, mR_36, aLen_336, aCod_336, mb_36 e, mt_64 e, hfee]
            refine ⟨by first | exact vpi (by omega) | with_reducible exact vp_in_nI (by omega) (by omega), ?_⟩
            refine ⟨by first | exact vpi (by omega) | with_reducible exact vp_in_nI (by omega) (by omega), ?_⟩
            refine ⟨by first | exact vpi (by omega) | with_reducible exact vp_in_nI (by omega) (by omega), ?_⟩
            refine ⟨by first | exact vpi (by omega) | with_reducible exact vp_in_nI (by omega) (by omega), ?_⟩
            refine ⟨by first | exact vpi (by omega) | with_reducible exact vp_in_nI (by omega) (by omega), ?_⟩
            refine ⟨by first | exact vpi (by omega) | with_reducible exact vp_in_nI (by omega) (by omega), ?_⟩
            refine ⟨by first | exact vpi (by omega) | with_reducible exact vp_in_nI (by omega) (by omega), ?_⟩
            refine ⟨by first | exact vpi (by omega) | with_reducible exact vp_in_nI (by omega) (by omega), ?_⟩
            refine ⟨by first | exact vpi (by omega) | with_reducible exact vp_in_nI (by omega) (by omega), ?_⟩
            refine cpx (by omega) lk_X12_267 (rc_14 rfl) (m_pays l G _ (by omega) (uT (uA (uB (uB S 25 (ci (mA S 31 (ci r))) (mB S 25 (ci (mA S 31 (ci r))) - (mA S 32 (ci r)).toInt64)) 26 (ci (mA S 31 (ci r))) (mB S 26 (ci (mA S 31 (ci r))) - mB S 35 (ci r))) 34 (ci r) 1) 64 (mT S 64 + o_fee S (ci r))) _ (by simp only [mv_thr, mv_sLs, mv_moved, e, mw_6, my_25, my_26, my_27, mx_30, mx_31, mx_32, mx_34, my_35, my_36]; try rfl) (by repeat (first | exact hM' | refine z_MR.I ?_ | refine z_MR.L ?_)) (inv_rdm inv (by omega) (by omega)) _ _ jr.1 (show nL S < 2000 by omega)) (Nat.le_refl _) (Nat.le_refl _) (fun r3 h3 g3 => ?_)
            obtain ⟨rfl, e3, s3, M3⟩ := g3
            have hsc : z_sC h h3 := z_sC.tr (by repeat (first | exact z_sC.rf | exact hsc | refine z_sC.I ?_ (by decide) | refine z_sC.L ?_ (by decide))) s3
            have N3 := M3
            unfold z_MR at N3
            simp only [zr_T, zr_aload_n0, zr_get2, zr_iload_n1, zr_ladd, zr_lald, zr_lload_n2, zr_lret, zr_rt_a, zr_rt_i, zr_rt_l, zr_rt_n, zr_rt_z, zr_nil, zr_cons, ↓reduceIte, Nat.reduceAdd, Nat.reduceEqDiff, Nat.reduceLeDiff, Nat.reduceMul, Nat.reduceSub, Int32.reduceOfInt, Int64.reduceOfInt, Int64.reduceOfNat, true_and, and_true, false_and, and_false, or_false, false_or, true_or, or_true, Int.reduceEq, reduceCtorEq, or_self, and_self, ne_eq, not_false_eq_true, not_true_eq_false, eq_self, Nat.le_refl, Nat.zero_le, zr_eI, zr_eL, zr_eR, zr_pI, zr_pL, zr_pR, zr_pO, zr_pV, zq_pA0, zq_pA, zr_get, zr_put_n, zr_put, zr_rem_n, zr_rem, zr_cat_i, zr_cat_l, zr_cat_q, zr_w_n, zr_w, zr_args_n, zr_args, zr_tl_s, zr_tl_n, zr_hIsI, zr_hLsL, zr_hRsR, zr_hIsL, zr_hIsR, zr_hLsI, zr_hLsR, zr_hRsI, zr_hRsL, zr_hNsI, zr_hNsL, zr_hNsR, zr_hZsI, zr_hZsL, zr_hZsR, b2_01, Classical.not_not, Int32.toInt_toInt64, Int64.reduceToInt, zc_1000, zc_100, zc_10, zc_9, zc_2, ci_f, N3, ms_6 e3, mR_25, aLen_325, aCod_325, mb_25 e3, mR_26, aLen_326, aCod_326, mb_26 e3, mR_27, aLen_327, aCod_327, mb_27 e3, mR_30, aLen_330, aCod_330, ma_30 e3, mR_31, aLen_331, aCod_331, ma_31 e3, mR_32, aLen_332, aCod_332, ma_32 e3, mR_34, aLen_334, aCod_334, ma_34 e3, mR_35, aLen_335, aCod_335, mb_35 e3, mR_36, aLen_336, aCod_336, mb_36 e3, mt_64 e3]
            refine ⟨by first | exact vpi (by omega) | with_reducible exact vp_in_nI (by omega) (by omega), ?_⟩
            simp only [pays_B36]
            refine ql ?_ e3 hsc M3
            unfold o_redeem
            (repeat' split) <;> (first | rfl | (exfalso; omega))
          · try simp only [b2_0, Classical.not_not] at qc5
            try simp only [Int64.le_iff_toInt_le, Int64.lt_iff_toInt_lt, Int32.lt_iff_toInt_lt, Int32.le_iff_toInt_le, Int32.toInt_toInt64, Int64.reduceToInt, Int32.reduceToInt, Int.reduceNeg, Classical.not_not, i32e, l_add] at qc5
            refine st b_X12_redeem_116 _ _ k_X12_redeem_116 _ _ _ _ _ ?_
            simp only [b_X12_redeem_116, zr_T, zr_ldc2, zr_lret, zr_rt_a, zr_rt_i, zr_rt_l, zr_rt_n, zr_rt_z, zr_nil, zr_cons, ↓reduceIte, Nat.reduceAdd, Nat.reduceEqDiff, Nat.reduceLeDiff, Nat.reduceMul, Nat.reduceSub, Int32.reduceOfInt, Int64.reduceOfInt, Int64.reduceOfNat, true_and, and_true, false_and, and_false, or_false, false_or, true_or, or_true, Int.reduceEq, reduceCtorEq, or_self, and_self, ne_eq, not_false_eq_true, not_true_eq_false, eq_self, Nat.le_refl, Nat.zero_le, zr_eI, zr_eL, zr_eR, zr_pI, zr_pL, zr_pR, zr_pO, zr_pV, zq_pA0, zq_pA, zr_get, zr_put_n, zr_put, zr_rem_n, zr_rem, zr_cat_i, zr_cat_l, zr_cat_q, zr_w_n, zr_w, zr_args_n, zr_args, zr_tl_s, zr_tl_n, zr_hIsI, zr_hLsL, zr_hRsR, zr_hIsL, zr_hIsR, zr_hLsI, zr_hLsR, zr_hRsI, zr_hRsL, zr_hNsI, zr_hNsL, zr_hNsR, zr_hZsI, zr_hZsL, zr_hZsR, b2_01, Classical.not_not, Int32.toInt_toInt64, Int64.reduceToInt, zc_1000, zc_100, zc_10, zc_9, zc_2, ci_f, hM, ms_6 e, mR_25, aLen_325, aCod_325, mb_25 e, mR_26, aLen_326, aCod_326, mb_26 e, mR_27, aLen_327, aCod_327, mb_27 e, mR_30, aLen_330, aCod_330, ma_30 e, mR_31, aLen_331, aCod_331, ma_31 e, mR_32, aLen_332, aCod_332, ma_32 e, mR_34, aLen_334, aCod_334, ma_34 e, mR_35, aLen_335, aCod_335, mb_35 e, mR_36, aLen_336, aCod_336, mb_36 e, mt_64 e, hfee]
            refine ql' ?_ (by repeat (first | exact z_sC.rf | exact hsc | refine z_sC.I ?_ (by decide) | refine z_sC.L ?_ (by decide))) hM'
            simp only [mv_thr, mv_sLs, mv_moved, e, mw_6, my_25, my_26, my_27, mx_30, mx_31, mx_32, mx_34, my_35, my_36]
            unfold o_redeem
            (repeat' split) <;> (first | rfl | (exfalso; omega))
      · try simp only [b2_0, Classical.not_not] at qc3
        try simp only [Int64.le_iff_toInt_le, Int64.lt_iff_toInt_lt, Int32.lt_iff_toInt_lt, Int32.le_iff_toInt_le, Int32.toInt_toInt64, Int64.reduceToInt, Int32.reduceToInt, Int.reduceNeg, Classical.not_not, i32e, l_add] at qc3
        refine ql' ?_ (by repeat (first | exact z_sC.rf | exact hsc | refine z_sC.I ?_ (by decide) | refine z_sC.L ?_ (by decide))) hM'
        simp only [mv_thr, mv_sLs, mv_moved, e, mw_6, my_25, my_26, my_27, mx_30, mx_31, mx_32, mx_34, my_35, my_36]
        unfold o_redeem
        (repeat' split) <;> (first | rfl | (exfalso; omega))
    · try simp only [b2_0, Classical.not_not] at qc2
      try simp only [Int64.le_iff_toInt_le, Int64.lt_iff_toInt_lt, Int32.lt_iff_toInt_lt, Int32.le_iff_toInt_le, Int32.toInt_toInt64, Int64.reduceToInt, Int32.reduceToInt, Int.reduceNeg, Classical.not_not, i32e, l_add] at qc2
      refine ql' ?_ (by repeat (first | exact z_sC.rf | exact hsc | refine z_sC.I ?_ (by decide) | refine z_sC.L ?_ (by decide))) hM'
      simp only [mv_thr, mv_sLs, mv_moved, e, mw_6, my_25, my_26, my_27, mx_30, mx_31, mx_32, mx_34, my_35, my_36]
      unfold o_redeem
      (repeat' split) <;> (first | rfl | (exfalso; omega))
  · try simp only [b2_0, Classical.not_not] at qc1
    try simp only [Int64.le_iff_toInt_le, Int64.lt_iff_toInt_lt, Int32.lt_iff_toInt_lt, Int32.le_iff_toInt_le, Int32.toInt_toInt64, Int64.reduceToInt, Int32.reduceToInt, Int.reduceNeg, Classical.not_not, i32e, l_add] at qc1
    refine ql' ?_ (by repeat (first | exact z_sC.rf | exact hsc | refine z_sC.I ?_ (by decide) | refine z_sC.L ?_ (by decide))) hM'
    simp only [mv_thr, mv_sLs, mv_moved, e, mw_6, my_25, my_26, my_27, mx_30, mx_31, mx_32, mx_34, my_35, my_36]
    unfold o_redeem
    (repeat' split) <;> (first | rfl | (exfalso; omega))
set_option maxRecDepth 20000 in
theorem m_waits (l : Launch) (G : z_G) (d : Nat) (hd : 3 ≤ d) (S : z_M) (h : z_H) (e : mv h = S) (hM : z_MR h) (inv : INV S) (f t : Int32) (sum : Int64) (on hour signer : Int32) : z_MT l G d yX12_waits cX12_waits 8 (some .int) [z_r 14 0, z_i f, z_i t, z_l sum, z_i on, z_i hour, z_i signer] h 0 0 (Qi h (o_waits S f t sum on hour signer)) := by
  have hM' := hM
  unfold z_MR at hM
  have huA : nA S = ci (mS S 16) := rfl
  have htA := inv.cA.t
  have hbA := inv.cA.2
  have hpA : (mS S 16 - 1).toInt = (ci (mS S 16) : Int) - 1 := by
    rw [sub32 (by rw [htA, show (1 : Int32).toInt = 1 from rfl]; omega) (by rw [htA, show (1 : Int32).toInt = 1 from rfl]; omega), htA]
    rfl
  have huO : nO S = ci (mS S 18) := rfl
  have htO := inv.cO.t
  have hbO := inv.cO.2
  have hpO : (mS S 18 - 1).toInt = (ci (mS S 18) : Int) - 1 := by
    rw [sub32 (by rw [htO, show (1 : Int32).toInt = 1 from rfl]; omega) (by rw [htO, show (1 : Int32).toInt = 1 from rfl]; omega), htO]
    rfl
  have huL : nL S = ci (mS S 19) := rfl
  have htL := inv.cL.t
  have hbL := inv.cL.2
  have hpL : (mS S 19 - 1).toInt = (ci (mS S 19) : Int) - 1 := by
    rw [sub32 (by rw [htL, show (1 : Int32).toInt = 1 from rfl]; omega) (by rw [htL, show (1 : Int32).toInt = 1 from rfl]; omega), htL]
    rfl
  have hrm : o_rm S = 2000 - nL S - 3 * o_wt (mA S 42) (nO S) := rfl
  have hrt := toIntS (show o_rm S < 2000000000 by omega)
  refine z_mt2 14 false ⟨by decide, rfl, fun q => absurd q (by decide)⟩ (by show 8 ≤ 8; decide) (fun A st wk => ?_)
  refine st b_X12_waits_0 _ _ k_X12_waits_0 _ _ _ _ _ ?_
  simp only [b_X12_waits_0, zr_aload_n0, zr_cP_eq, zr_cP_ne, zr_call0, zr_call1, zr_icmp, zr_ifc, zr_iload_n1, zr_iload_n2, zr_lconst1, zr_ldc2, zr_lload_n3, zr_nil, zr_cons, ↓reduceIte, Nat.reduceAdd, Nat.reduceEqDiff, Nat.reduceLeDiff, Nat.reduceMul, Nat.reduceSub, Int32.reduceOfInt, Int64.reduceOfInt, Int64.reduceOfNat, true_and, and_true, false_and, and_false, or_false, false_or, true_or, or_true, Int.reduceEq, reduceCtorEq, or_self, and_self, ne_eq, not_false_eq_true, not_true_eq_false, eq_self, Nat.le_refl, Nat.zero_le, zr_eI, zr_eL, zr_eR, zr_pI, zr_pL, zr_pR, zr_pO, zr_pV, zq_pA0, zq_pA, zr_get, zr_put_n, zr_put, zr_rem_n, zr_rem, zr_cat_i, zr_cat_l, zr_cat_q, zr_w_n, zr_w, zr_args_n, zr_args, zr_tl_s, zr_tl_n, zr_hIsI, zr_hLsL, zr_hRsR, zr_hIsL, zr_hIsR, zr_hLsI, zr_hLsR, zr_hRsI, zr_hRsL, zr_hNsI, zr_hNsL, zr_hNsR, zr_hZsI, zr_hZsL, zr_hZsR, b2_01, Classical.not_not, Int32.toInt_toInt64, Int64.reduceToInt, zc_1000, zc_100, zc_10, zc_9, zc_2, ci_f, hM, ms_18 e, mR_37, aLen_337, aCod_337, ma_37 e, mR_38, aLen_338, aCod_338, ma_38 e, mR_39, aLen_339, aCod_339, ma_39 e, mR_40, aLen_340, aCod_340, ma_40 e, mR_41, aLen_341, aCod_341, ma_41 e, mR_42, aLen_342, aCod_342, ma_42 e, mR_43, aLen_343, aCod_343, ma_43 e, mR_46, aLen_346, aCod_346, ma_46 e, mR_47, aLen_347, aCod_347, mb_47 e, inv.cO.s]
  refine cp0 (by omega) lk_X12_205 (rc_14 rfl) (m_isAccount l G _ (by omega) S _ e hM' inv _) (Nat.le_refl _) (Nat.le_refl _) ?_
  simp only [zr_aload_n0, zr_cP_eq, zr_cP_ne, zr_call0, zr_call1, zr_icmp, zr_ifc, zr_iload_n1, zr_iload_n2, zr_lconst1, zr_ldc2, zr_lload_n3, zr_nil, zr_cons, ↓reduceIte, Nat.reduceAdd, Nat.reduceEqDiff, Nat.reduceLeDiff, Nat.reduceMul, Nat.reduceSub, Int32.reduceOfInt, Int64.reduceOfInt, Int64.reduceOfNat, true_and, and_true, false_and, and_false, or_false, false_or, true_or, or_true, Int.reduceEq, reduceCtorEq, or_self, and_self, ne_eq, not_false_eq_true, not_true_eq_false, eq_self, Nat.le_refl, Nat.zero_le, zr_eI, zr_eL, zr_eR, zr_pI, zr_pL, zr_pR, zr_pO, zr_pV, zq_pA0, zq_pA, zr_get, zr_put_n, zr_put, zr_rem_n, zr_rem, zr_cat_i, zr_cat_l, zr_cat_q, zr_w_n, zr_w, zr_args_n, zr_args, zr_tl_s, zr_tl_n, zr_hIsI, zr_hLsL, zr_hRsR, zr_hIsL, zr_hIsR, zr_hLsI, zr_hLsR, zr_hRsI, zr_hRsL, zr_hNsI, zr_hNsL, zr_hNsR, zr_hZsI, zr_hZsL, zr_hZsR, b2_01, Classical.not_not, Int32.toInt_toInt64, Int64.reduceToInt, zc_1000, zc_100, zc_10, zc_9, zc_2, ci_f, hM, ms_18 e, mR_37, aLen_337, aCod_337, ma_37 e, mR_38, aLen_338, aCod_338, ma_38 e, mR_39, aLen_339, aCod_339, ma_39 e, mR_40, aLen_340, aCod_340, ma_40 e, mR_41, aLen_341, aCod_341, ma_41 e, mR_42, aLen_342, aCod_342, ma_42 e, mR_43, aLen_343, aCod_343, ma_43 e, mR_46, aLen_346, aCod_346, ma_46 e, mR_47, aLen_347, aCod_347, mb_47 e, inv.cO.s]
  refine ⟨fun qc1 => ?_, fun qc1 => ?_⟩
  · try simp only [b2_0, Classical.not_not] at qc1
    try simp only [Int64.le_iff_toInt_le, Int64.lt_iff_toInt_lt, Int32.lt_iff_toInt_lt, Int32.le_iff_toInt_le, Int32.toInt_toInt64, Int64.reduceToInt, Int32.reduceToInt, Int.reduceNeg, Classical.not_not, i32e, l_add] at qc1
    refine st b_X12_waits_32 _ _ k_X12_waits_32 _ _ _ _ _ ?_
    simp only [b_X12_waits_32, zr_T, zr_bipush, zr_iret, zr_rt_a, zr_rt_i, zr_rt_l, zr_rt_n, zr_rt_z, zr_nil, zr_cons, ↓reduceIte, Nat.reduceAdd, Nat.reduceEqDiff, Nat.reduceLeDiff, Nat.reduceMul, Nat.reduceSub, Int32.reduceOfInt, Int64.reduceOfInt, Int64.reduceOfNat, true_and, and_true, false_and, and_false, or_false, false_or, true_or, or_true, Int.reduceEq, reduceCtorEq, or_self, and_self, ne_eq, not_false_eq_true, not_true_eq_false, eq_self, Nat.le_refl, Nat.zero_le, zr_eI, zr_eL, zr_eR, zr_pI, zr_pL, zr_pR, zr_pO, zr_pV, zq_pA0, zq_pA, zr_get, zr_put_n, zr_put, zr_rem_n, zr_rem, zr_cat_i, zr_cat_l, zr_cat_q, zr_w_n, zr_w, zr_args_n, zr_args, zr_tl_s, zr_tl_n, zr_hIsI, zr_hLsL, zr_hRsR, zr_hIsL, zr_hIsR, zr_hLsI, zr_hLsR, zr_hRsI, zr_hRsL, zr_hNsI, zr_hNsL, zr_hNsR, zr_hZsI, zr_hZsL, zr_hZsR, b2_01, Classical.not_not, Int32.toInt_toInt64, Int64.reduceToInt, zc_1000, zc_100, zc_10, zc_9, zc_2, ci_f, hM, ms_18 e, mR_37, aLen_337, aCod_337, ma_37 e, mR_38, aLen_338, aCod_338, ma_38 e, mR_39, aLen_339, aCod_339, ma_39 e, mR_40, aLen_340, aCod_340, ma_40 e, mR_41, aLen_341, aCod_341, ma_41 e, mR_42, aLen_342, aCod_342, ma_42 e, mR_43, aLen_343, aCod_343, ma_43 e, mR_46, aLen_346, aCod_346, ma_46 e, mR_47, aLen_347, aCod_347, mb_47 e, inv.cO.s]
    try rw [nI_pred]
    refine qi' ?_ (by repeat (first | exact z_sC.rf | exact hsc | refine z_sC.I ?_ (by decide) | refine z_sC.L ?_ (by decide))) hM'
    simp only [mv_thr, mv_sLs, mv_moved, e, mw_18, mx_37, mx_38, mx_39, mx_40, mx_41, mx_42, mx_43, mx_46, my_47]
    unfold o_waits
    (repeat' split) <;> (first | rfl | (exfalso; omega))
  · try simp only [b2_0, Classical.not_not] at qc1
    try simp only [Int64.le_iff_toInt_le, Int64.lt_iff_toInt_lt, Int32.lt_iff_toInt_lt, Int32.le_iff_toInt_le, Int32.toInt_toInt64, Int64.reduceToInt, Int32.reduceToInt, Int.reduceNeg, Classical.not_not, i32e, l_add] at qc1
    refine cp0 (by omega) lk_X12_205 (rc_14 rfl) (m_isAccount l G _ (by omega) S _ e hM' inv _) (Nat.le_refl _) (Nat.le_refl _) ?_
    simp only [zr_cP_eq, zr_cP_ne, zr_call1, zr_icmp, zr_ifc, zr_iload_n1, zr_iload_n2, zr_lconst1, zr_ldc2, zr_lload_n3, zr_nil, zr_cons, ↓reduceIte, Nat.reduceAdd, Nat.reduceEqDiff, Nat.reduceLeDiff, Nat.reduceMul, Nat.reduceSub, Int32.reduceOfInt, Int64.reduceOfInt, Int64.reduceOfNat, true_and, and_true, false_and, and_false, or_false, false_or, true_or, or_true, Int.reduceEq, reduceCtorEq, or_self, and_self, ne_eq, not_false_eq_true, not_true_eq_false, eq_self, Nat.le_refl, Nat.zero_le, zr_eI, zr_eL, zr_eR, zr_pI, zr_pL, zr_pR, zr_pO, zr_pV, zq_pA0, zq_pA, zr_get, zr_put_n, zr_put, zr_rem_n, zr_rem, zr_cat_i, zr_cat_l, zr_cat_q, zr_w_n, zr_w, zr_args_n, zr_args, zr_tl_s, zr_tl_n, zr_hIsI, zr_hLsL, zr_hRsR, zr_hIsL, zr_hIsR, zr_hLsI, zr_hLsR, zr_hRsI, zr_hRsL, zr_hNsI, zr_hNsL, zr_hNsR, zr_hZsI, zr_hZsL, zr_hZsR, b2_01, Classical.not_not, Int32.toInt_toInt64, Int64.reduceToInt, zc_1000, zc_100, zc_10, zc_9, zc_2, ci_f, hM, ms_18 e, mR_37, aLen_337, aCod_337, ma_37 e, mR_38, aLen_338, aCod_338, ma_38 e, mR_39, aLen_339, aCod_339, ma_39 e, mR_40, aLen_340, aCod_340, ma_40 e, mR_41, aLen_341, aCod_341, ma_41 e, mR_42, aLen_342, aCod_342, ma_42 e, mR_43, aLen_343, aCod_343, ma_43 e, mR_46, aLen_346, aCod_346, ma_46 e, mR_47, aLen_347, aCod_347, mb_47 e, inv.cO.s]
    refine ⟨fun qc2 => ?_, fun qc2 => ?_⟩
    · try simp only [b2_0, Classical.not_not] at qc2
      try simp only [Int64.le_iff_toInt_le, Int64.lt_iff_toInt_lt, Int32.lt_iff_toInt_lt, Int32.le_iff_toInt_le, Int32.toInt_toInt64, Int64.reduceToInt, Int32.reduceToInt, Int.reduceNeg, Classical.not_not, i32e, l_add] at qc2
      refine st b_X12_waits_32 _ _ k_X12_waits_32 _ _ _ _ _ ?_
      simp only [b_X12_waits_32, zr_T, zr_bipush, zr_iret, zr_rt_a, zr_rt_i, zr_rt_l, zr_rt_n, zr_rt_z, zr_nil, zr_cons, ↓reduceIte, Nat.reduceAdd, Nat.reduceEqDiff, Nat.reduceLeDiff, Nat.reduceMul, Nat.reduceSub, Int32.reduceOfInt, Int64.reduceOfInt, Int64.reduceOfNat, true_and, and_true, false_and, and_false, or_false, false_or, true_or, or_true, Int.reduceEq, reduceCtorEq, or_self, and_self, ne_eq, not_false_eq_true, not_true_eq_false, eq_self, Nat.le_refl, Nat.zero_le, zr_eI, zr_eL, zr_eR, zr_pI, zr_pL, zr_pR, zr_pO, zr_pV, zq_pA0, zq_pA, zr_get, zr_put_n, zr_put, zr_rem_n, zr_rem, zr_cat_i, zr_cat_l, zr_cat_q, zr_w_n, zr_w, zr_args_n, zr_args, zr_tl_s, zr_tl_n, zr_hIsI, zr_hLsL, zr_hRsR, zr_hIsL, zr_hIsR, zr_hLsI, zr_hLsR, zr_hRsI, zr_hRsL, zr_hNsI, zr_hNsL, zr_hNsR, zr_hZsI, zr_hZsL, zr_hZsR, b2_01, Classical.not_not, Int32.toInt_toInt64, Int64.reduceToInt, zc_1000, zc_100, zc_10, zc_9, zc_2, ci_f, hM, ms_18 e, mR_37, aLen_337, aCod_337, ma_37 e, mR_38, aLen_338, aCod_338, ma_38 e, mR_39, aLen_339, aCod_339, ma_39 e, mR_40, aLen_340, aCod_340, ma_40 e, mR_41, aLen_341, aCod_341, ma_41 e, mR_42, aLen_342, aCod_342, ma_42 e, mR_43, aLen_343, aCod_343, ma_43 e, mR_46, aLen_346, aCod_346, ma_46 e, mR_47, aLen_347, aCod_347, mb_47 e, inv.cO.s]
      try rw [nI_pred]
      refine qi' ?_ (by repeat (first | exact z_sC.rf | exact hsc | refine z_sC.I ?_ (by decide) | refine z_sC.L ?_ (by decide))) hM'
      simp only [mv_thr, mv_sLs, mv_moved, e, mw_18, mx_37, mx_38, mx_39, mx_40, mx_41, mx_42, mx_43, mx_46, my_47]
      unfold o_waits
      (repeat' split) <;> (first | rfl | (exfalso; omega))
    · try simp only [b2_0, Classical.not_not] at qc2
      try simp only [Int64.le_iff_toInt_le, Int64.lt_iff_toInt_lt, Int32.lt_iff_toInt_lt, Int32.le_iff_toInt_le, Int32.toInt_toInt64, Int64.reduceToInt, Int32.reduceToInt, Int.reduceNeg, Classical.not_not, i32e, l_add] at qc2
      refine ⟨fun qc3 => ?_, fun qc3 => ?_⟩
      · try simp only [b2_0, Classical.not_not] at qc3
        try simp only [Int64.le_iff_toInt_le, Int64.lt_iff_toInt_lt, Int32.lt_iff_toInt_lt, Int32.le_iff_toInt_le, Int32.toInt_toInt64, Int64.reduceToInt, Int32.reduceToInt, Int.reduceNeg, Classical.not_not, i32e, l_add] at qc3
        refine st b_X12_waits_32 _ _ k_X12_waits_32 _ _ _ _ _ ?_
        simp only [b_X12_waits_32, zr_T, zr_bipush, zr_iret, zr_rt_a, zr_rt_i, zr_rt_l, zr_rt_n, zr_rt_z, zr_nil, zr_cons, ↓reduceIte, Nat.reduceAdd, Nat.reduceEqDiff, Nat.reduceLeDiff, Nat.reduceMul, Nat.reduceSub, Int32.reduceOfInt, Int64.reduceOfInt, Int64.reduceOfNat, true_and, and_true, false_and, and_false, or_false, false_or, true_or, or_true, Int.reduceEq, reduceCtorEq, or_self, and_self, ne_eq, not_false_eq_true, not_true_eq_false, eq_self, Nat.le_refl, Nat.zero_le, zr_eI, zr_eL, zr_eR, zr_pI, zr_pL, zr_pR, zr_pO, zr_pV, zq_pA0, zq_pA, zr_get, zr_put_n, zr_put, zr_rem_n, zr_rem, zr_cat_i, zr_cat_l, zr_cat_q, zr_w_n, zr_w, zr_args_n, zr_args, zr_tl_s, zr_tl_n, zr_hIsI, zr_hLsL, zr_hRsR, zr_hIsL, zr_hIsR, zr_hLsI, zr_hLsR, zr_hRsI, zr_hRsL, zr_hNsI, zr_hNsL, zr_hNsR, zr_hZsI, zr_hZsL, zr_hZsR, b2_01, Classical.not_not, Int32.toInt_toInt64, Int64.reduceToInt, zc_1000, zc_100, zc_10, zc_9, zc_2, ci_f, hM, ms_18 e, mR_37, aLen_337, aCod_337, ma_37 e, mR_38, aLen_338, aCod_338, ma_38 e, mR_39, aLen_339, aCod_339, ma_39 e, mR_40, aLen_340, aCod_340, ma_40 e, mR_41, aLen_341, aCod_341, ma_41 e, mR_42, aLen_342, aCod_342, ma_42 e, mR_43, aLen_343, aCod_343, ma_43 e, mR_46, aLen_346, aCod_346, ma_46 e, mR_47, aLen_347, aCod_347, mb_47 e, inv.cO.s]
        try rw [nI_pred]
        refine qi' ?_ (by repeat (first | exact z_sC.rf | exact hsc | refine z_sC.I ?_ (by decide) | refine z_sC.L ?_ (by decide))) hM'
        simp only [mv_thr, mv_sLs, mv_moved, e, mw_18, mx_37, mx_38, mx_39, mx_40, mx_41, mx_42, mx_43, mx_46, my_47]
        unfold o_waits
        (repeat' split) <;> (first | rfl | (exfalso; omega))
      · try simp only [b2_0, Classical.not_not] at qc3
        try simp only [Int64.le_iff_toInt_le, Int64.lt_iff_toInt_lt, Int32.lt_iff_toInt_lt, Int32.le_iff_toInt_le, Int32.toInt_toInt64, Int64.reduceToInt, Int32.reduceToInt, Int.reduceNeg, Classical.not_not, i32e, l_add] at qc3
        refine cp0 (by omega) lk_X12_177 trivial (m_in l G _ _ _ _ _) (Nat.le_refl _) (Nat.le_refl _) ?_
        simp only [zr_cP_ne, zr_ifc, zr_nil, zr_cons, ↓reduceIte, Nat.reduceAdd, Nat.reduceEqDiff, Nat.reduceLeDiff, Nat.reduceMul, Nat.reduceSub, Int32.reduceOfInt, Int64.reduceOfInt, Int64.reduceOfNat, true_and, and_true, false_and, and_false, or_false, false_or, true_or, or_true, Int.reduceEq, reduceCtorEq, or_self, and_self, ne_eq, not_false_eq_true, not_true_eq_false, eq_self, Nat.le_refl, Nat.zero_le, zr_eI, zr_eL, zr_eR, zr_pI, zr_pL, zr_pR, zr_pO, zr_pV, zq_pA0, zq_pA, zr_get, zr_put_n, zr_put, zr_rem_n, zr_rem, zr_cat_i, zr_cat_l, zr_cat_q, zr_w_n, zr_w, zr_args_n, zr_args, zr_tl_s, zr_tl_n, zr_hIsI, zr_hLsL, zr_hRsR, zr_hIsL, zr_hIsR, zr_hLsI, zr_hLsR, zr_hRsI, zr_hRsL, zr_hNsI, zr_hNsL, zr_hNsR, zr_hZsI, zr_hZsL, zr_hZsR, b2_01, Classical.not_not, Int32.toInt_toInt64, Int64.reduceToInt, zc_1000, zc_100, zc_10, zc_9, zc_2, ci_f, hM, ms_18 e, mR_37, aLen_337, aCod_337, ma_37 e, mR_38, aLen_338, aCod_338, ma_38 e, mR_39, aLen_339, aCod_339, ma_39 e, mR_40, aLen_340, aCod_340, ma_40 e, mR_41, aLen_341, aCod_341, ma_41 e, mR_42, aLen_342, aCod_342, ma_42 e, mR_43, aLen_343, aCod_343, ma_43 e, mR_46, aLen_346, aCod_346, ma_46 e, mR_47, aLen_347, aCod_347, mb_47 e, inv.cO.s]
        refine ⟨fun qc4 => ?_, fun qc4 => ?_⟩
        · try simp only [b2_0, Classical.not_not] at qc4
          try simp only [Int64.le_iff_toInt_le, Int64.lt_iff_toInt_lt, Int32.lt_iff_toInt_lt, Int32.le_iff_toInt_le, Int32.toInt_toInt64, Int64.reduceToInt, Int32.reduceToInt, Int.reduceNeg, Classical.not_not, i32e, l_add] at qc4
          refine st b_X12_waits_35 _ _ k_X12_waits_35 _ _ _ _ _ ?_
          simp only [b_X12_waits_35, zr_aload_n0, zr_cP_eq, zr_cP_ge, zr_call0, zr_get0, zr_icmp, zr_iconst, zr_sipush, zr_nil, zr_cons, ↓reduceIte, Nat.reduceAdd, Nat.reduceEqDiff, Nat.reduceLeDiff, Nat.reduceMul, Nat.reduceSub, Int32.reduceOfInt, Int64.reduceOfInt, Int64.reduceOfNat, true_and, and_true, false_and, and_false, or_false, false_or, true_or, or_true, Int.reduceEq, reduceCtorEq, or_self, and_self, ne_eq, not_false_eq_true, not_true_eq_false, eq_self, Nat.le_refl, Nat.zero_le, zr_eI, zr_eL, zr_eR, zr_pI, zr_pL, zr_pR, zr_pO, zr_pV, zq_pA0, zq_pA, zr_get, zr_put_n, zr_put, zr_rem_n, zr_rem, zr_cat_i, zr_cat_l, zr_cat_q, zr_w_n, zr_w, zr_args_n, zr_args, zr_tl_s, zr_tl_n, zr_hIsI, zr_hLsL, zr_hRsR, zr_hIsL, zr_hIsR, zr_hLsI, zr_hLsR, zr_hRsI, zr_hRsL, zr_hNsI, zr_hNsL, zr_hNsR, zr_hZsI, zr_hZsL, zr_hZsR, b2_01, Classical.not_not, Int32.toInt_toInt64, Int64.reduceToInt, zc_1000, zc_100, zc_10, zc_9, zc_2, ci_f, hM, ms_18 e, mR_37, aLen_337, aCod_337, ma_37 e, mR_38, aLen_338, aCod_338, ma_38 e, mR_39, aLen_339, aCod_339, ma_39 e, mR_40, aLen_340, aCod_340, ma_40 e, mR_41, aLen_341, aCod_341, ma_41 e, mR_42, aLen_342, aCod_342, ma_42 e, mR_43, aLen_343, aCod_343, ma_43 e, mR_46, aLen_346, aCod_346, ma_46 e, mR_47, aLen_347, aCod_347, mb_47 e, inv.cO.s]
          refine ⟨fun qc5 => ?_, fun qc5 => ?_⟩
          · try simp only [b2_0, Classical.not_not] at qc5
            try simp only [Int64.le_iff_toInt_le, Int64.lt_iff_toInt_lt, Int32.lt_iff_toInt_lt, Int32.le_iff_toInt_le, Int32.toInt_toInt64, Int64.reduceToInt, Int32.reduceToInt, Int.reduceNeg, Classical.not_not, i32e, l_add] at qc5
            refine st b_X12_waits_53 _ _ k_X12_waits_53 _ _ _ _ _ ?_
            simp only [b_X12_waits_53, zr_T, zr_bipush, zr_iret, zr_rt_a, zr_rt_i, zr_rt_l, zr_rt_n, zr_rt_z, zr_nil, zr_cons, ↓reduceIte, Nat.reduceAdd, Nat.reduceEqDiff, Nat.reduceLeDiff, Nat.reduceMul, Nat.reduceSub, Int32.reduceOfInt, Int64.reduceOfInt, Int64.reduceOfNat, true_and, and_true, false_and, and_false, or_false, false_or, true_or, or_true, Int.reduceEq, reduceCtorEq, or_self, and_self, ne_eq, not_false_eq_true, not_true_eq_false, eq_self, Nat.le_refl, Nat.zero_le, zr_eI, zr_eL, zr_eR, zr_pI, zr_pL, zr_pR, zr_pO, zr_pV, zq_pA0, zq_pA, zr_get, zr_put_n, zr_put, zr_rem_n, zr_rem, zr_cat_i, zr_cat_l, zr_cat_q, zr_w_n, zr_w, zr_args_n, zr_args, zr_tl_s, zr_tl_n, zr_hIsI, zr_hLsL, zr_hRsR, zr_hIsL, zr_hIsR, zr_hLsI, zr_hLsR, zr_hRsI, zr_hRsL, zr_hNsI, zr_hNsL, zr_hNsR, zr_hZsI, zr_hZsL, zr_hZsR, b2_01, Classical.not_not, Int32.toInt_toInt64, Int64.reduceToInt, zc_1000, zc_100, zc_10, zc_9, zc_2, ci_f, hM, ms_18 e, mR_37, aLen_337, aCod_337, ma_37 e, mR_38, aLen_338, aCod_338, ma_38 e, mR_39, aLen_339, aCod_339, ma_39 e, mR_40, aLen_340, aCod_340, ma_40 e, mR_41, aLen_341, aCod_341, ma_41 e, mR_42, aLen_342, aCod_342, ma_42 e, mR_43, aLen_343, aCod_343, ma_43 e, mR_46, aLen_346, aCod_346, ma_46 e, mR_47, aLen_347, aCod_347, mb_47 e, inv.cO.s]
            try rw [nI_pred]
            refine qi' ?_ (by repeat (first | exact z_sC.rf | exact hsc | refine z_sC.I ?_ (by decide) | refine z_sC.L ?_ (by decide))) hM'
            simp only [mv_thr, mv_sLs, mv_moved, e, mw_18, mx_37, mx_38, mx_39, mx_40, mx_41, mx_42, mx_43, mx_46, my_47]
            unfold o_waits
            (repeat' split) <;> (first | rfl | (exfalso; omega))
          · try simp only [b2_0, Classical.not_not] at qc5
            try simp only [Int64.le_iff_toInt_le, Int64.lt_iff_toInt_lt, Int32.lt_iff_toInt_lt, Int32.le_iff_toInt_le, Int32.toInt_toInt64, Int64.reduceToInt, Int32.reduceToInt, Int.reduceNeg, Classical.not_not, i32e, l_add] at qc5
            refine cp0 (by omega) lk_X12_231 (rc_14 rfl) (m_room l G _ S _ e hM' inv) (Nat.le_refl _) (Nat.le_refl _) ?_
            simp only [zr_cP_ge, zr_icmp, zr_iconst, zr_nil, zr_cons, ↓reduceIte, Nat.reduceAdd, Nat.reduceEqDiff, Nat.reduceLeDiff, Nat.reduceMul, Nat.reduceSub, Int32.reduceOfInt, Int64.reduceOfInt, Int64.reduceOfNat, true_and, and_true, false_and, and_false, or_false, false_or, true_or, or_true, Int.reduceEq, reduceCtorEq, or_self, and_self, ne_eq, not_false_eq_true, not_true_eq_false, eq_self, Nat.le_refl, Nat.zero_le, zr_eI, zr_eL, zr_eR, zr_pI, zr_pL, zr_pR, zr_pO, zr_pV, zq_pA0, zq_pA, zr_get, zr_put_n, zr_put, zr_rem_n, zr_rem, zr_cat_i, zr_cat_l, zr_cat_q, zr_w_n, zr_w, zr_args_n, zr_args, zr_tl_s, zr_tl_n, zr_hIsI, zr_hLsL, zr_hRsR, zr_hIsL, zr_hIsR, zr_hLsI, zr_hLsR, zr_hRsI, zr_hRsL, zr_hNsI, zr_hNsL, zr_hNsR, zr_hZsI, zr_hZsL, zr_hZsR, b2_01, Classical.not_not, Int32.toInt_toInt64, Int64.reduceToInt, zc_1000, zc_100, zc_10, zc_9, zc_2, ci_f, hM, ms_18 e, mR_37, aLen_337, aCod_337, ma_37 e, mR_38, aLen_338, aCod_338, ma_38 e, mR_39, aLen_339, aCod_339, ma_39 e, mR_40, aLen_340, aCod_340, ma_40 e, mR_41, aLen_341, aCod_341, ma_41 e, mR_42, aLen_342, aCod_342, ma_42 e, mR_43, aLen_343, aCod_343, ma_43 e, mR_46, aLen_346, aCod_346, ma_46 e, mR_47, aLen_347, aCod_347, mb_47 e, inv.cO.s]
            refine ⟨fun qc6 => ?_, fun qc6 => ?_⟩
            · try simp only [b2_0, Classical.not_not] at qc6
              try simp only [Int64.le_iff_toInt_le, Int64.lt_iff_toInt_lt, Int32.lt_iff_toInt_lt, Int32.le_iff_toInt_le, Int32.toInt_toInt64, Int64.reduceToInt, Int32.reduceToInt, Int.reduceNeg, Classical.not_not, i32e, l_add] at qc6
              refine st b_X12_waits_56 _ _ k_X12_waits_56 _ _ _ _ _ ?_
              simp only [b_X12_waits_56, zr_T, zr_aload_n0, zr_dup, zr_get0, zr_get2, zr_iadd, zr_iast, zr_iconst, zr_iload, zr_iload_n1, zr_iload_n2, zr_iret, zr_isub, zr_last, zr_lload_n3, zr_put0, zr_rt_a, zr_rt_i, zr_rt_l, zr_rt_n, zr_rt_z, zr_nil, zr_cons, ↓reduceIte, Nat.reduceAdd, Nat.reduceEqDiff, Nat.reduceLeDiff, Nat.reduceMul, Nat.reduceSub, Int32.reduceOfInt, Int64.reduceOfInt, Int64.reduceOfNat, true_and, and_true, false_and, and_false, or_false, false_or, true_or, or_true, Int.reduceEq, reduceCtorEq, or_self, and_self, ne_eq, not_false_eq_true, not_true_eq_false, eq_self, Nat.le_refl, Nat.zero_le, zr_eI, zr_eL, zr_eR, zr_pI, zr_pL, zr_pR, zr_pO, zr_pV, zq_pA0, zq_pA, zr_get, zr_put_n, zr_put, zr_rem_n, zr_rem, zr_cat_i, zr_cat_l, zr_cat_q, zr_w_n, zr_w, zr_args_n, zr_args, zr_tl_s, zr_tl_n, zr_hIsI, zr_hLsL, zr_hRsR, zr_hIsL, zr_hIsR, zr_hLsI, zr_hLsR, zr_hRsI, zr_hRsL, zr_hNsI, zr_hNsL, zr_hNsR, zr_hZsI, zr_hZsL, zr_hZsR, b2_01, Classical.not_not, Int32.toInt_toInt64, Int64.reduceToInt, zc_1000, zc_100, zc_10, zc_9, zc_2, ci_f, hM, ms_18 e, mR_37, aLen_337, aCod_337, ma_37 e, mR_38, aLen_338, aCod_338, ma_38 e, mR_39, aLen_339, aCod_339, ma_39 e, mR_40, aLen_340, aCod_340, ma_40 e, mR_41, aLen_341, aCod_341, ma_41 e, mR_42, aLen_342, aCod_342, ma_42 e, mR_43, aLen_343, aCod_343, ma_43 e, mR_46, aLen_346, aCod_346, ma_46 e, mR_47, aLen_347, aCod_347, mb_47 e, inv.cO.s]
              refine ⟨by first | exact vpi (by omega) | with_reducible exact vp_in_nI (by omega) (by omega), ?_⟩
              refine ⟨by first | exact vpi (by omega) | with_reducible exact vp_in_nI (by omega) (by omega), ?_⟩
              refine ⟨by first | exact vpi (by omega) | with_reducible exact vp_in_nI (by omega) (by omega), ?_⟩
              refine ⟨by first | exact vpi (by omega) | with_reducible exact vp_in_nI (by omega) (by omega), ?_⟩
              refine ⟨by first | exact vpi (by omega) | with_reducible exact vp_in_nI (by omega) (by omega), ?_⟩
              refine ⟨by first | exact vpi (by omega) | with_reducible exact vp_in_nI (by omega) (by omega), ?_⟩
              refine ⟨by first | exact vpi (by omega) | with_reducible exact vp_in_nI (by omega) (by omega), ?_⟩
              refine ⟨by first | exact vpi (by omega) | with_reducible exact vp_in_nI (by omega) (by omega), ?_⟩
              refine ⟨by first | exact vpi (by omega) | with_reducible exact vp_in_nI (by omega) (by omega), ?_⟩
              try rw [nI_pred]
              refine qi' ?_ (by repeat (first | exact z_sC.rf | exact hsc | refine z_sC.I ?_ (by decide) | refine z_sC.L ?_ (by decide))) hM'
              simp only [mv_thr, mv_sLs, mv_moved, e, mw_18, mx_37, mx_38, mx_39, mx_40, mx_41, mx_42, mx_43, mx_46, my_47]
              unfold o_waits
              (repeat' split) <;> (first | rfl | (exfalso; omega))
            · try simp only [b2_0, Classical.not_not] at qc6
              try simp only [Int64.le_iff_toInt_le, Int64.lt_iff_toInt_lt, Int32.lt_iff_toInt_lt, Int32.le_iff_toInt_le, Int32.toInt_toInt64, Int64.reduceToInt, Int32.reduceToInt, Int.reduceNeg, Classical.not_not, i32e, l_add] at qc6
              refine st b_X12_waits_53 _ _ k_X12_waits_53 _ _ _ _ _ ?_
              simp only [b_X12_waits_53, zr_T, zr_bipush, zr_iret, zr_rt_a, zr_rt_i, zr_rt_l, zr_rt_n, zr_rt_z, zr_nil, zr_cons, ↓reduceIte, Nat.reduceAdd, Nat.reduceEqDiff, Nat.reduceLeDiff, Nat.reduceMul, Nat.reduceSub, Int32.reduceOfInt, Int64.reduceOfInt, Int64.reduceOfNat, true_and, and_true, false_and, and_false, or_false, false_or, true_or, or_true, Int.reduceEq, reduceCtorEq, or_self, and_self, ne_eq, not_false_eq_true, not_true_eq_false, eq_self, Nat.le_refl, Nat.zero_le, zr_eI, zr_eL, zr_eR, zr_pI, zr_pL, zr_pR, zr_pO, zr_pV, zq_pA0, zq_pA, zr_get, zr_put_n, zr_put, zr_rem_n, zr_rem, zr_cat_i, zr_cat_l, zr_cat_q, zr_w_n, zr_w, zr_args_n, zr_args, zr_tl_s, zr_tl_n, zr_hIsI, zr_hLsL, zr_hRsR, zr_hIsL, zr_hIsR, zr_hLsI, zr_hLsR, zr_hRsI, zr_hRsL, zr_hNsI, zr_hNsL, zr_hNsR, zr_hZsI, zr_hZsL, zr_hZsR, b2_01, Classical.not_not, Int32.toInt_toInt64, Int64.reduceToInt, zc_1000, zc_100, zc_10, zc_9, zc_2, ci_f, hM, ms_18 e, mR_37, aLen_337, aCod_337, ma_37 e, mR_38, aLen_338, aCod_338, ma_38 e, mR_39, aLen_339, aCod_339, ma_39 e, mR_40, aLen_340, aCod_340, ma_40 e, mR_41, aLen_341, aCod_341, ma_41 e, mR_42, aLen_342, aCod_342, ma_42 e, mR_43, aLen_343, aCod_343, ma_43 e, mR_46, aLen_346, aCod_346, ma_46 e, mR_47, aLen_347, aCod_347, mb_47 e, inv.cO.s]
              try rw [nI_pred]
              refine qi' ?_ (by repeat (first | exact z_sC.rf | exact hsc | refine z_sC.I ?_ (by decide) | refine z_sC.L ?_ (by decide))) hM'
              simp only [mv_thr, mv_sLs, mv_moved, e, mw_18, mx_37, mx_38, mx_39, mx_40, mx_41, mx_42, mx_43, mx_46, my_47]
              unfold o_waits
              (repeat' split) <;> (first | rfl | (exfalso; omega))
        · try simp only [b2_0, Classical.not_not] at qc4
          try simp only [Int64.le_iff_toInt_le, Int64.lt_iff_toInt_lt, Int32.lt_iff_toInt_lt, Int32.le_iff_toInt_le, Int32.toInt_toInt64, Int64.reduceToInt, Int32.reduceToInt, Int.reduceNeg, Classical.not_not, i32e, l_add] at qc4
          refine st b_X12_waits_32 _ _ k_X12_waits_32 _ _ _ _ _ ?_
          simp only [b_X12_waits_32, zr_T, zr_bipush, zr_iret, zr_rt_a, zr_rt_i, zr_rt_l, zr_rt_n, zr_rt_z, zr_nil, zr_cons, ↓reduceIte, Nat.reduceAdd, Nat.reduceEqDiff, Nat.reduceLeDiff, Nat.reduceMul, Nat.reduceSub, Int32.reduceOfInt, Int64.reduceOfInt, Int64.reduceOfNat, true_and, and_true, false_and, and_false, or_false, false_or, true_or, or_true, Int.reduceEq, reduceCtorEq, or_self, and_self, ne_eq, not_false_eq_true, not_true_eq_false, eq_self, Nat.le_refl, Nat.zero_le, zr_eI, zr_eL, zr_eR, zr_pI, zr_pL, zr_pR, zr_pO, zr_pV, zq_pA0, zq_pA, zr_get, zr_put_n, zr_put, zr_rem_n, zr_rem, zr_cat_i, zr_cat_l, zr_cat_q, zr_w_n, zr_w, zr_args_n, zr_args, zr_tl_s, zr_tl_n, zr_hIsI, zr_hLsL, zr_hRsR, zr_hIsL, zr_hIsR, zr_hLsI, zr_hLsR, zr_hRsI, zr_hRsL, zr_hNsI, zr_hNsL, zr_hNsR, zr_hZsI, zr_hZsL, zr_hZsR, b2_01, Classical.not_not, Int32.toInt_toInt64, Int64.reduceToInt, zc_1000, zc_100, zc_10, zc_9, zc_2, ci_f, hM, ms_18 e, mR_37, aLen_337, aCod_337, ma_37 e, mR_38, aLen_338, aCod_338, ma_38 e, mR_39, aLen_339, aCod_339, ma_39 e, mR_40, aLen_340, aCod_340, ma_40 e, mR_41, aLen_341, aCod_341, ma_41 e, mR_42, aLen_342, aCod_342, ma_42 e, mR_43, aLen_343, aCod_343, ma_43 e, mR_46, aLen_346, aCod_346, ma_46 e, mR_47, aLen_347, aCod_347, mb_47 e, inv.cO.s]
          try rw [nI_pred]
          refine qi' ?_ (by repeat (first | exact z_sC.rf | exact hsc | refine z_sC.I ?_ (by decide) | refine z_sC.L ?_ (by decide))) hM'
          simp only [mv_thr, mv_sLs, mv_moved, e, mw_18, mx_37, mx_38, mx_39, mx_40, mx_41, mx_42, mx_43, mx_46, my_47]
          unfold o_waits
          (repeat' split) <;> (first | rfl | (exfalso; omega))
theorem m_order (l : Launch) (G : z_G) (d : Nat) (hd : 4 ≤ d) (S : z_M) (h : z_H) (e : mv h = S) (hM : z_MR h) (inv : INV S) (f t : Int32) (sum : Int64) (hour signer : Int32) : z_MT l G d yX12_order cX12_order 7 (some .int) [z_r 14 0, z_i f, z_i t, z_l sum, z_i hour, z_i signer] h 0 0 (Qi h (o_order S f t sum hour signer)) := by
  have hM' := hM
  unfold z_MR at hM
  refine z_mt2 14 false ⟨by decide, rfl, fun q => absurd q (by decide)⟩ (by show 7 ≤ 7; decide) (fun A st wk => ?_)
  refine st b_X12_order_0 _ _ k_X12_order_0 _ _ _ _ _ ?_
  simp only [b_X12_order_0, zr_aload_n0, zr_cP_eq, zr_cP_ne, zr_call1, zr_i2l, zr_iconst, zr_ifc, zr_iload, zr_lconst0, zr_ldc2, zr_put0, zr_nil, zr_cons, ↓reduceIte, Nat.reduceAdd, Nat.reduceEqDiff, Nat.reduceLeDiff, Nat.reduceMul, Nat.reduceSub, Int32.reduceOfInt, Int64.reduceOfInt, Int64.reduceOfNat, true_and, and_true, false_and, and_false, or_false, false_or, true_or, or_true, Int.reduceEq, reduceCtorEq, or_self, and_self, ne_eq, not_false_eq_true, not_true_eq_false, eq_self, Nat.le_refl, Nat.zero_le, zr_eI, zr_eL, zr_eR, zr_pI, zr_pL, zr_pR, zr_pO, zr_pV, zq_pA0, zq_pA, zr_get, zr_put_n, zr_put, zr_rem_n, zr_rem, zr_cat_i, zr_cat_l, zr_cat_q, zr_w_n, zr_w, zr_args_n, zr_args, zr_tl_s, zr_tl_n, zr_hIsI, zr_hLsL, zr_hRsR, zr_hIsL, zr_hIsR, zr_hLsI, zr_hLsR, zr_hRsI, zr_hRsL, zr_hNsI, zr_hNsL, zr_hNsR, zr_hZsI, zr_hZsL, zr_hZsR, b2_01, Classical.not_not, Int32.toInt_toInt64, Int64.reduceToInt, zc_1000, zc_100, zc_10, zc_9, zc_2, ci_f, hM, ms_14 e]
  refine cp0 (by omega) lk_X12_177 trivial (m_in l G _ _ _ _ _) (Nat.le_refl _) (Nat.le_refl _) ?_
  simp only [zr_cP_eq, zr_cP_ne, zr_call1, zr_i2l, zr_ifc, zr_iload, zr_lconst0, zr_ldc2, zr_nil, zr_cons, ↓reduceIte, Nat.reduceAdd, Nat.reduceEqDiff, Nat.reduceLeDiff, Nat.reduceMul, Nat.reduceSub, Int32.reduceOfInt, Int64.reduceOfInt, Int64.reduceOfNat, true_and, and_true, false_and, and_false, or_false, false_or, true_or, or_true, Int.reduceEq, reduceCtorEq, or_self, and_self, ne_eq, not_false_eq_true, not_true_eq_false, eq_self, Nat.le_refl, Nat.zero_le, zr_eI, zr_eL, zr_eR, zr_pI, zr_pL, zr_pR, zr_pO, zr_pV, zq_pA0, zq_pA, zr_get, zr_put_n, zr_put, zr_rem_n, zr_rem, zr_cat_i, zr_cat_l, zr_cat_q, zr_w_n, zr_w, zr_args_n, zr_args, zr_tl_s, zr_tl_n, zr_hIsI, zr_hLsL, zr_hRsR, zr_hIsL, zr_hIsR, zr_hLsI, zr_hLsR, zr_hRsI, zr_hRsL, zr_hNsI, zr_hNsL, zr_hNsR, zr_hZsI, zr_hZsL, zr_hZsR, b2_01, Classical.not_not, Int32.toInt_toInt64, Int64.reduceToInt, zc_1000, zc_100, zc_10, zc_9, zc_2, ci_f, hM, ms_14 e]
  refine ⟨fun qc1 => ?_, fun qc1 => ?_⟩
  · try simp only [b2_0, Classical.not_not] at qc1
    try simp only [Int64.le_iff_toInt_le, Int64.lt_iff_toInt_lt, Int32.lt_iff_toInt_lt, Int32.le_iff_toInt_le, Int32.toInt_toInt64, Int64.reduceToInt, Int32.reduceToInt, Int.reduceNeg, Classical.not_not, i32e, l_add] at qc1
    refine st b_X12_order_31 _ _ k_X12_order_31 _ _ _ _ _ ?_
    simp only [b_X12_order_31, zr_T, zr_bipush, zr_iret, zr_rt_a, zr_rt_i, zr_rt_l, zr_rt_n, zr_rt_z, zr_nil, zr_cons, ↓reduceIte, Nat.reduceAdd, Nat.reduceEqDiff, Nat.reduceLeDiff, Nat.reduceMul, Nat.reduceSub, Int32.reduceOfInt, Int64.reduceOfInt, Int64.reduceOfNat, true_and, and_true, false_and, and_false, or_false, false_or, true_or, or_true, Int.reduceEq, reduceCtorEq, or_self, and_self, ne_eq, not_false_eq_true, not_true_eq_false, eq_self, Nat.le_refl, Nat.zero_le, zr_eI, zr_eL, zr_eR, zr_pI, zr_pL, zr_pR, zr_pO, zr_pV, zq_pA0, zq_pA, zr_get, zr_put_n, zr_put, zr_rem_n, zr_rem, zr_cat_i, zr_cat_l, zr_cat_q, zr_w_n, zr_w, zr_args_n, zr_args, zr_tl_s, zr_tl_n, zr_hIsI, zr_hLsL, zr_hRsR, zr_hIsL, zr_hIsR, zr_hLsI, zr_hLsR, zr_hRsI, zr_hRsL, zr_hNsI, zr_hNsL, zr_hNsR, zr_hZsI, zr_hZsL, zr_hZsR, b2_01, Classical.not_not, Int32.toInt_toInt64, Int64.reduceToInt, zc_1000, zc_100, zc_10, zc_9, zc_2, ci_f, hM, ms_14 e]
    refine qi' ?_ (by repeat (first | exact z_sC.rf | exact hsc | refine z_sC.I ?_ (by decide) | refine z_sC.L ?_ (by decide))) hM'
    simp only [mv_thr, mv_sLs, mv_moved, e, mw_14]
    unfold o_order
    (repeat' split) <;> (first | rfl | (exfalso; omega))
  · try simp only [b2_0, Classical.not_not] at qc1
    try simp only [Int64.le_iff_toInt_le, Int64.lt_iff_toInt_lt, Int32.lt_iff_toInt_lt, Int32.le_iff_toInt_le, Int32.toInt_toInt64, Int64.reduceToInt, Int32.reduceToInt, Int.reduceNeg, Classical.not_not, i32e, l_add] at qc1
    refine cp0 (by omega) lk_X12_177 trivial (m_in l G _ _ _ _ _) (Nat.le_refl _) (Nat.le_refl _) ?_
    simp only [zr_cP_ne, zr_ifc, zr_nil, zr_cons, ↓reduceIte, Nat.reduceAdd, Nat.reduceEqDiff, Nat.reduceLeDiff, Nat.reduceMul, Nat.reduceSub, Int32.reduceOfInt, Int64.reduceOfInt, Int64.reduceOfNat, true_and, and_true, false_and, and_false, or_false, false_or, true_or, or_true, Int.reduceEq, reduceCtorEq, or_self, and_self, ne_eq, not_false_eq_true, not_true_eq_false, eq_self, Nat.le_refl, Nat.zero_le, zr_eI, zr_eL, zr_eR, zr_pI, zr_pL, zr_pR, zr_pO, zr_pV, zq_pA0, zq_pA, zr_get, zr_put_n, zr_put, zr_rem_n, zr_rem, zr_cat_i, zr_cat_l, zr_cat_q, zr_w_n, zr_w, zr_args_n, zr_args, zr_tl_s, zr_tl_n, zr_hIsI, zr_hLsL, zr_hRsR, zr_hIsL, zr_hIsR, zr_hLsI, zr_hLsR, zr_hRsI, zr_hRsL, zr_hNsI, zr_hNsL, zr_hNsR, zr_hZsI, zr_hZsL, zr_hZsR, b2_01, Classical.not_not, Int32.toInt_toInt64, Int64.reduceToInt, zc_1000, zc_100, zc_10, zc_9, zc_2, ci_f, hM, ms_14 e]
    refine ⟨fun qc2 => ?_, fun qc2 => ?_⟩
    · try simp only [b2_0, Classical.not_not] at qc2
      try simp only [Int64.le_iff_toInt_le, Int64.lt_iff_toInt_lt, Int32.lt_iff_toInt_lt, Int32.le_iff_toInt_le, Int32.toInt_toInt64, Int64.reduceToInt, Int32.reduceToInt, Int.reduceNeg, Classical.not_not, i32e, l_add] at qc2
      refine st b_X12_order_34 _ _ k_X12_order_34 _ _ _ _ _ ?_
      simp only [b_X12_order_34, zr_aload_n0, zr_bipush, zr_cP_ge, zr_get0, zr_goto, zr_icmp, zr_iload, zr_iload_n1, zr_iload_n2, zr_lload_n3, zr_nil, zr_cons, ↓reduceIte, Nat.reduceAdd, Nat.reduceEqDiff, Nat.reduceLeDiff, Nat.reduceMul, Nat.reduceSub, Int32.reduceOfInt, Int64.reduceOfInt, Int64.reduceOfNat, true_and, and_true, false_and, and_false, or_false, false_or, true_or, or_true, Int.reduceEq, reduceCtorEq, or_self, and_self, ne_eq, not_false_eq_true, not_true_eq_false, eq_self, Nat.le_refl, Nat.zero_le, zr_eI, zr_eL, zr_eR, zr_pI, zr_pL, zr_pR, zr_pO, zr_pV, zq_pA0, zq_pA, zr_get, zr_put_n, zr_put, zr_rem_n, zr_rem, zr_cat_i, zr_cat_l, zr_cat_q, zr_w_n, zr_w, zr_args_n, zr_args, zr_tl_s, zr_tl_n, zr_hIsI, zr_hLsL, zr_hRsR, zr_hIsL, zr_hIsR, zr_hLsI, zr_hLsR, zr_hRsI, zr_hRsL, zr_hNsI, zr_hNsL, zr_hNsR, zr_hZsI, zr_hZsL, zr_hZsR, b2_01, Classical.not_not, Int32.toInt_toInt64, Int64.reduceToInt, zc_1000, zc_100, zc_10, zc_9, zc_2, ci_f, hM, ms_14 e]
      refine ⟨fun qc3 => ?_, fun qc3 => ?_⟩
      · try simp only [b2_0, Classical.not_not] at qc3
        try simp only [Int64.le_iff_toInt_le, Int64.lt_iff_toInt_lt, Int32.lt_iff_toInt_lt, Int32.le_iff_toInt_le, Int32.toInt_toInt64, Int64.reduceToInt, Int32.reduceToInt, Int.reduceNeg, Classical.not_not, i32e, l_add] at qc3
        refine st b_X12_order_52 _ _ k_X12_order_52 _ _ _ _ _ ?_
        simp only [b_X12_order_52, zr_aload_n0, zr_get0, zr_iadd, zr_iconst, zr_nil, zr_cons, ↓reduceIte, Nat.reduceAdd, Nat.reduceEqDiff, Nat.reduceLeDiff, Nat.reduceMul, Nat.reduceSub, Int32.reduceOfInt, Int64.reduceOfInt, Int64.reduceOfNat, true_and, and_true, false_and, and_false, or_false, false_or, true_or, or_true, Int.reduceEq, reduceCtorEq, or_self, and_self, ne_eq, not_false_eq_true, not_true_eq_false, eq_self, Nat.le_refl, Nat.zero_le, zr_eI, zr_eL, zr_eR, zr_pI, zr_pL, zr_pR, zr_pO, zr_pV, zq_pA0, zq_pA, zr_get, zr_put_n, zr_put, zr_rem_n, zr_rem, zr_cat_i, zr_cat_l, zr_cat_q, zr_w_n, zr_w, zr_args_n, zr_args, zr_tl_s, zr_tl_n, zr_hIsI, zr_hLsL, zr_hRsR, zr_hIsL, zr_hIsR, zr_hLsI, zr_hLsR, zr_hRsI, zr_hRsL, zr_hNsI, zr_hNsL, zr_hNsR, zr_hZsI, zr_hZsL, zr_hZsR, b2_01, Classical.not_not, Int32.toInt_toInt64, Int64.reduceToInt, zc_1000, zc_100, zc_10, zc_9, zc_2, ci_f, hM, ms_14 e]
        refine st b_X12_order_58 _ _ k_X12_order_58 _ _ _ _ _ ?_
        simp only [b_X12_order_58, zr_T, zr_call0, zr_iload, zr_iret, zr_rt_a, zr_rt_i, zr_rt_l, zr_rt_n, zr_rt_z, zr_nil, zr_cons, ↓reduceIte, Nat.reduceAdd, Nat.reduceEqDiff, Nat.reduceLeDiff, Nat.reduceMul, Nat.reduceSub, Int32.reduceOfInt, Int64.reduceOfInt, Int64.reduceOfNat, true_and, and_true, false_and, and_false, or_false, false_or, true_or, or_true, Int.reduceEq, reduceCtorEq, or_self, and_self, ne_eq, not_false_eq_true, not_true_eq_false, eq_self, Nat.le_refl, Nat.zero_le, zr_eI, zr_eL, zr_eR, zr_pI, zr_pL, zr_pR, zr_pO, zr_pV, zq_pA0, zq_pA, zr_get, zr_put_n, zr_put, zr_rem_n, zr_rem, zr_cat_i, zr_cat_l, zr_cat_q, zr_w_n, zr_w, zr_args_n, zr_args, zr_tl_s, zr_tl_n, zr_hIsI, zr_hLsL, zr_hRsR, zr_hIsL, zr_hIsR, zr_hLsI, zr_hLsR, zr_hRsI, zr_hRsL, zr_hNsI, zr_hNsL, zr_hNsR, zr_hZsI, zr_hZsL, zr_hZsR, b2_01, Classical.not_not, Int32.toInt_toInt64, Int64.reduceToInt, zc_1000, zc_100, zc_10, zc_9, zc_2, ci_f, hM, ms_14 e]
        refine cpx (by omega) lk_X12_275 (rc_14 rfl) (m_waits l G _ (by omega) S _ (by simp only [mv_thr, e]) (z_MR.I hM') inv _ _ _ _ _ _) (Nat.le_refl _) (Nat.le_refl _) (fun r4 h4 g4 => ?_)
        obtain ⟨rfl, e4, s4, M4⟩ := g4
        have hsc : z_sC h h4 := z_sC.tr (by repeat (first | exact z_sC.rf | exact hsc | refine z_sC.I ?_ (by decide) | refine z_sC.L ?_ (by decide))) s4
        have N4 := M4
        unfold z_MR at N4
        simp only [zr_T, zr_iret, zr_rt_a, zr_rt_i, zr_rt_l, zr_rt_n, zr_rt_z, zr_nil, zr_cons, ↓reduceIte, Nat.reduceAdd, Nat.reduceEqDiff, Nat.reduceLeDiff, Nat.reduceMul, Nat.reduceSub, Int32.reduceOfInt, Int64.reduceOfInt, Int64.reduceOfNat, true_and, and_true, false_and, and_false, or_false, false_or, true_or, or_true, Int.reduceEq, reduceCtorEq, or_self, and_self, ne_eq, not_false_eq_true, not_true_eq_false, eq_self, Nat.le_refl, Nat.zero_le, zr_eI, zr_eL, zr_eR, zr_pI, zr_pL, zr_pR, zr_pO, zr_pV, zq_pA0, zq_pA, zr_get, zr_put_n, zr_put, zr_rem_n, zr_rem, zr_cat_i, zr_cat_l, zr_cat_q, zr_w_n, zr_w, zr_args_n, zr_args, zr_tl_s, zr_tl_n, zr_hIsI, zr_hLsL, zr_hRsR, zr_hIsL, zr_hIsR, zr_hLsI, zr_hLsR, zr_hRsI, zr_hRsL, zr_hNsI, zr_hNsL, zr_hNsR, zr_hZsI, zr_hZsL, zr_hZsR, b2_01, Classical.not_not, Int32.toInt_toInt64, Int64.reduceToInt, zc_1000, zc_100, zc_10, zc_9, zc_2, ci_f, N4, ms_14 e4]
        refine qi ?_ e4 hsc M4
        unfold o_order
        (repeat' split) <;> (first | rfl | (exfalso; omega))
      · try simp only [b2_0, Classical.not_not] at qc3
        try simp only [Int64.le_iff_toInt_le, Int64.lt_iff_toInt_lt, Int32.lt_iff_toInt_lt, Int32.le_iff_toInt_le, Int32.toInt_toInt64, Int64.reduceToInt, Int32.reduceToInt, Int.reduceNeg, Classical.not_not, i32e, l_add] at qc3
        refine st b_X12_order_58 _ _ k_X12_order_58 _ _ _ _ _ ?_
        simp only [b_X12_order_58, zr_T, zr_call0, zr_iload, zr_iret, zr_rt_a, zr_rt_i, zr_rt_l, zr_rt_n, zr_rt_z, zr_nil, zr_cons, ↓reduceIte, Nat.reduceAdd, Nat.reduceEqDiff, Nat.reduceLeDiff, Nat.reduceMul, Nat.reduceSub, Int32.reduceOfInt, Int64.reduceOfInt, Int64.reduceOfNat, true_and, and_true, false_and, and_false, or_false, false_or, true_or, or_true, Int.reduceEq, reduceCtorEq, or_self, and_self, ne_eq, not_false_eq_true, not_true_eq_false, eq_self, Nat.le_refl, Nat.zero_le, zr_eI, zr_eL, zr_eR, zr_pI, zr_pL, zr_pR, zr_pO, zr_pV, zq_pA0, zq_pA, zr_get, zr_put_n, zr_put, zr_rem_n, zr_rem, zr_cat_i, zr_cat_l, zr_cat_q, zr_w_n, zr_w, zr_args_n, zr_args, zr_tl_s, zr_tl_n, zr_hIsI, zr_hLsL, zr_hRsR, zr_hIsL, zr_hIsR, zr_hLsI, zr_hLsR, zr_hRsI, zr_hRsL, zr_hNsI, zr_hNsL, zr_hNsR, zr_hZsI, zr_hZsL, zr_hZsR, b2_01, Classical.not_not, Int32.toInt_toInt64, Int64.reduceToInt, zc_1000, zc_100, zc_10, zc_9, zc_2, ci_f, hM, ms_14 e]
        refine cpx (by omega) lk_X12_275 (rc_14 rfl) (m_waits l G _ (by omega) S _ (by simp only [mv_thr, e]) (z_MR.I hM') inv _ _ _ _ _ _) (Nat.le_refl _) (Nat.le_refl _) (fun r5 h5 g5 => ?_)
        obtain ⟨rfl, e5, s5, M5⟩ := g5
        have hsc : z_sC h h5 := z_sC.tr (by repeat (first | exact z_sC.rf | exact hsc | refine z_sC.I ?_ (by decide) | refine z_sC.L ?_ (by decide))) s5
        have N5 := M5
        unfold z_MR at N5
        simp only [zr_T, zr_iret, zr_rt_a, zr_rt_i, zr_rt_l, zr_rt_n, zr_rt_z, zr_nil, zr_cons, ↓reduceIte, Nat.reduceAdd, Nat.reduceEqDiff, Nat.reduceLeDiff, Nat.reduceMul, Nat.reduceSub, Int32.reduceOfInt, Int64.reduceOfInt, Int64.reduceOfNat, true_and, and_true, false_and, and_false, or_false, false_or, true_or, or_true, Int.reduceEq, reduceCtorEq, or_self, and_self, ne_eq, not_false_eq_true, not_true_eq_false, eq_self, Nat.le_refl, Nat.zero_le, zr_eI, zr_eL, zr_eR, zr_pI, zr_pL, zr_pR, zr_pO, zr_pV, zq_pA0, zq_pA, zr_get, zr_put_n, zr_put, zr_rem_n, zr_rem, zr_cat_i, zr_cat_l, zr_cat_q, zr_w_n, zr_w, zr_args_n, zr_args, zr_tl_s, zr_tl_n, zr_hIsI, zr_hLsL, zr_hRsR, zr_hIsL, zr_hIsR, zr_hLsI, zr_hLsR, zr_hRsI, zr_hRsL, zr_hNsI, zr_hNsL, zr_hNsR, zr_hZsI, zr_hZsL, zr_hZsR, b2_01, Classical.not_not, Int32.toInt_toInt64, Int64.reduceToInt, zc_1000, zc_100, zc_10, zc_9, zc_2, ci_f, N5, ms_14 e5]
        refine qi ?_ e5 hsc M5
        unfold o_order
        (repeat' split) <;> (first | rfl | (exfalso; omega))
    · try simp only [b2_0, Classical.not_not] at qc2
      try simp only [Int64.le_iff_toInt_le, Int64.lt_iff_toInt_lt, Int32.lt_iff_toInt_lt, Int32.le_iff_toInt_le, Int32.toInt_toInt64, Int64.reduceToInt, Int32.reduceToInt, Int.reduceNeg, Classical.not_not, i32e, l_add] at qc2
      refine st b_X12_order_31 _ _ k_X12_order_31 _ _ _ _ _ ?_
      simp only [b_X12_order_31, zr_T, zr_bipush, zr_iret, zr_rt_a, zr_rt_i, zr_rt_l, zr_rt_n, zr_rt_z, zr_nil, zr_cons, ↓reduceIte, Nat.reduceAdd, Nat.reduceEqDiff, Nat.reduceLeDiff, Nat.reduceMul, Nat.reduceSub, Int32.reduceOfInt, Int64.reduceOfInt, Int64.reduceOfNat, true_and, and_true, false_and, and_false, or_false, false_or, true_or, or_true, Int.reduceEq, reduceCtorEq, or_self, and_self, ne_eq, not_false_eq_true, not_true_eq_false, eq_self, Nat.le_refl, Nat.zero_le, zr_eI, zr_eL, zr_eR, zr_pI, zr_pL, zr_pR, zr_pO, zr_pV, zq_pA0, zq_pA, zr_get, zr_put_n, zr_put, zr_rem_n, zr_rem, zr_cat_i, zr_cat_l, zr_cat_q, zr_w_n, zr_w, zr_args_n, zr_args, zr_tl_s, zr_tl_n, zr_hIsI, zr_hLsL, zr_hRsR, zr_hIsL, zr_hIsR, zr_hLsI, zr_hLsR, zr_hRsI, zr_hRsL, zr_hNsI, zr_hNsL, zr_hNsR, zr_hZsI, zr_hZsL, zr_hZsR, b2_01, Classical.not_not, Int32.toInt_toInt64, Int64.reduceToInt, zc_1000, zc_100, zc_10, zc_9, zc_2, ci_f, hM, ms_14 e]
      refine qi' ?_ (by repeat (first | exact z_sC.rf | exact hsc | refine z_sC.I ?_ (by decide) | refine z_sC.L ?_ (by decide))) hM'
      simp only [mv_thr, mv_sLs, mv_moved, e, mw_14]
      unfold o_order
      (repeat' split) <;> (first | rfl | (exfalso; omega))
theorem m_bill (l : Launch) (G : z_G) (d : Nat) (hd : 4 ≤ d) (S : z_M) (h : z_H) (e : mv h = S) (hM : z_MR h) (inv : INV S) (f t : Int32) (sum : Int64) (days : Int32) : z_MT l G d yX12_bill cX12_bill 6 (some .int) [z_r 14 0, z_i f, z_i t, z_l sum, z_i days] h 0 0 (Qi h (o_bill S f t sum days)) := by
  have hM' := hM
  unfold z_MR at hM
  refine z_mt2 14 false ⟨by decide, rfl, fun q => absurd q (by decide)⟩ (by show 6 ≤ 6; decide) (fun A st wk => ?_)
  refine st b_X12_bill_0 _ _ k_X12_bill_0 _ _ _ _ _ ?_
  simp only [b_X12_bill_0, zr_T, zr_aload_n0, zr_bipush, zr_cP_ne, zr_call1, zr_i2l, zr_iconst, zr_ifc, zr_iload, zr_iret, zr_lconst0, zr_ldc2, zr_put0, zr_rt_a, zr_rt_i, zr_rt_l, zr_rt_n, zr_rt_z, zr_nil, zr_cons, ↓reduceIte, Nat.reduceAdd, Nat.reduceEqDiff, Nat.reduceLeDiff, Nat.reduceMul, Nat.reduceSub, Int32.reduceOfInt, Int64.reduceOfInt, Int64.reduceOfNat, true_and, and_true, false_and, and_false, or_false, false_or, true_or, or_true, Int.reduceEq, reduceCtorEq, or_self, and_self, ne_eq, not_false_eq_true, not_true_eq_false, eq_self, Nat.le_refl, Nat.zero_le, zr_eI, zr_eL, zr_eR, zr_pI, zr_pL, zr_pR, zr_pO, zr_pV, zq_pA0, zq_pA, zr_get, zr_put_n, zr_put, zr_rem_n, zr_rem, zr_cat_i, zr_cat_l, zr_cat_q, zr_w_n, zr_w, zr_args_n, zr_args, zr_tl_s, zr_tl_n, zr_hIsI, zr_hLsL, zr_hRsR, zr_hIsL, zr_hIsR, zr_hLsI, zr_hLsR, zr_hRsI, zr_hRsL, zr_hNsI, zr_hNsL, zr_hNsR, zr_hZsI, zr_hZsL, zr_hZsR, b2_01, Classical.not_not, Int32.toInt_toInt64, Int64.reduceToInt, zc_1000, zc_100, zc_10, zc_9, zc_2, ci_f, hM, ms_14 e]
  refine cp0 (by omega) lk_X12_177 trivial (m_in l G _ _ _ _ _) (Nat.le_refl _) (Nat.le_refl _) ?_
  simp only [zr_T, zr_bipush, zr_cP_ne, zr_ifc, zr_iret, zr_rt_a, zr_rt_i, zr_rt_l, zr_rt_n, zr_rt_z, zr_nil, zr_cons, ↓reduceIte, Nat.reduceAdd, Nat.reduceEqDiff, Nat.reduceLeDiff, Nat.reduceMul, Nat.reduceSub, Int32.reduceOfInt, Int64.reduceOfInt, Int64.reduceOfNat, true_and, and_true, false_and, and_false, or_false, false_or, true_or, or_true, Int.reduceEq, reduceCtorEq, or_self, and_self, ne_eq, not_false_eq_true, not_true_eq_false, eq_self, Nat.le_refl, Nat.zero_le, zr_eI, zr_eL, zr_eR, zr_pI, zr_pL, zr_pR, zr_pO, zr_pV, zq_pA0, zq_pA, zr_get, zr_put_n, zr_put, zr_rem_n, zr_rem, zr_cat_i, zr_cat_l, zr_cat_q, zr_w_n, zr_w, zr_args_n, zr_args, zr_tl_s, zr_tl_n, zr_hIsI, zr_hLsL, zr_hRsR, zr_hIsL, zr_hIsR, zr_hLsI, zr_hLsR, zr_hRsI, zr_hRsL, zr_hNsI, zr_hNsL, zr_hNsR, zr_hZsI, zr_hZsL, zr_hZsR, b2_01, Classical.not_not, Int32.toInt_toInt64, Int64.reduceToInt, zc_1000, zc_100, zc_10, zc_9, zc_2, ci_f, hM, ms_14 e]
  refine ⟨fun qc1 => ?_, fun qc1 => ?_⟩
  · try simp only [b2_0, Classical.not_not] at qc1
    try simp only [Int64.le_iff_toInt_le, Int64.lt_iff_toInt_lt, Int32.lt_iff_toInt_lt, Int32.le_iff_toInt_le, Int32.toInt_toInt64, Int64.reduceToInt, Int32.reduceToInt, Int.reduceNeg, Classical.not_not, i32e, l_add] at qc1
    refine st b_X12_bill_21 _ _ k_X12_bill_21 _ _ _ _ _ ?_
    simp only [b_X12_bill_21, zr_T, zr_aload_n0, zr_bipush, zr_call0, zr_get0, zr_iadd, zr_iload, zr_iload_n1, zr_iload_n2, zr_iret, zr_lload_n3, zr_rt_a, zr_rt_i, zr_rt_l, zr_rt_n, zr_rt_z, zr_nil, zr_cons, ↓reduceIte, Nat.reduceAdd, Nat.reduceEqDiff, Nat.reduceLeDiff, Nat.reduceMul, Nat.reduceSub, Int32.reduceOfInt, Int64.reduceOfInt, Int64.reduceOfNat, true_and, and_true, false_and, and_false, or_false, false_or, true_or, or_true, Int.reduceEq, reduceCtorEq, or_self, and_self, ne_eq, not_false_eq_true, not_true_eq_false, eq_self, Nat.le_refl, Nat.zero_le, zr_eI, zr_eL, zr_eR, zr_pI, zr_pL, zr_pR, zr_pO, zr_pV, zq_pA0, zq_pA, zr_get, zr_put_n, zr_put, zr_rem_n, zr_rem, zr_cat_i, zr_cat_l, zr_cat_q, zr_w_n, zr_w, zr_args_n, zr_args, zr_tl_s, zr_tl_n, zr_hIsI, zr_hLsL, zr_hRsR, zr_hIsL, zr_hIsR, zr_hLsI, zr_hLsR, zr_hRsI, zr_hRsL, zr_hNsI, zr_hNsL, zr_hNsR, zr_hZsI, zr_hZsL, zr_hZsR, b2_01, Classical.not_not, Int32.toInt_toInt64, Int64.reduceToInt, zc_1000, zc_100, zc_10, zc_9, zc_2, ci_f, hM, ms_14 e]
    refine cpx (by omega) lk_X12_275 (rc_14 rfl) (m_waits l G _ (by omega) S _ (by simp only [mv_thr, e]) (z_MR.I hM') inv _ _ _ _ _ _) (Nat.le_refl _) (Nat.le_refl _) (fun r6 h6 g6 => ?_)
    obtain ⟨rfl, e6, s6, M6⟩ := g6
    have hsc : z_sC h h6 := z_sC.tr (by repeat (first | exact z_sC.rf | exact hsc | refine z_sC.I ?_ (by decide) | refine z_sC.L ?_ (by decide))) s6
    have N6 := M6
    unfold z_MR at N6
    simp only [zr_T, zr_iret, zr_rt_a, zr_rt_i, zr_rt_l, zr_rt_n, zr_rt_z, zr_nil, zr_cons, ↓reduceIte, Nat.reduceAdd, Nat.reduceEqDiff, Nat.reduceLeDiff, Nat.reduceMul, Nat.reduceSub, Int32.reduceOfInt, Int64.reduceOfInt, Int64.reduceOfNat, true_and, and_true, false_and, and_false, or_false, false_or, true_or, or_true, Int.reduceEq, reduceCtorEq, or_self, and_self, ne_eq, not_false_eq_true, not_true_eq_false, eq_self, Nat.le_refl, Nat.zero_le, zr_eI, zr_eL, zr_eR, zr_pI, zr_pL, zr_pR, zr_pO, zr_pV, zq_pA0, zq_pA, zr_get, zr_put_n, zr_put, zr_rem_n, zr_rem, zr_cat_i, zr_cat_l, zr_cat_q, zr_w_n, zr_w, zr_args_n, zr_args, zr_tl_s, zr_tl_n, zr_hIsI, zr_hLsL, zr_hRsR, zr_hIsL, zr_hIsR, zr_hLsI, zr_hLsR, zr_hRsI, zr_hRsL, zr_hNsI, zr_hNsL, zr_hNsR, zr_hZsI, zr_hZsL, zr_hZsR, b2_01, Classical.not_not, Int32.toInt_toInt64, Int64.reduceToInt, zc_1000, zc_100, zc_10, zc_9, zc_2, ci_f, N6, ms_14 e6]
    refine qi ?_ e6 hsc M6
    unfold o_bill
    (repeat' split) <;> (first | rfl | (exfalso; omega))
  · try simp only [b2_0, Classical.not_not] at qc1
    try simp only [Int64.le_iff_toInt_le, Int64.lt_iff_toInt_lt, Int32.lt_iff_toInt_lt, Int32.le_iff_toInt_le, Int32.toInt_toInt64, Int64.reduceToInt, Int32.reduceToInt, Int.reduceNeg, Classical.not_not, i32e, l_add] at qc1
    refine qi' ?_ (by repeat (first | exact z_sC.rf | exact hsc | refine z_sC.I ?_ (by decide) | refine z_sC.L ?_ (by decide))) hM'
    simp only [mv_thr, mv_sLs, mv_moved, e, mw_14]
    unfold o_bill
    (repeat' split) <;> (first | rfl | (exfalso; omega))
theorem m_slip (l : Launch) (G : z_G) (d : Nat) (hd : 3 ≤ d) (S : z_M) (h : z_H) (e : mv h = S) (hM : z_MR h) (inv : INV S) (o how x : Int32) : z_MT l G d yX12_slip cX12_slip 5 (some .int) [z_r 14 0, z_i o, z_i how, z_i x] h 0 0 (Qi h (o_slip S o how x)) := by
  have hM' := hM
  unfold z_MR at hM
  have huA : nA S = ci (mS S 16) := rfl
  have htA := inv.cA.t
  have hbA := inv.cA.2
  have hpA : (mS S 16 - 1).toInt = (ci (mS S 16) : Int) - 1 := by
    rw [sub32 (by rw [htA, show (1 : Int32).toInt = 1 from rfl]; omega) (by rw [htA, show (1 : Int32).toInt = 1 from rfl]; omega), htA]
    rfl
  have huO : nO S = ci (mS S 18) := rfl
  have htO := inv.cO.t
  have hbO := inv.cO.2
  have hpO : (mS S 18 - 1).toInt = (ci (mS S 18) : Int) - 1 := by
    rw [sub32 (by rw [htO, show (1 : Int32).toInt = 1 from rfl]; omega) (by rw [htO, show (1 : Int32).toInt = 1 from rfl]; omega), htO]
    rfl
  refine z_mt2 14 false ⟨by decide, rfl, fun q => absurd q (by decide)⟩ (by show 4 ≤ 5; decide) (fun A st wk => ?_)
  refine st b_X12_slip_0 _ _ k_X12_slip_0 _ _ _ _ _ ?_
  simp only [b_X12_slip_0, zr_aload_n0, zr_cP_eq, zr_cP_ne, zr_call1, zr_get0, zr_get2, zr_i2l, zr_iald, zr_iconst, zr_ifc, zr_iload_n1, zr_iload_n2, zr_isub, zr_lconst0, zr_ldc2, zr_put0, zr_nil, zr_cons, ↓reduceIte, Nat.reduceAdd, Nat.reduceEqDiff, Nat.reduceLeDiff, Nat.reduceMul, Nat.reduceSub, Int32.reduceOfInt, Int64.reduceOfInt, Int64.reduceOfNat, true_and, and_true, false_and, and_false, or_false, false_or, true_or, or_true, Int.reduceEq, reduceCtorEq, or_self, and_self, ne_eq, not_false_eq_true, not_true_eq_false, eq_self, Nat.le_refl, Nat.zero_le, zr_eI, zr_eL, zr_eR, zr_pI, zr_pL, zr_pR, zr_pO, zr_pV, zq_pA0, zq_pA, zr_get, zr_put_n, zr_put, zr_rem_n, zr_rem, zr_cat_i, zr_cat_l, zr_cat_q, zr_w_n, zr_w, zr_args_n, zr_args, zr_tl_s, zr_tl_n, zr_hIsI, zr_hLsL, zr_hRsR, zr_hIsL, zr_hIsR, zr_hLsI, zr_hLsR, zr_hRsI, zr_hRsL, zr_hNsI, zr_hNsL, zr_hNsR, zr_hZsI, zr_hZsL, zr_hZsR, b2_01, Classical.not_not, Int32.toInt_toInt64, Int64.reduceToInt, zc_1000, zc_100, zc_10, zc_9, zc_2, ci_f, hM, ms_18 e, mR_37, aLen_337, aCod_337, ma_37 e, mR_38, aLen_338, aCod_338, ma_38 e, mR_42, aLen_342, aCod_342, ma_42 e, mR_43, aLen_343, aCod_343, ma_43 e, mR_44, aLen_344, aCod_344, ma_44 e, hpO]
  refine cp0 (by omega) lk_X12_177 trivial (m_in l G _ _ _ _ _) (Nat.le_refl _) (Nat.le_refl _) ?_
  simp only [zr_aload_n0, zr_cP_eq, zr_cP_ne, zr_call1, zr_get2, zr_i2l, zr_iald, zr_ifc, zr_iload_n1, zr_iload_n2, zr_lconst0, zr_ldc2, zr_nil, zr_cons, ↓reduceIte, Nat.reduceAdd, Nat.reduceEqDiff, Nat.reduceLeDiff, Nat.reduceMul, Nat.reduceSub, Int32.reduceOfInt, Int64.reduceOfInt, Int64.reduceOfNat, true_and, and_true, false_and, and_false, or_false, false_or, true_or, or_true, Int.reduceEq, reduceCtorEq, or_self, and_self, ne_eq, not_false_eq_true, not_true_eq_false, eq_self, Nat.le_refl, Nat.zero_le, zr_eI, zr_eL, zr_eR, zr_pI, zr_pL, zr_pR, zr_pO, zr_pV, zq_pA0, zq_pA, zr_get, zr_put_n, zr_put, zr_rem_n, zr_rem, zr_cat_i, zr_cat_l, zr_cat_q, zr_w_n, zr_w, zr_args_n, zr_args, zr_tl_s, zr_tl_n, zr_hIsI, zr_hLsL, zr_hRsR, zr_hIsL, zr_hIsR, zr_hLsI, zr_hLsR, zr_hRsI, zr_hRsL, zr_hNsI, zr_hNsL, zr_hNsR, zr_hZsI, zr_hZsL, zr_hZsR, b2_01, Classical.not_not, Int32.toInt_toInt64, Int64.reduceToInt, zc_1000, zc_100, zc_10, zc_9, zc_2, ci_f, hM, ms_18 e, mR_37, aLen_337, aCod_337, ma_37 e, mR_38, aLen_338, aCod_338, ma_38 e, mR_42, aLen_342, aCod_342, ma_42 e, mR_43, aLen_343, aCod_343, ma_43 e, mR_44, aLen_344, aCod_344, ma_44 e, hpO]
  refine ⟨fun qc1 => ?_, fun qc1 => ?_⟩
  · try simp only [b2_0, Classical.not_not] at qc1
    try simp only [Int64.le_iff_toInt_le, Int64.lt_iff_toInt_lt, Int32.lt_iff_toInt_lt, Int32.le_iff_toInt_le, Int32.toInt_toInt64, Int64.reduceToInt, Int32.reduceToInt, Int.reduceNeg, Classical.not_not, i32e, l_add] at qc1
    refine st b_X12_slip_42 _ _ k_X12_slip_42 _ _ _ _ _ ?_
    simp only [b_X12_slip_42, zr_T, zr_bipush, zr_iret, zr_rt_a, zr_rt_i, zr_rt_l, zr_rt_n, zr_rt_z, zr_nil, zr_cons, ↓reduceIte, Nat.reduceAdd, Nat.reduceEqDiff, Nat.reduceLeDiff, Nat.reduceMul, Nat.reduceSub, Int32.reduceOfInt, Int64.reduceOfInt, Int64.reduceOfNat, true_and, and_true, false_and, and_false, or_false, false_or, true_or, or_true, Int.reduceEq, reduceCtorEq, or_self, and_self, ne_eq, not_false_eq_true, not_true_eq_false, eq_self, Nat.le_refl, Nat.zero_le, zr_eI, zr_eL, zr_eR, zr_pI, zr_pL, zr_pR, zr_pO, zr_pV, zq_pA0, zq_pA, zr_get, zr_put_n, zr_put, zr_rem_n, zr_rem, zr_cat_i, zr_cat_l, zr_cat_q, zr_w_n, zr_w, zr_args_n, zr_args, zr_tl_s, zr_tl_n, zr_hIsI, zr_hLsL, zr_hRsR, zr_hIsL, zr_hIsR, zr_hLsI, zr_hLsR, zr_hRsI, zr_hRsL, zr_hNsI, zr_hNsL, zr_hNsR, zr_hZsI, zr_hZsL, zr_hZsR, b2_01, Classical.not_not, Int32.toInt_toInt64, Int64.reduceToInt, zc_1000, zc_100, zc_10, zc_9, zc_2, ci_f, hM, ms_18 e, mR_37, aLen_337, aCod_337, ma_37 e, mR_38, aLen_338, aCod_338, ma_38 e, mR_42, aLen_342, aCod_342, ma_42 e, mR_43, aLen_343, aCod_343, ma_43 e, mR_44, aLen_344, aCod_344, ma_44 e, hpO]
    refine qi' ?_ (by repeat (first | exact z_sC.rf | exact hsc | refine z_sC.I ?_ (by decide) | refine z_sC.L ?_ (by decide))) hM'
    simp only [mv_thr, mv_sLs, mv_moved, e, mw_18, mx_37, mx_38, mx_42, mx_43, mx_44]
    unfold o_slip
    (repeat' split) <;> (first | rfl | (exfalso; omega))
  · try simp only [b2_0, Classical.not_not] at qc1
    try simp only [Int64.le_iff_toInt_le, Int64.lt_iff_toInt_lt, Int32.lt_iff_toInt_lt, Int32.le_iff_toInt_le, Int32.toInt_toInt64, Int64.reduceToInt, Int32.reduceToInt, Int.reduceNeg, Classical.not_not, i32e, l_add] at qc1
    refine ⟨by first | exact vpi (by omega) | with_reducible exact vp_in_nI (by omega) (by omega), ?_⟩
    refine ⟨fun qc2 => ?_, fun qc2 => ?_⟩
    · try simp only [b2_0, Classical.not_not] at qc2
      try simp only [Int64.le_iff_toInt_le, Int64.lt_iff_toInt_lt, Int32.lt_iff_toInt_lt, Int32.le_iff_toInt_le, Int32.toInt_toInt64, Int64.reduceToInt, Int32.reduceToInt, Int.reduceNeg, Classical.not_not, i32e, l_add] at qc2
      refine st b_X12_slip_42 _ _ k_X12_slip_42 _ _ _ _ _ ?_
      simp only [b_X12_slip_42, zr_T, zr_bipush, zr_iret, zr_rt_a, zr_rt_i, zr_rt_l, zr_rt_n, zr_rt_z, zr_nil, zr_cons, ↓reduceIte, Nat.reduceAdd, Nat.reduceEqDiff, Nat.reduceLeDiff, Nat.reduceMul, Nat.reduceSub, Int32.reduceOfInt, Int64.reduceOfInt, Int64.reduceOfNat, true_and, and_true, false_and, and_false, or_false, false_or, true_or, or_true, Int.reduceEq, reduceCtorEq, or_self, and_self, ne_eq, not_false_eq_true, not_true_eq_false, eq_self, Nat.le_refl, Nat.zero_le, zr_eI, zr_eL, zr_eR, zr_pI, zr_pL, zr_pR, zr_pO, zr_pV, zq_pA0, zq_pA, zr_get, zr_put_n, zr_put, zr_rem_n, zr_rem, zr_cat_i, zr_cat_l, zr_cat_q, zr_w_n, zr_w, zr_args_n, zr_args, zr_tl_s, zr_tl_n, zr_hIsI, zr_hLsL, zr_hRsR, zr_hIsL, zr_hIsR, zr_hLsI, zr_hLsR, zr_hRsI, zr_hRsL, zr_hNsI, zr_hNsL, zr_hNsR, zr_hZsI, zr_hZsL, zr_hZsR, b2_01, Classical.not_not, Int32.toInt_toInt64, Int64.reduceToInt, zc_1000, zc_100, zc_10, zc_9, zc_2, ci_f, hM, ms_18 e, mR_37, aLen_337, aCod_337, ma_37 e, mR_38, aLen_338, aCod_338, ma_38 e, mR_42, aLen_342, aCod_342, ma_42 e, mR_43, aLen_343, aCod_343, ma_43 e, mR_44, aLen_344, aCod_344, ma_44 e, hpO]
      refine qi' ?_ (by repeat (first | exact z_sC.rf | exact hsc | refine z_sC.I ?_ (by decide) | refine z_sC.L ?_ (by decide))) hM'
      simp only [mv_thr, mv_sLs, mv_moved, e, mw_18, mx_37, mx_38, mx_42, mx_43, mx_44]
      unfold o_slip
      (repeat' split) <;> (first | rfl | (exfalso; omega))
    · try simp only [b2_0, Classical.not_not] at qc2
      try simp only [Int64.le_iff_toInt_le, Int64.lt_iff_toInt_lt, Int32.lt_iff_toInt_lt, Int32.le_iff_toInt_le, Int32.toInt_toInt64, Int64.reduceToInt, Int32.reduceToInt, Int.reduceNeg, Classical.not_not, i32e, l_add] at qc2
      refine cp0 (by omega) lk_X12_177 trivial (m_in l G _ _ _ _ _) (Nat.le_refl _) (Nat.le_refl _) ?_
      simp only [zr_cP_ne, zr_ifc, zr_nil, zr_cons, ↓reduceIte, Nat.reduceAdd, Nat.reduceEqDiff, Nat.reduceLeDiff, Nat.reduceMul, Nat.reduceSub, Int32.reduceOfInt, Int64.reduceOfInt, Int64.reduceOfNat, true_and, and_true, false_and, and_false, or_false, false_or, true_or, or_true, Int.reduceEq, reduceCtorEq, or_self, and_self, ne_eq, not_false_eq_true, not_true_eq_false, eq_self, Nat.le_refl, Nat.zero_le, zr_eI, zr_eL, zr_eR, zr_pI, zr_pL, zr_pR, zr_pO, zr_pV, zq_pA0, zq_pA, zr_get, zr_put_n, zr_put, zr_rem_n, zr_rem, zr_cat_i, zr_cat_l, zr_cat_q, zr_w_n, zr_w, zr_args_n, zr_args, zr_tl_s, zr_tl_n, zr_hIsI, zr_hLsL, zr_hRsR, zr_hIsL, zr_hIsR, zr_hLsI, zr_hLsR, zr_hRsI, zr_hRsL, zr_hNsI, zr_hNsL, zr_hNsR, zr_hZsI, zr_hZsL, zr_hZsR, b2_01, Classical.not_not, Int32.toInt_toInt64, Int64.reduceToInt, zc_1000, zc_100, zc_10, zc_9, zc_2, ci_f, hM, ms_18 e, mR_37, aLen_337, aCod_337, ma_37 e, mR_38, aLen_338, aCod_338, ma_38 e, mR_42, aLen_342, aCod_342, ma_42 e, mR_43, aLen_343, aCod_343, ma_43 e, mR_44, aLen_344, aCod_344, ma_44 e, hpO]
      refine ⟨fun qc3 => ?_, fun qc3 => ?_⟩
      · try simp only [b2_0, Classical.not_not] at qc3
        try simp only [Int64.le_iff_toInt_le, Int64.lt_iff_toInt_lt, Int32.lt_iff_toInt_lt, Int32.le_iff_toInt_le, Int32.toInt_toInt64, Int64.reduceToInt, Int32.reduceToInt, Int.reduceNeg, Classical.not_not, i32e, l_add] at qc3
        refine st b_X12_slip_45 _ _ k_X12_slip_45 _ _ _ _ _ ?_
        simp only [b_X12_slip_45, zr_cP_ne, zr_call1, zr_goto, zr_i2l, zr_icmp, zr_iconst, zr_iload_n2, zr_iload_n3, zr_lconst0, zr_ldc2, zr_nil, zr_cons, ↓reduceIte, Nat.reduceAdd, Nat.reduceEqDiff, Nat.reduceLeDiff, Nat.reduceMul, Nat.reduceSub, Int32.reduceOfInt, Int64.reduceOfInt, Int64.reduceOfNat, true_and, and_true, false_and, and_false, or_false, false_or, true_or, or_true, Int.reduceEq, reduceCtorEq, or_self, and_self, ne_eq, not_false_eq_true, not_true_eq_false, eq_self, Nat.le_refl, Nat.zero_le, zr_eI, zr_eL, zr_eR, zr_pI, zr_pL, zr_pR, zr_pO, zr_pV, zq_pA0, zq_pA, zr_get, zr_put_n, zr_put, zr_rem_n, zr_rem, zr_cat_i, zr_cat_l, zr_cat_q, zr_w_n, zr_w, zr_args_n, zr_args, zr_tl_s, zr_tl_n, zr_hIsI, zr_hLsL, zr_hRsR, zr_hIsL, zr_hIsR, zr_hLsI, zr_hLsR, zr_hRsI, zr_hRsL, zr_hNsI, zr_hNsL, zr_hNsR, zr_hZsI, zr_hZsL, zr_hZsR, b2_01, Classical.not_not, Int32.toInt_toInt64, Int64.reduceToInt, zc_1000, zc_100, zc_10, zc_9, zc_2, ci_f, hM, ms_18 e, mR_37, aLen_337, aCod_337, ma_37 e, mR_38, aLen_338, aCod_338, ma_38 e, mR_42, aLen_342, aCod_342, ma_42 e, mR_43, aLen_343, aCod_343, ma_43 e, mR_44, aLen_344, aCod_344, ma_44 e, hpO]
        refine ⟨fun qc4 => ?_, fun qc4 => ?_⟩
        · try simp only [b2_0, Classical.not_not] at qc4
          try simp only [Int64.le_iff_toInt_le, Int64.lt_iff_toInt_lt, Int32.lt_iff_toInt_lt, Int32.le_iff_toInt_le, Int32.toInt_toInt64, Int64.reduceToInt, Int32.reduceToInt, Int.reduceNeg, Classical.not_not, i32e, l_add] at qc4
          refine st b_X12_slip_62 _ _ k_X12_slip_62 _ _ _ _ _ ?_
          simp only [b_X12_slip_62, zr_aload_n0, zr_cP_eq, zr_cP_ne, zr_call0, zr_get2, zr_goto, zr_iald, zr_icmp, zr_iconst, zr_ifc, zr_iload_n1, zr_iload_n2, zr_iload_n3, zr_nil, zr_cons, ↓reduceIte, Nat.reduceAdd, Nat.reduceEqDiff, Nat.reduceLeDiff, Nat.reduceMul, Nat.reduceSub, Int32.reduceOfInt, Int64.reduceOfInt, Int64.reduceOfNat, true_and, and_true, false_and, and_false, or_false, false_or, true_or, or_true, Int.reduceEq, reduceCtorEq, or_self, and_self, ne_eq, not_false_eq_true, not_true_eq_false, eq_self, Nat.le_refl, Nat.zero_le, zr_eI, zr_eL, zr_eR, zr_pI, zr_pL, zr_pR, zr_pO, zr_pV, zq_pA0, zq_pA, zr_get, zr_put_n, zr_put, zr_rem_n, zr_rem, zr_cat_i, zr_cat_l, zr_cat_q, zr_w_n, zr_w, zr_args_n, zr_args, zr_tl_s, zr_tl_n, zr_hIsI, zr_hLsL, zr_hRsR, zr_hIsL, zr_hIsR, zr_hLsI, zr_hLsR, zr_hRsI, zr_hRsL, zr_hNsI, zr_hNsL, zr_hNsR, zr_hZsI, zr_hZsL, zr_hZsR, b2_01, Classical.not_not, Int32.toInt_toInt64, Int64.reduceToInt, zc_1000, zc_100, zc_10, zc_9, zc_2, ci_f, hM, ms_18 e, mR_37, aLen_337, aCod_337, ma_37 e, mR_38, aLen_338, aCod_338, ma_38 e, mR_42, aLen_342, aCod_342, ma_42 e, mR_43, aLen_343, aCod_343, ma_43 e, mR_44, aLen_344, aCod_344, ma_44 e, hpO]
          refine ⟨fun qc5 => ?_, fun qc5 => ?_⟩
          · try simp only [b2_0, Classical.not_not] at qc5
            try simp only [Int64.le_iff_toInt_le, Int64.lt_iff_toInt_lt, Int32.lt_iff_toInt_lt, Int32.le_iff_toInt_le, Int32.toInt_toInt64, Int64.reduceToInt, Int32.reduceToInt, Int.reduceNeg, Classical.not_not, i32e, l_add] at qc5
            refine st b_X12_slip_103 _ _ k_X12_slip_103 _ _ _ _ _ ?_
            simp only [b_X12_slip_103, zr_cP_ne, zr_goto, zr_iconst, zr_ifc, zr_iload_n3, zr_nil, zr_cons, ↓reduceIte, Nat.reduceAdd, Nat.reduceEqDiff, Nat.reduceLeDiff, Nat.reduceMul, Nat.reduceSub, Int32.reduceOfInt, Int64.reduceOfInt, Int64.reduceOfNat, true_and, and_true, false_and, and_false, or_false, false_or, true_or, or_true, Int.reduceEq, reduceCtorEq, or_self, and_self, ne_eq, not_false_eq_true, not_true_eq_false, eq_self, Nat.le_refl, Nat.zero_le, zr_eI, zr_eL, zr_eR, zr_pI, zr_pL, zr_pR, zr_pO, zr_pV, zq_pA0, zq_pA, zr_get, zr_put_n, zr_put, zr_rem_n, zr_rem, zr_cat_i, zr_cat_l, zr_cat_q, zr_w_n, zr_w, zr_args_n, zr_args, zr_tl_s, zr_tl_n, zr_hIsI, zr_hLsL, zr_hRsR, zr_hIsL, zr_hIsR, zr_hLsI, zr_hLsR, zr_hRsI, zr_hRsL, zr_hNsI, zr_hNsL, zr_hNsR, zr_hZsI, zr_hZsL, zr_hZsR, b2_01, Classical.not_not, Int32.toInt_toInt64, Int64.reduceToInt, zc_1000, zc_100, zc_10, zc_9, zc_2, ci_f, hM, ms_18 e, mR_37, aLen_337, aCod_337, ma_37 e, mR_38, aLen_338, aCod_338, ma_38 e, mR_42, aLen_342, aCod_342, ma_42 e, mR_43, aLen_343, aCod_343, ma_43 e, mR_44, aLen_344, aCod_344, ma_44 e, hpO]
            refine ⟨fun qc6 => ?_, fun qc6 => ?_⟩
            · try simp only [b2_0, Classical.not_not] at qc6
              try simp only [Int64.le_iff_toInt_le, Int64.lt_iff_toInt_lt, Int32.lt_iff_toInt_lt, Int32.le_iff_toInt_le, Int32.toInt_toInt64, Int64.reduceToInt, Int32.reduceToInt, Int.reduceNeg, Classical.not_not, i32e, l_add] at qc6
              refine st b_X12_slip_111 _ _ k_X12_slip_111 _ _ _ _ _ ?_
              simp only [b_X12_slip_111, zr_iconst, zr_nil, zr_cons, ↓reduceIte, Nat.reduceAdd, Nat.reduceEqDiff, Nat.reduceLeDiff, Nat.reduceMul, Nat.reduceSub, Int32.reduceOfInt, Int64.reduceOfInt, Int64.reduceOfNat, true_and, and_true, false_and, and_false, or_false, false_or, true_or, or_true, Int.reduceEq, reduceCtorEq, or_self, and_self, ne_eq, not_false_eq_true, not_true_eq_false, eq_self, Nat.le_refl, Nat.zero_le, zr_eI, zr_eL, zr_eR, zr_pI, zr_pL, zr_pR, zr_pO, zr_pV, zq_pA0, zq_pA, zr_get, zr_put_n, zr_put, zr_rem_n, zr_rem, zr_cat_i, zr_cat_l, zr_cat_q, zr_w_n, zr_w, zr_args_n, zr_args, zr_tl_s, zr_tl_n, zr_hIsI, zr_hLsL, zr_hRsR, zr_hIsL, zr_hIsR, zr_hLsI, zr_hLsR, zr_hRsI, zr_hRsL, zr_hNsI, zr_hNsL, zr_hNsR, zr_hZsI, zr_hZsL, zr_hZsR, b2_01, Classical.not_not, Int32.toInt_toInt64, Int64.reduceToInt, zc_1000, zc_100, zc_10, zc_9, zc_2, ci_f, hM, ms_18 e, mR_37, aLen_337, aCod_337, ma_37 e, mR_38, aLen_338, aCod_338, ma_38 e, mR_42, aLen_342, aCod_342, ma_42 e, mR_43, aLen_343, aCod_343, ma_43 e, mR_44, aLen_344, aCod_344, ma_44 e, hpO]
              refine st b_X12_slip_112 _ _ k_X12_slip_112 _ _ _ _ _ ?_
              simp only [b_X12_slip_112, zr_T, zr_bipush, zr_cP_ne, zr_ifc, zr_iload, zr_iret, zr_istore, zr_rt_a, zr_rt_i, zr_rt_l, zr_rt_n, zr_rt_z, zr_nil, zr_cons, ↓reduceIte, Nat.reduceAdd, Nat.reduceEqDiff, Nat.reduceLeDiff, Nat.reduceMul, Nat.reduceSub, Int32.reduceOfInt, Int64.reduceOfInt, Int64.reduceOfNat, true_and, and_true, false_and, and_false, or_false, false_or, true_or, or_true, Int.reduceEq, reduceCtorEq, or_self, and_self, ne_eq, not_false_eq_true, not_true_eq_false, eq_self, Nat.le_refl, Nat.zero_le, zr_eI, zr_eL, zr_eR, zr_pI, zr_pL, zr_pR, zr_pO, zr_pV, zq_pA0, zq_pA, zr_get, zr_put_n, zr_put, zr_rem_n, zr_rem, zr_cat_i, zr_cat_l, zr_cat_q, zr_w_n, zr_w, zr_args_n, zr_args, zr_tl_s, zr_tl_n, zr_hIsI, zr_hLsL, zr_hRsR, zr_hIsL, zr_hIsR, zr_hLsI, zr_hLsR, zr_hRsI, zr_hRsL, zr_hNsI, zr_hNsL, zr_hNsR, zr_hZsI, zr_hZsL, zr_hZsR, b2_01, Classical.not_not, Int32.toInt_toInt64, Int64.reduceToInt, zc_1000, zc_100, zc_10, zc_9, zc_2, ci_f, hM, ms_18 e, mR_37, aLen_337, aCod_337, ma_37 e, mR_38, aLen_338, aCod_338, ma_38 e, mR_42, aLen_342, aCod_342, ma_42 e, mR_43, aLen_343, aCod_343, ma_43 e, mR_44, aLen_344, aCod_344, ma_44 e, hpO]
              refine ⟨fun qc7 => ?_, fun qc7 => ?_⟩
              · try simp only [b2_0, Classical.not_not] at qc7
                try simp only [Int64.le_iff_toInt_le, Int64.lt_iff_toInt_lt, Int32.lt_iff_toInt_lt, Int32.le_iff_toInt_le, Int32.toInt_toInt64, Int64.reduceToInt, Int32.reduceToInt, Int.reduceNeg, Classical.not_not, i32e, l_add] at qc7
                all_goals
                  refine st b_X12_slip_122 _ _ k_X12_slip_122 _ _ _ _ _ ?_
                  simp only [b_X12_slip_122, zr_T, zr_aload_n0, zr_get2, zr_iast, zr_iconst, zr_iload_n1, zr_iload_n2, zr_iload_n3, zr_iret, zr_rt_a, zr_rt_i, zr_rt_l, zr_rt_n, zr_rt_z, zr_nil, zr_cons, ↓reduceIte, Nat.reduceAdd, Nat.reduceEqDiff, Nat.reduceLeDiff, Nat.reduceMul, Nat.reduceSub, Int32.reduceOfInt, Int64.reduceOfInt, Int64.reduceOfNat, true_and, and_true, false_and, and_false, or_false, false_or, true_or, or_true, Int.reduceEq, reduceCtorEq, or_self, and_self, ne_eq, not_false_eq_true, not_true_eq_false, eq_self, Nat.le_refl, Nat.zero_le, zr_eI, zr_eL, zr_eR, zr_pI, zr_pL, zr_pR, zr_pO, zr_pV, zq_pA0, zq_pA, zr_get, zr_put_n, zr_put, zr_rem_n, zr_rem, zr_cat_i, zr_cat_l, zr_cat_q, zr_w_n, zr_w, zr_args_n, zr_args, zr_tl_s, zr_tl_n, zr_hIsI, zr_hLsL, zr_hRsR, zr_hIsL, zr_hIsR, zr_hLsI, zr_hLsR, zr_hRsI, zr_hRsL, zr_hNsI, zr_hNsL, zr_hNsR, zr_hZsI, zr_hZsL, zr_hZsR, b2_01, Classical.not_not, Int32.toInt_toInt64, Int64.reduceToInt, zc_1000, zc_100, zc_10, zc_9, zc_2, ci_f, hM, ms_18 e, mR_37, aLen_337, aCod_337, ma_37 e, mR_38, aLen_338, aCod_338, ma_38 e, mR_42, aLen_342, aCod_342, ma_42 e, mR_43, aLen_343, aCod_343, ma_43 e, mR_44, aLen_344, aCod_344, ma_44 e, hpO]
                  refine ⟨by first | exact vpi (by omega) | with_reducible exact vp_in_nI (by omega) (by omega), ?_⟩
                  refine ⟨by first | exact vpi (by omega) | with_reducible exact vp_in_nI (by omega) (by omega), ?_⟩
                  refine qi' ?_ (by repeat (first | exact z_sC.rf | exact hsc | refine z_sC.I ?_ (by decide) | refine z_sC.L ?_ (by decide))) hM'
                  simp only [mv_thr, mv_sLs, mv_moved, e, mw_18, mx_37, mx_38, mx_42, mx_43, mx_44]
                  unfold o_slip
                  (repeat' split) <;> (first | rfl | (exfalso; omega))
              · try simp only [b2_0, Classical.not_not] at qc7
                try simp only [Int64.le_iff_toInt_le, Int64.lt_iff_toInt_lt, Int32.lt_iff_toInt_lt, Int32.le_iff_toInt_le, Int32.toInt_toInt64, Int64.reduceToInt, Int32.reduceToInt, Int.reduceNeg, Classical.not_not, i32e, l_add] at qc7
                all_goals
                  refine qi' ?_ (by repeat (first | exact z_sC.rf | exact hsc | refine z_sC.I ?_ (by decide) | refine z_sC.L ?_ (by decide))) hM'
                  simp only [mv_thr, mv_sLs, mv_moved, e, mw_18, mx_37, mx_38, mx_42, mx_43, mx_44]
                  unfold o_slip
                  (repeat' split) <;> (first | rfl | (exfalso; omega))
            · try simp only [b2_0, Classical.not_not] at qc6
              try simp only [Int64.le_iff_toInt_le, Int64.lt_iff_toInt_lt, Int32.lt_iff_toInt_lt, Int32.le_iff_toInt_le, Int32.toInt_toInt64, Int64.reduceToInt, Int32.reduceToInt, Int.reduceNeg, Classical.not_not, i32e, l_add] at qc6
              refine st b_X12_slip_112 _ _ k_X12_slip_112 _ _ _ _ _ ?_
              simp only [b_X12_slip_112, zr_T, zr_bipush, zr_cP_ne, zr_ifc, zr_iload, zr_iret, zr_istore, zr_rt_a, zr_rt_i, zr_rt_l, zr_rt_n, zr_rt_z, zr_nil, zr_cons, ↓reduceIte, Nat.reduceAdd, Nat.reduceEqDiff, Nat.reduceLeDiff, Nat.reduceMul, Nat.reduceSub, Int32.reduceOfInt, Int64.reduceOfInt, Int64.reduceOfNat, true_and, and_true, false_and, and_false, or_false, false_or, true_or, or_true, Int.reduceEq, reduceCtorEq, or_self, and_self, ne_eq, not_false_eq_true, not_true_eq_false, eq_self, Nat.le_refl, Nat.zero_le, zr_eI, zr_eL, zr_eR, zr_pI, zr_pL, zr_pR, zr_pO, zr_pV, zq_pA0, zq_pA, zr_get, zr_put_n, zr_put, zr_rem_n, zr_rem, zr_cat_i, zr_cat_l, zr_cat_q, zr_w_n, zr_w, zr_args_n, zr_args, zr_tl_s, zr_tl_n, zr_hIsI, zr_hLsL, zr_hRsR, zr_hIsL, zr_hIsR, zr_hLsI, zr_hLsR, zr_hRsI, zr_hRsL, zr_hNsI, zr_hNsL, zr_hNsR, zr_hZsI, zr_hZsL, zr_hZsR, b2_01, Classical.not_not, Int32.toInt_toInt64, Int64.reduceToInt, zc_1000, zc_100, zc_10, zc_9, zc_2, ci_f, hM, ms_18 e, mR_37, aLen_337, aCod_337, ma_37 e, mR_38, aLen_338, aCod_338, ma_38 e, mR_42, aLen_342, aCod_342, ma_42 e, mR_43, aLen_343, aCod_343, ma_43 e, mR_44, aLen_344, aCod_344, ma_44 e, hpO]
              refine ⟨fun qc8 => ?_, fun qc8 => ?_⟩
              · try simp only [b2_0, Classical.not_not] at qc8
                try simp only [Int64.le_iff_toInt_le, Int64.lt_iff_toInt_lt, Int32.lt_iff_toInt_lt, Int32.le_iff_toInt_le, Int32.toInt_toInt64, Int64.reduceToInt, Int32.reduceToInt, Int.reduceNeg, Classical.not_not, i32e, l_add] at qc8
                all_goals
                  refine st b_X12_slip_122 _ _ k_X12_slip_122 _ _ _ _ _ ?_
                  simp only [b_X12_slip_122, zr_T, zr_aload_n0, zr_get2, zr_iast, zr_iconst, zr_iload_n1, zr_iload_n2, zr_iload_n3, zr_iret, zr_rt_a, zr_rt_i, zr_rt_l, zr_rt_n, zr_rt_z, zr_nil, zr_cons, ↓reduceIte, Nat.reduceAdd, Nat.reduceEqDiff, Nat.reduceLeDiff, Nat.reduceMul, Nat.reduceSub, Int32.reduceOfInt, Int64.reduceOfInt, Int64.reduceOfNat, true_and, and_true, false_and, and_false, or_false, false_or, true_or, or_true, Int.reduceEq, reduceCtorEq, or_self, and_self, ne_eq, not_false_eq_true, not_true_eq_false, eq_self, Nat.le_refl, Nat.zero_le, zr_eI, zr_eL, zr_eR, zr_pI, zr_pL, zr_pR, zr_pO, zr_pV, zq_pA0, zq_pA, zr_get, zr_put_n, zr_put, zr_rem_n, zr_rem, zr_cat_i, zr_cat_l, zr_cat_q, zr_w_n, zr_w, zr_args_n, zr_args, zr_tl_s, zr_tl_n, zr_hIsI, zr_hLsL, zr_hRsR, zr_hIsL, zr_hIsR, zr_hLsI, zr_hLsR, zr_hRsI, zr_hRsL, zr_hNsI, zr_hNsL, zr_hNsR, zr_hZsI, zr_hZsL, zr_hZsR, b2_01, Classical.not_not, Int32.toInt_toInt64, Int64.reduceToInt, zc_1000, zc_100, zc_10, zc_9, zc_2, ci_f, hM, ms_18 e, mR_37, aLen_337, aCod_337, ma_37 e, mR_38, aLen_338, aCod_338, ma_38 e, mR_42, aLen_342, aCod_342, ma_42 e, mR_43, aLen_343, aCod_343, ma_43 e, mR_44, aLen_344, aCod_344, ma_44 e, hpO]
                  refine ⟨by first | exact vpi (by omega) | with_reducible exact vp_in_nI (by omega) (by omega), ?_⟩
                  refine ⟨by first | exact vpi (by omega) | with_reducible exact vp_in_nI (by omega) (by omega), ?_⟩
                  refine qi' ?_ (by repeat (first | exact z_sC.rf | exact hsc | refine z_sC.I ?_ (by decide) | refine z_sC.L ?_ (by decide))) hM'
                  simp only [mv_thr, mv_sLs, mv_moved, e, mw_18, mx_37, mx_38, mx_42, mx_43, mx_44]
                  unfold o_slip
                  (repeat' split) <;> (first | rfl | (exfalso; omega))
              · try simp only [b2_0, Classical.not_not] at qc8
                try simp only [Int64.le_iff_toInt_le, Int64.lt_iff_toInt_lt, Int32.lt_iff_toInt_lt, Int32.le_iff_toInt_le, Int32.toInt_toInt64, Int64.reduceToInt, Int32.reduceToInt, Int.reduceNeg, Classical.not_not, i32e, l_add] at qc8
                all_goals
                  refine qi' ?_ (by repeat (first | exact z_sC.rf | exact hsc | refine z_sC.I ?_ (by decide) | refine z_sC.L ?_ (by decide))) hM'
                  simp only [mv_thr, mv_sLs, mv_moved, e, mw_18, mx_37, mx_38, mx_42, mx_43, mx_44]
                  unfold o_slip
                  (repeat' split) <;> (first | rfl | (exfalso; omega))
          · try simp only [b2_0, Classical.not_not] at qc5
            try simp only [Int64.le_iff_toInt_le, Int64.lt_iff_toInt_lt, Int32.lt_iff_toInt_lt, Int32.le_iff_toInt_le, Int32.toInt_toInt64, Int64.reduceToInt, Int32.reduceToInt, Int.reduceNeg, Classical.not_not, i32e, l_add] at qc5
            refine cp0 (by omega) lk_X12_205 (rc_14 rfl) (m_isAccount l G _ (by omega) S _ (by simp only [mv_thr, e]) (z_MR.I hM') inv _) (Nat.le_refl _) (Nat.le_refl _) ?_
            simp only [zr_aload_n0, zr_cP_eq, zr_get2, zr_goto, zr_iald, zr_icmp, zr_iconst, zr_ifc, zr_iload_n1, zr_iload_n3, zr_nil, zr_cons, ↓reduceIte, Nat.reduceAdd, Nat.reduceEqDiff, Nat.reduceLeDiff, Nat.reduceMul, Nat.reduceSub, Int32.reduceOfInt, Int64.reduceOfInt, Int64.reduceOfNat, true_and, and_true, false_and, and_false, or_false, false_or, true_or, or_true, Int.reduceEq, reduceCtorEq, or_self, and_self, ne_eq, not_false_eq_true, not_true_eq_false, eq_self, Nat.le_refl, Nat.zero_le, zr_eI, zr_eL, zr_eR, zr_pI, zr_pL, zr_pR, zr_pO, zr_pV, zq_pA0, zq_pA, zr_get, zr_put_n, zr_put, zr_rem_n, zr_rem, zr_cat_i, zr_cat_l, zr_cat_q, zr_w_n, zr_w, zr_args_n, zr_args, zr_tl_s, zr_tl_n, zr_hIsI, zr_hLsL, zr_hRsR, zr_hIsL, zr_hIsR, zr_hLsI, zr_hLsR, zr_hRsI, zr_hRsL, zr_hNsI, zr_hNsL, zr_hNsR, zr_hZsI, zr_hZsL, zr_hZsR, b2_01, Classical.not_not, Int32.toInt_toInt64, Int64.reduceToInt, zc_1000, zc_100, zc_10, zc_9, zc_2, ci_f, hM, ms_18 e, mR_37, aLen_337, aCod_337, ma_37 e, mR_38, aLen_338, aCod_338, ma_38 e, mR_42, aLen_342, aCod_342, ma_42 e, mR_43, aLen_343, aCod_343, ma_43 e, mR_44, aLen_344, aCod_344, ma_44 e, hpO]
            refine ⟨fun qc9 => ?_, fun qc9 => ?_⟩
            · try simp only [b2_0, Classical.not_not] at qc9
              try simp only [Int64.le_iff_toInt_le, Int64.lt_iff_toInt_lt, Int32.lt_iff_toInt_lt, Int32.le_iff_toInt_le, Int32.toInt_toInt64, Int64.reduceToInt, Int32.reduceToInt, Int.reduceNeg, Classical.not_not, i32e, l_add] at qc9
              refine st b_X12_slip_99 _ _ k_X12_slip_99 _ _ _ _ _ ?_
              simp only [b_X12_slip_99, zr_goto, zr_iconst, zr_nil, zr_cons, ↓reduceIte, Nat.reduceAdd, Nat.reduceEqDiff, Nat.reduceLeDiff, Nat.reduceMul, Nat.reduceSub, Int32.reduceOfInt, Int64.reduceOfInt, Int64.reduceOfNat, true_and, and_true, false_and, and_false, or_false, false_or, true_or, or_true, Int.reduceEq, reduceCtorEq, or_self, and_self, ne_eq, not_false_eq_true, not_true_eq_false, eq_self, Nat.le_refl, Nat.zero_le, zr_eI, zr_eL, zr_eR, zr_pI, zr_pL, zr_pR, zr_pO, zr_pV, zq_pA0, zq_pA, zr_get, zr_put_n, zr_put, zr_rem_n, zr_rem, zr_cat_i, zr_cat_l, zr_cat_q, zr_w_n, zr_w, zr_args_n, zr_args, zr_tl_s, zr_tl_n, zr_hIsI, zr_hLsL, zr_hRsR, zr_hIsL, zr_hIsR, zr_hLsI, zr_hLsR, zr_hRsI, zr_hRsL, zr_hNsI, zr_hNsL, zr_hNsR, zr_hZsI, zr_hZsL, zr_hZsR, b2_01, Classical.not_not, Int32.toInt_toInt64, Int64.reduceToInt, zc_1000, zc_100, zc_10, zc_9, zc_2, ci_f, hM, ms_18 e, mR_37, aLen_337, aCod_337, ma_37 e, mR_38, aLen_338, aCod_338, ma_38 e, mR_42, aLen_342, aCod_342, ma_42 e, mR_43, aLen_343, aCod_343, ma_43 e, mR_44, aLen_344, aCod_344, ma_44 e, hpO]
              refine st b_X12_slip_112 _ _ k_X12_slip_112 _ _ _ _ _ ?_
              simp only [b_X12_slip_112, zr_T, zr_bipush, zr_cP_ne, zr_ifc, zr_iload, zr_iret, zr_istore, zr_rt_a, zr_rt_i, zr_rt_l, zr_rt_n, zr_rt_z, zr_nil, zr_cons, ↓reduceIte, Nat.reduceAdd, Nat.reduceEqDiff, Nat.reduceLeDiff, Nat.reduceMul, Nat.reduceSub, Int32.reduceOfInt, Int64.reduceOfInt, Int64.reduceOfNat, true_and, and_true, false_and, and_false, or_false, false_or, true_or, or_true, Int.reduceEq, reduceCtorEq, or_self, and_self, ne_eq, not_false_eq_true, not_true_eq_false, eq_self, Nat.le_refl, Nat.zero_le, zr_eI, zr_eL, zr_eR, zr_pI, zr_pL, zr_pR, zr_pO, zr_pV, zq_pA0, zq_pA, zr_get, zr_put_n, zr_put, zr_rem_n, zr_rem, zr_cat_i, zr_cat_l, zr_cat_q, zr_w_n, zr_w, zr_args_n, zr_args, zr_tl_s, zr_tl_n, zr_hIsI, zr_hLsL, zr_hRsR, zr_hIsL, zr_hIsR, zr_hLsI, zr_hLsR, zr_hRsI, zr_hRsL, zr_hNsI, zr_hNsL, zr_hNsR, zr_hZsI, zr_hZsL, zr_hZsR, b2_01, Classical.not_not, Int32.toInt_toInt64, Int64.reduceToInt, zc_1000, zc_100, zc_10, zc_9, zc_2, ci_f, hM, ms_18 e, mR_37, aLen_337, aCod_337, ma_37 e, mR_38, aLen_338, aCod_338, ma_38 e, mR_42, aLen_342, aCod_342, ma_42 e, mR_43, aLen_343, aCod_343, ma_43 e, mR_44, aLen_344, aCod_344, ma_44 e, hpO]
              refine ⟨fun qc10 => ?_, fun qc10 => ?_⟩
              · try simp only [b2_0, Classical.not_not] at qc10
                try simp only [Int64.le_iff_toInt_le, Int64.lt_iff_toInt_lt, Int32.lt_iff_toInt_lt, Int32.le_iff_toInt_le, Int32.toInt_toInt64, Int64.reduceToInt, Int32.reduceToInt, Int.reduceNeg, Classical.not_not, i32e, l_add] at qc10
                all_goals
                  refine st b_X12_slip_122 _ _ k_X12_slip_122 _ _ _ _ _ ?_
                  simp only [b_X12_slip_122, zr_T, zr_aload_n0, zr_get2, zr_iast, zr_iconst, zr_iload_n1, zr_iload_n2, zr_iload_n3, zr_iret, zr_rt_a, zr_rt_i, zr_rt_l, zr_rt_n, zr_rt_z, zr_nil, zr_cons, ↓reduceIte, Nat.reduceAdd, Nat.reduceEqDiff, Nat.reduceLeDiff, Nat.reduceMul, Nat.reduceSub, Int32.reduceOfInt, Int64.reduceOfInt, Int64.reduceOfNat, true_and, and_true, false_and, and_false, or_false, false_or, true_or, or_true, Int.reduceEq, reduceCtorEq, or_self, and_self, ne_eq, not_false_eq_true, not_true_eq_false, eq_self, Nat.le_refl, Nat.zero_le, zr_eI, zr_eL, zr_eR, zr_pI, zr_pL, zr_pR, zr_pO, zr_pV, zq_pA0, zq_pA, zr_get, zr_put_n, zr_put, zr_rem_n, zr_rem, zr_cat_i, zr_cat_l, zr_cat_q, zr_w_n, zr_w, zr_args_n, zr_args, zr_tl_s, zr_tl_n, zr_hIsI, zr_hLsL, zr_hRsR, zr_hIsL, zr_hIsR, zr_hLsI, zr_hLsR, zr_hRsI, zr_hRsL, zr_hNsI, zr_hNsL, zr_hNsR, zr_hZsI, zr_hZsL, zr_hZsR, b2_01, Classical.not_not, Int32.toInt_toInt64, Int64.reduceToInt, zc_1000, zc_100, zc_10, zc_9, zc_2, ci_f, hM, ms_18 e, mR_37, aLen_337, aCod_337, ma_37 e, mR_38, aLen_338, aCod_338, ma_38 e, mR_42, aLen_342, aCod_342, ma_42 e, mR_43, aLen_343, aCod_343, ma_43 e, mR_44, aLen_344, aCod_344, ma_44 e, hpO]
                  refine ⟨by first | exact vpi (by omega) | with_reducible exact vp_in_nI (by omega) (by omega), ?_⟩
                  refine ⟨by first | exact vpi (by omega) | with_reducible exact vp_in_nI (by omega) (by omega), ?_⟩
                  refine qi' ?_ (by repeat (first | exact z_sC.rf | exact hsc | refine z_sC.I ?_ (by decide) | refine z_sC.L ?_ (by decide))) hM'
                  simp only [mv_thr, mv_sLs, mv_moved, e, mw_18, mx_37, mx_38, mx_42, mx_43, mx_44]
                  unfold o_slip
                  (repeat' split) <;> (first | rfl | (exfalso; omega))
              · try simp only [b2_0, Classical.not_not] at qc10
                try simp only [Int64.le_iff_toInt_le, Int64.lt_iff_toInt_lt, Int32.lt_iff_toInt_lt, Int32.le_iff_toInt_le, Int32.toInt_toInt64, Int64.reduceToInt, Int32.reduceToInt, Int.reduceNeg, Classical.not_not, i32e, l_add] at qc10
                all_goals
                  refine qi' ?_ (by repeat (first | exact z_sC.rf | exact hsc | refine z_sC.I ?_ (by decide) | refine z_sC.L ?_ (by decide))) hM'
                  simp only [mv_thr, mv_sLs, mv_moved, e, mw_18, mx_37, mx_38, mx_42, mx_43, mx_44]
                  unfold o_slip
                  (repeat' split) <;> (first | rfl | (exfalso; omega))
            · try simp only [b2_0, Classical.not_not] at qc9
              try simp only [Int64.le_iff_toInt_le, Int64.lt_iff_toInt_lt, Int32.lt_iff_toInt_lt, Int32.le_iff_toInt_le, Int32.toInt_toInt64, Int64.reduceToInt, Int32.reduceToInt, Int.reduceNeg, Classical.not_not, i32e, l_add] at qc9
              refine ⟨by first | exact vpi (by omega) | with_reducible exact vp_in_nI (by omega) (by omega), ?_⟩
              refine ⟨fun qc11 => ?_, fun qc11 => ?_⟩
              · try simp only [b2_0, Classical.not_not] at qc11
                try simp only [Int64.le_iff_toInt_le, Int64.lt_iff_toInt_lt, Int32.lt_iff_toInt_lt, Int32.le_iff_toInt_le, Int32.toInt_toInt64, Int64.reduceToInt, Int32.reduceToInt, Int.reduceNeg, Classical.not_not, i32e, l_add] at qc11
                refine st b_X12_slip_99 _ _ k_X12_slip_99 _ _ _ _ _ ?_
                simp only [b_X12_slip_99, zr_goto, zr_iconst, zr_nil, zr_cons, ↓reduceIte, Nat.reduceAdd, Nat.reduceEqDiff, Nat.reduceLeDiff, Nat.reduceMul, Nat.reduceSub, Int32.reduceOfInt, Int64.reduceOfInt, Int64.reduceOfNat, true_and, and_true, false_and, and_false, or_false, false_or, true_or, or_true, Int.reduceEq, reduceCtorEq, or_self, and_self, ne_eq, not_false_eq_true, not_true_eq_false, eq_self, Nat.le_refl, Nat.zero_le, zr_eI, zr_eL, zr_eR, zr_pI, zr_pL, zr_pR, zr_pO, zr_pV, zq_pA0, zq_pA, zr_get, zr_put_n, zr_put, zr_rem_n, zr_rem, zr_cat_i, zr_cat_l, zr_cat_q, zr_w_n, zr_w, zr_args_n, zr_args, zr_tl_s, zr_tl_n, zr_hIsI, zr_hLsL, zr_hRsR, zr_hIsL, zr_hIsR, zr_hLsI, zr_hLsR, zr_hRsI, zr_hRsL, zr_hNsI, zr_hNsL, zr_hNsR, zr_hZsI, zr_hZsL, zr_hZsR, b2_01, Classical.not_not, Int32.toInt_toInt64, Int64.reduceToInt, zc_1000, zc_100, zc_10, zc_9, zc_2, ci_f, hM, ms_18 e, mR_37, aLen_337, aCod_337, ma_37 e, mR_38, aLen_338, aCod_338, ma_38 e, mR_42, aLen_342, aCod_342, ma_42 e, mR_43, aLen_343, aCod_343, ma_43 e, mR_44, aLen_344, aCod_344, ma_44 e, hpO]
                refine st b_X12_slip_112 _ _ k_X12_slip_112 _ _ _ _ _ ?_
                simp only [b_X12_slip_112, zr_T, zr_bipush, zr_cP_ne, zr_ifc, zr_iload, zr_iret, zr_istore, zr_rt_a, zr_rt_i, zr_rt_l, zr_rt_n, zr_rt_z, zr_nil, zr_cons, ↓reduceIte, Nat.reduceAdd, Nat.reduceEqDiff, Nat.reduceLeDiff, Nat.reduceMul, Nat.reduceSub, Int32.reduceOfInt, Int64.reduceOfInt, Int64.reduceOfNat, true_and, and_true, false_and, and_false, or_false, false_or, true_or, or_true, Int.reduceEq, reduceCtorEq, or_self, and_self, ne_eq, not_false_eq_true, not_true_eq_false, eq_self, Nat.le_refl, Nat.zero_le, zr_eI, zr_eL, zr_eR, zr_pI, zr_pL, zr_pR, zr_pO, zr_pV, zq_pA0, zq_pA, zr_get, zr_put_n, zr_put, zr_rem_n, zr_rem, zr_cat_i, zr_cat_l, zr_cat_q, zr_w_n, zr_w, zr_args_n, zr_args, zr_tl_s, zr_tl_n, zr_hIsI, zr_hLsL, zr_hRsR, zr_hIsL, zr_hIsR, zr_hLsI, zr_hLsR, zr_hRsI, zr_hRsL, zr_hNsI, zr_hNsL, zr_hNsR, zr_hZsI, zr_hZsL, zr_hZsR, b2_01, Classical.not_not, Int32.toInt_toInt64, Int64.reduceToInt, zc_1000, zc_100, zc_10, zc_9, zc_2, ci_f, hM, ms_18 e, mR_37, aLen_337, aCod_337, ma_37 e, mR_38, aLen_338, aCod_338, ma_38 e, mR_42, aLen_342, aCod_342, ma_42 e, mR_43, aLen_343, aCod_343, ma_43 e, mR_44, aLen_344, aCod_344, ma_44 e, hpO]
                refine ⟨fun qc12 => ?_, fun qc12 => ?_⟩
                · try simp only [b2_0, Classical.not_not] at qc12
                  try simp only [Int64.le_iff_toInt_le, Int64.lt_iff_toInt_lt, Int32.lt_iff_toInt_lt, Int32.le_iff_toInt_le, Int32.toInt_toInt64, Int64.reduceToInt, Int32.reduceToInt, Int.reduceNeg, Classical.not_not, i32e, l_add] at qc12
                  all_goals
                    refine st b_X12_slip_122 _ _ k_X12_slip_122 _ _ _ _ _ ?_
                    simp only [b_X12_slip_122, zr_T, zr_aload_n0, zr_get2, zr_iast, zr_iconst, zr_iload_n1, zr_iload_n2, zr_iload_n3, zr_iret, zr_rt_a, zr_rt_i, zr_rt_l, zr_rt_n, zr_rt_z, zr_nil, zr_cons, ↓reduceIte, Nat.reduceAdd, Nat.reduceEqDiff, Nat.reduceLeDiff, Nat.reduceMul, Nat.reduceSub, Int32.reduceOfInt, Int64.reduceOfInt, Int64.reduceOfNat, true_and, and_true, false_and, and_false, or_false, false_or, true_or, or_true, Int.reduceEq, reduceCtorEq, or_self, and_self, ne_eq, not_false_eq_true, not_true_eq_false, eq_self, Nat.le_refl, Nat.zero_le, zr_eI, zr_eL, zr_eR, zr_pI, zr_pL, zr_pR, zr_pO, zr_pV, zq_pA0, zq_pA, zr_get, zr_put_n, zr_put, zr_rem_n, zr_rem, zr_cat_i, zr_cat_l, zr_cat_q, zr_w_n, zr_w, zr_args_n, zr_args, zr_tl_s, zr_tl_n, zr_hIsI, zr_hLsL, zr_hRsR, zr_hIsL, zr_hIsR, zr_hLsI, zr_hLsR, zr_hRsI, zr_hRsL, zr_hNsI, zr_hNsL, zr_hNsR, zr_hZsI, zr_hZsL, zr_hZsR, b2_01, Classical.not_not, Int32.toInt_toInt64, Int64.reduceToInt, zc_1000, zc_100, zc_10, zc_9, zc_2, ci_f, hM, ms_18 e, mR_37, aLen_337, aCod_337, ma_37 e, mR_38, aLen_338, aCod_338, ma_38 e, mR_42, aLen_342, aCod_342, ma_42 e, mR_43, aLen_343, aCod_343, ma_43 e, mR_44, aLen_344, aCod_344, ma_44 e, hpO]
                    refine ⟨by first | exact vpi (by omega) | with_reducible exact vp_in_nI (by omega) (by omega), ?_⟩
                    refine ⟨by first | exact vpi (by omega) | with_reducible exact vp_in_nI (by omega) (by omega), ?_⟩
                    refine qi' ?_ (by repeat (first | exact z_sC.rf | exact hsc | refine z_sC.I ?_ (by decide) | refine z_sC.L ?_ (by decide))) hM'
                    simp only [mv_thr, mv_sLs, mv_moved, e, mw_18, mx_37, mx_38, mx_42, mx_43, mx_44]
                    unfold o_slip
                    (repeat' split) <;> (first | rfl | (exfalso; omega))
                · try simp only [b2_0, Classical.not_not] at qc12
                  try simp only [Int64.le_iff_toInt_le, Int64.lt_iff_toInt_lt, Int32.lt_iff_toInt_lt, Int32.le_iff_toInt_le, Int32.toInt_toInt64, Int64.reduceToInt, Int32.reduceToInt, Int.reduceNeg, Classical.not_not, i32e, l_add] at qc12
                  all_goals
                    refine qi' ?_ (by repeat (first | exact z_sC.rf | exact hsc | refine z_sC.I ?_ (by decide) | refine z_sC.L ?_ (by decide))) hM'
                    simp only [mv_thr, mv_sLs, mv_moved, e, mw_18, mx_37, mx_38, mx_42, mx_43, mx_44]
                    unfold o_slip
                    (repeat' split) <;> (first | rfl | (exfalso; omega))
              · try simp only [b2_0, Classical.not_not] at qc11
                try simp only [Int64.le_iff_toInt_le, Int64.lt_iff_toInt_lt, Int32.lt_iff_toInt_lt, Int32.le_iff_toInt_le, Int32.toInt_toInt64, Int64.reduceToInt, Int32.reduceToInt, Int.reduceNeg, Classical.not_not, i32e, l_add] at qc11
                refine ⟨by first | exact vpi (by omega) | with_reducible exact vp_in_nI (by omega) (by omega), ?_⟩
                refine ⟨fun qc13 => ?_, fun qc13 => ?_⟩
                · try simp only [b2_0, Classical.not_not] at qc13
                  try simp only [Int64.le_iff_toInt_le, Int64.lt_iff_toInt_lt, Int32.lt_iff_toInt_lt, Int32.le_iff_toInt_le, Int32.toInt_toInt64, Int64.reduceToInt, Int32.reduceToInt, Int.reduceNeg, Classical.not_not, i32e, l_add] at qc13
                  refine st b_X12_slip_99 _ _ k_X12_slip_99 _ _ _ _ _ ?_
                  simp only [b_X12_slip_99, zr_goto, zr_iconst, zr_nil, zr_cons, ↓reduceIte, Nat.reduceAdd, Nat.reduceEqDiff, Nat.reduceLeDiff, Nat.reduceMul, Nat.reduceSub, Int32.reduceOfInt, Int64.reduceOfInt, Int64.reduceOfNat, true_and, and_true, false_and, and_false, or_false, false_or, true_or, or_true, Int.reduceEq, reduceCtorEq, or_self, and_self, ne_eq, not_false_eq_true, not_true_eq_false, eq_self, Nat.le_refl, Nat.zero_le, zr_eI, zr_eL, zr_eR, zr_pI, zr_pL, zr_pR, zr_pO, zr_pV, zq_pA0, zq_pA, zr_get, zr_put_n, zr_put, zr_rem_n, zr_rem, zr_cat_i, zr_cat_l, zr_cat_q, zr_w_n, zr_w, zr_args_n, zr_args, zr_tl_s, zr_tl_n, zr_hIsI, zr_hLsL, zr_hRsR, zr_hIsL, zr_hIsR, zr_hLsI, zr_hLsR, zr_hRsI, zr_hRsL, zr_hNsI, zr_hNsL, zr_hNsR, zr_hZsI, zr_hZsL, zr_hZsR, b2_01, Classical.not_not, Int32.toInt_toInt64, Int64.reduceToInt, zc_1000, zc_100, zc_10, zc_9, zc_2, ci_f, hM, ms_18 e, mR_37, aLen_337, aCod_337, ma_37 e, mR_38, aLen_338, aCod_338, ma_38 e, mR_42, aLen_342, aCod_342, ma_42 e, mR_43, aLen_343, aCod_343, ma_43 e, mR_44, aLen_344, aCod_344, ma_44 e, hpO]
                  refine st b_X12_slip_112 _ _ k_X12_slip_112 _ _ _ _ _ ?_
                  simp only [b_X12_slip_112, zr_T, zr_bipush, zr_cP_ne, zr_ifc, zr_iload, zr_iret, zr_istore, zr_rt_a, zr_rt_i, zr_rt_l, zr_rt_n, zr_rt_z, zr_nil, zr_cons, ↓reduceIte, Nat.reduceAdd, Nat.reduceEqDiff, Nat.reduceLeDiff, Nat.reduceMul, Nat.reduceSub, Int32.reduceOfInt, Int64.reduceOfInt, Int64.reduceOfNat, true_and, and_true, false_and, and_false, or_false, false_or, true_or, or_true, Int.reduceEq, reduceCtorEq, or_self, and_self, ne_eq, not_false_eq_true, not_true_eq_false, eq_self, Nat.le_refl, Nat.zero_le, zr_eI, zr_eL, zr_eR, zr_pI, zr_pL, zr_pR, zr_pO, zr_pV, zq_pA0, zq_pA, zr_get, zr_put_n, zr_put, zr_rem_n, zr_rem, zr_cat_i, zr_cat_l, zr_cat_q, zr_w_n, zr_w, zr_args_n, zr_args, zr_tl_s, zr_tl_n, zr_hIsI, zr_hLsL, zr_hRsR, zr_hIsL, zr_hIsR, zr_hLsI, zr_hLsR, zr_hRsI, zr_hRsL, zr_hNsI, zr_hNsL, zr_hNsR, zr_hZsI, zr_hZsL, zr_hZsR, b2_01, Classical.not_not, Int32.toInt_toInt64, Int64.reduceToInt, zc_1000, zc_100, zc_10, zc_9, zc_2, ci_f, hM, ms_18 e, mR_37, aLen_337, aCod_337, ma_37 e, mR_38, aLen_338, aCod_338, ma_38 e, mR_42, aLen_342, aCod_342, ma_42 e, mR_43, aLen_343, aCod_343, ma_43 e, mR_44, aLen_344, aCod_344, ma_44 e, hpO]
                  refine ⟨fun qc14 => ?_, fun qc14 => ?_⟩
                  · try simp only [b2_0, Classical.not_not] at qc14
                    try simp only [Int64.le_iff_toInt_le, Int64.lt_iff_toInt_lt, Int32.lt_iff_toInt_lt, Int32.le_iff_toInt_le, Int32.toInt_toInt64, Int64.reduceToInt, Int32.reduceToInt, Int.reduceNeg, Classical.not_not, i32e, l_add] at qc14
                    all_goals
                      refine st b_X12_slip_122 _ _ k_X12_slip_122 _ _ _ _ _ ?_
                      simp only [b_X12_slip_122, zr_T, zr_aload_n0, zr_get2, zr_iast, zr_iconst, zr_iload_n1, zr_iload_n2, zr_iload_n3, zr_iret, zr_rt_a, zr_rt_i, zr_rt_l, zr_rt_n, zr_rt_z, zr_nil, zr_cons, ↓reduceIte, Nat.reduceAdd, Nat.reduceEqDiff, Nat.reduceLeDiff, Nat.reduceMul, Nat.reduceSub, Int32.reduceOfInt, Int64.reduceOfInt, Int64.reduceOfNat, true_and, and_true, false_and, and_false, or_false, false_or, true_or, or_true, Int.reduceEq, reduceCtorEq, or_self, and_self, ne_eq, not_false_eq_true, not_true_eq_false, eq_self, Nat.le_refl, Nat.zero_le, zr_eI, zr_eL, zr_eR, zr_pI, zr_pL, zr_pR, zr_pO, zr_pV, zq_pA0, zq_pA, zr_get, zr_put_n, zr_put, zr_rem_n, zr_rem, zr_cat_i, zr_cat_l, zr_cat_q, zr_w_n, zr_w, zr_args_n, zr_args, zr_tl_s, zr_tl_n, zr_hIsI, zr_hLsL, zr_hRsR, zr_hIsL, zr_hIsR, zr_hLsI, zr_hLsR, zr_hRsI, zr_hRsL, zr_hNsI, zr_hNsL, zr_hNsR, zr_hZsI, zr_hZsL, zr_hZsR, b2_01, Classical.not_not, Int32.toInt_toInt64, Int64.reduceToInt, zc_1000, zc_100, zc_10, zc_9, zc_2, ci_f, hM, ms_18 e, mR_37, aLen_337, aCod_337, ma_37 e, mR_38, aLen_338, aCod_338, ma_38 e, mR_42, aLen_342, aCod_342, ma_42 e, mR_43, aLen_343, aCod_343, ma_43 e, mR_44, aLen_344, aCod_344, ma_44 e, hpO]
                      refine ⟨by first | exact vpi (by omega) | with_reducible exact vp_in_nI (by omega) (by omega), ?_⟩
                      refine ⟨by first | exact vpi (by omega) | with_reducible exact vp_in_nI (by omega) (by omega), ?_⟩
                      refine qi' ?_ (by repeat (first | exact z_sC.rf | exact hsc | refine z_sC.I ?_ (by decide) | refine z_sC.L ?_ (by decide))) hM'
                      simp only [mv_thr, mv_sLs, mv_moved, e, mw_18, mx_37, mx_38, mx_42, mx_43, mx_44]
                      unfold o_slip
                      (repeat' split) <;> (first | rfl | (exfalso; omega))
                  · try simp only [b2_0, Classical.not_not] at qc14
                    try simp only [Int64.le_iff_toInt_le, Int64.lt_iff_toInt_lt, Int32.lt_iff_toInt_lt, Int32.le_iff_toInt_le, Int32.toInt_toInt64, Int64.reduceToInt, Int32.reduceToInt, Int.reduceNeg, Classical.not_not, i32e, l_add] at qc14
                    all_goals
                      refine qi' ?_ (by repeat (first | exact z_sC.rf | exact hsc | refine z_sC.I ?_ (by decide) | refine z_sC.L ?_ (by decide))) hM'
                      simp only [mv_thr, mv_sLs, mv_moved, e, mw_18, mx_37, mx_38, mx_42, mx_43, mx_44]
                      unfold o_slip
                      (repeat' split) <;> (first | rfl | (exfalso; omega))
                · try simp only [b2_0, Classical.not_not] at qc13
                  try simp only [Int64.le_iff_toInt_le, Int64.lt_iff_toInt_lt, Int32.lt_iff_toInt_lt, Int32.le_iff_toInt_le, Int32.toInt_toInt64, Int64.reduceToInt, Int32.reduceToInt, Int.reduceNeg, Classical.not_not, i32e, l_add] at qc13
                  refine st b_X12_slip_112 _ _ k_X12_slip_112 _ _ _ _ _ ?_
                  simp only [b_X12_slip_112, zr_T, zr_bipush, zr_cP_ne, zr_ifc, zr_iload, zr_iret, zr_istore, zr_rt_a, zr_rt_i, zr_rt_l, zr_rt_n, zr_rt_z, zr_nil, zr_cons, ↓reduceIte, Nat.reduceAdd, Nat.reduceEqDiff, Nat.reduceLeDiff, Nat.reduceMul, Nat.reduceSub, Int32.reduceOfInt, Int64.reduceOfInt, Int64.reduceOfNat, true_and, and_true, false_and, and_false, or_false, false_or, true_or, or_true, Int.reduceEq, reduceCtorEq, or_self, and_self, ne_eq, not_false_eq_true, not_true_eq_false, eq_self, Nat.le_refl, Nat.zero_le, zr_eI, zr_eL, zr_eR, zr_pI, zr_pL, zr_pR, zr_pO, zr_pV, zq_pA0, zq_pA, zr_get, zr_put_n, zr_put, zr_rem_n, zr_rem, zr_cat_i, zr_cat_l, zr_cat_q, zr_w_n, zr_w, zr_args_n, zr_args, zr_tl_s, zr_tl_n, zr_hIsI, zr_hLsL, zr_hRsR, zr_hIsL, zr_hIsR, zr_hLsI, zr_hLsR, zr_hRsI, zr_hRsL, zr_hNsI, zr_hNsL, zr_hNsR, zr_hZsI, zr_hZsL, zr_hZsR, b2_01, Classical.not_not, Int32.toInt_toInt64, Int64.reduceToInt, zc_1000, zc_100, zc_10, zc_9, zc_2, ci_f, hM, ms_18 e, mR_37, aLen_337, aCod_337, ma_37 e, mR_38, aLen_338, aCod_338, ma_38 e, mR_42, aLen_342, aCod_342, ma_42 e, mR_43, aLen_343, aCod_343, ma_43 e, mR_44, aLen_344, aCod_344, ma_44 e, hpO]
                  refine ⟨fun qc15 => ?_, fun qc15 => ?_⟩
                  · try simp only [b2_0, Classical.not_not] at qc15
                    try simp only [Int64.le_iff_toInt_le, Int64.lt_iff_toInt_lt, Int32.lt_iff_toInt_lt, Int32.le_iff_toInt_le, Int32.toInt_toInt64, Int64.reduceToInt, Int32.reduceToInt, Int.reduceNeg, Classical.not_not, i32e, l_add] at qc15
                    all_goals
                      refine st b_X12_slip_122 _ _ k_X12_slip_122 _ _ _ _ _ ?_
                      simp only [b_X12_slip_122, zr_T, zr_aload_n0, zr_get2, zr_iast, zr_iconst, zr_iload_n1, zr_iload_n2, zr_iload_n3, zr_iret, zr_rt_a, zr_rt_i, zr_rt_l, zr_rt_n, zr_rt_z, zr_nil, zr_cons, ↓reduceIte, Nat.reduceAdd, Nat.reduceEqDiff, Nat.reduceLeDiff, Nat.reduceMul, Nat.reduceSub, Int32.reduceOfInt, Int64.reduceOfInt, Int64.reduceOfNat, true_and, and_true, false_and, and_false, or_false, false_or, true_or, or_true, Int.reduceEq, reduceCtorEq, or_self, and_self, ne_eq, not_false_eq_true, not_true_eq_false, eq_self, Nat.le_refl, Nat.zero_le, zr_eI, zr_eL, zr_eR, zr_pI, zr_pL, zr_pR, zr_pO, zr_pV, zq_pA0, zq_pA, zr_get, zr_put_n, zr_put, zr_rem_n, zr_rem, zr_cat_i, zr_cat_l, zr_cat_q, zr_w_n, zr_w, zr_args_n, zr_args, zr_tl_s, zr_tl_n, zr_hIsI, zr_hLsL, zr_hRsR, zr_hIsL, zr_hIsR, zr_hLsI, zr_hLsR, zr_hRsI, zr_hRsL, zr_hNsI, zr_hNsL, zr_hNsR, zr_hZsI, zr_hZsL, zr_hZsR, b2_01, Classical.not_not, Int32.toInt_toInt64, Int64.reduceToInt, zc_1000, zc_100, zc_10, zc_9, zc_2, ci_f, hM, ms_18 e, mR_37, aLen_337, aCod_337, ma_37 e, mR_38, aLen_338, aCod_338, ma_38 e, mR_42, aLen_342, aCod_342, ma_42 e, mR_43, aLen_343, aCod_343, ma_43 e, mR_44, aLen_344, aCod_344, ma_44 e, hpO]
                      refine ⟨by first | exact vpi (by omega) | with_reducible exact vp_in_nI (by omega) (by omega), ?_⟩
                      refine ⟨by first | exact vpi (by omega) | with_reducible exact vp_in_nI (by omega) (by omega), ?_⟩
                      refine qi' ?_ (by repeat (first | exact z_sC.rf | exact hsc | refine z_sC.I ?_ (by decide) | refine z_sC.L ?_ (by decide))) hM'
                      simp only [mv_thr, mv_sLs, mv_moved, e, mw_18, mx_37, mx_38, mx_42, mx_43, mx_44]
                      unfold o_slip
                      (repeat' split) <;> (first | rfl | (exfalso; omega))
                  · try simp only [b2_0, Classical.not_not] at qc15
                    try simp only [Int64.le_iff_toInt_le, Int64.lt_iff_toInt_lt, Int32.lt_iff_toInt_lt, Int32.le_iff_toInt_le, Int32.toInt_toInt64, Int64.reduceToInt, Int32.reduceToInt, Int.reduceNeg, Classical.not_not, i32e, l_add] at qc15
                    all_goals
                      refine qi' ?_ (by repeat (first | exact z_sC.rf | exact hsc | refine z_sC.I ?_ (by decide) | refine z_sC.L ?_ (by decide))) hM'
                      simp only [mv_thr, mv_sLs, mv_moved, e, mw_18, mx_37, mx_38, mx_42, mx_43, mx_44]
                      unfold o_slip
                      (repeat' split) <;> (first | rfl | (exfalso; omega))
        · try simp only [b2_0, Classical.not_not] at qc4
          try simp only [Int64.le_iff_toInt_le, Int64.lt_iff_toInt_lt, Int32.lt_iff_toInt_lt, Int32.le_iff_toInt_le, Int32.toInt_toInt64, Int64.reduceToInt, Int32.reduceToInt, Int.reduceNeg, Classical.not_not, i32e, l_add] at qc4
          refine cp0 (by omega) lk_X12_177 trivial (m_in l G _ _ _ _ _) (Nat.le_refl _) (Nat.le_refl _) ?_
          simp only [zr_goto, zr_nil, zr_cons, ↓reduceIte, Nat.reduceAdd, Nat.reduceEqDiff, Nat.reduceLeDiff, Nat.reduceMul, Nat.reduceSub, Int32.reduceOfInt, Int64.reduceOfInt, Int64.reduceOfNat, true_and, and_true, false_and, and_false, or_false, false_or, true_or, or_true, Int.reduceEq, reduceCtorEq, or_self, and_self, ne_eq, not_false_eq_true, not_true_eq_false, eq_self, Nat.le_refl, Nat.zero_le, zr_eI, zr_eL, zr_eR, zr_pI, zr_pL, zr_pR, zr_pO, zr_pV, zq_pA0, zq_pA, zr_get, zr_put_n, zr_put, zr_rem_n, zr_rem, zr_cat_i, zr_cat_l, zr_cat_q, zr_w_n, zr_w, zr_args_n, zr_args, zr_tl_s, zr_tl_n, zr_hIsI, zr_hLsL, zr_hRsR, zr_hIsL, zr_hIsR, zr_hLsI, zr_hLsR, zr_hRsI, zr_hRsL, zr_hNsI, zr_hNsL, zr_hNsR, zr_hZsI, zr_hZsL, zr_hZsR, b2_01, Classical.not_not, Int32.toInt_toInt64, Int64.reduceToInt, zc_1000, zc_100, zc_10, zc_9, zc_2, ci_f, hM, ms_18 e, mR_37, aLen_337, aCod_337, ma_37 e, mR_38, aLen_338, aCod_338, ma_38 e, mR_42, aLen_342, aCod_342, ma_42 e, mR_43, aLen_343, aCod_343, ma_43 e, mR_44, aLen_344, aCod_344, ma_44 e, hpO]
          refine st b_X12_slip_112 _ _ k_X12_slip_112 _ _ _ _ _ ?_
          simp only [b_X12_slip_112, zr_T, zr_bipush, zr_cP_ne, zr_ifc, zr_iload, zr_iret, zr_istore, zr_rt_a, zr_rt_i, zr_rt_l, zr_rt_n, zr_rt_z, zr_nil, zr_cons, ↓reduceIte, Nat.reduceAdd, Nat.reduceEqDiff, Nat.reduceLeDiff, Nat.reduceMul, Nat.reduceSub, Int32.reduceOfInt, Int64.reduceOfInt, Int64.reduceOfNat, true_and, and_true, false_and, and_false, or_false, false_or, true_or, or_true, Int.reduceEq, reduceCtorEq, or_self, and_self, ne_eq, not_false_eq_true, not_true_eq_false, eq_self, Nat.le_refl, Nat.zero_le, zr_eI, zr_eL, zr_eR, zr_pI, zr_pL, zr_pR, zr_pO, zr_pV, zq_pA0, zq_pA, zr_get, zr_put_n, zr_put, zr_rem_n, zr_rem, zr_cat_i, zr_cat_l, zr_cat_q, zr_w_n, zr_w, zr_args_n, zr_args, zr_tl_s, zr_tl_n, zr_hIsI, zr_hLsL, zr_hRsR, zr_hIsL, zr_hIsR, zr_hLsI, zr_hLsR, zr_hRsI, zr_hRsL, zr_hNsI, zr_hNsL, zr_hNsR, zr_hZsI, zr_hZsL, zr_hZsR, b2_01, Classical.not_not, Int32.toInt_toInt64, Int64.reduceToInt, zc_1000, zc_100, zc_10, zc_9, zc_2, ci_f, hM, ms_18 e, mR_37, aLen_337, aCod_337, ma_37 e, mR_38, aLen_338, aCod_338, ma_38 e, mR_42, aLen_342, aCod_342, ma_42 e, mR_43, aLen_343, aCod_343, ma_43 e, mR_44, aLen_344, aCod_344, ma_44 e, hpO]
          refine ⟨fun qc16 => ?_, fun qc16 => ?_⟩
          · try simp only [b2_0, Classical.not_not] at qc16
            try simp only [Int64.le_iff_toInt_le, Int64.lt_iff_toInt_lt, Int32.lt_iff_toInt_lt, Int32.le_iff_toInt_le, Int32.toInt_toInt64, Int64.reduceToInt, Int32.reduceToInt, Int.reduceNeg, Classical.not_not, i32e, l_add] at qc16
            all_goals
              refine st b_X12_slip_122 _ _ k_X12_slip_122 _ _ _ _ _ ?_
              simp only [b_X12_slip_122, zr_T, zr_aload_n0, zr_get2, zr_iast, zr_iconst, zr_iload_n1, zr_iload_n2, zr_iload_n3, zr_iret, zr_rt_a, zr_rt_i, zr_rt_l, zr_rt_n, zr_rt_z, zr_nil, zr_cons, ↓reduceIte, Nat.reduceAdd, Nat.reduceEqDiff, Nat.reduceLeDiff, Nat.reduceMul, Nat.reduceSub, Int32.reduceOfInt, Int64.reduceOfInt, Int64.reduceOfNat, true_and, and_true, false_and, and_false, or_false, false_or, true_or, or_true, Int.reduceEq, reduceCtorEq, or_self, and_self, ne_eq, not_false_eq_true, not_true_eq_false, eq_self, Nat.le_refl, Nat.zero_le, zr_eI, zr_eL, zr_eR, zr_pI, zr_pL, zr_pR, zr_pO, zr_pV, zq_pA0, zq_pA, zr_get, zr_put_n, zr_put, zr_rem_n, zr_rem, zr_cat_i, zr_cat_l, zr_cat_q, zr_w_n, zr_w, zr_args_n, zr_args, zr_tl_s, zr_tl_n, zr_hIsI, zr_hLsL, zr_hRsR, zr_hIsL, zr_hIsR, zr_hLsI, zr_hLsR, zr_hRsI, zr_hRsL, zr_hNsI, zr_hNsL, zr_hNsR, zr_hZsI, zr_hZsL, zr_hZsR, b2_01, Classical.not_not, Int32.toInt_toInt64, Int64.reduceToInt, zc_1000, zc_100, zc_10, zc_9, zc_2, ci_f, hM, ms_18 e, mR_37, aLen_337, aCod_337, ma_37 e, mR_38, aLen_338, aCod_338, ma_38 e, mR_42, aLen_342, aCod_342, ma_42 e, mR_43, aLen_343, aCod_343, ma_43 e, mR_44, aLen_344, aCod_344, ma_44 e, hpO]
              refine ⟨by first | exact vpi (by omega) | with_reducible exact vp_in_nI (by omega) (by omega), ?_⟩
              refine ⟨by first | exact vpi (by omega) | with_reducible exact vp_in_nI (by omega) (by omega), ?_⟩
              refine qi' ?_ (by repeat (first | exact z_sC.rf | exact hsc | refine z_sC.I ?_ (by decide) | refine z_sC.L ?_ (by decide))) hM'
              simp only [mv_thr, mv_sLs, mv_moved, e, mw_18, mx_37, mx_38, mx_42, mx_43, mx_44]
              unfold o_slip
              (repeat' split) <;> (first | rfl | (exfalso; omega))
          · try simp only [b2_0, Classical.not_not] at qc16
            try simp only [Int64.le_iff_toInt_le, Int64.lt_iff_toInt_lt, Int32.lt_iff_toInt_lt, Int32.le_iff_toInt_le, Int32.toInt_toInt64, Int64.reduceToInt, Int32.reduceToInt, Int.reduceNeg, Classical.not_not, i32e, l_add] at qc16
            all_goals
              refine qi' ?_ (by repeat (first | exact z_sC.rf | exact hsc | refine z_sC.I ?_ (by decide) | refine z_sC.L ?_ (by decide))) hM'
              simp only [mv_thr, mv_sLs, mv_moved, e, mw_18, mx_37, mx_38, mx_42, mx_43, mx_44]
              unfold o_slip
              (repeat' split) <;> (first | rfl | (exfalso; omega))
      · try simp only [b2_0, Classical.not_not] at qc3
        try simp only [Int64.le_iff_toInt_le, Int64.lt_iff_toInt_lt, Int32.lt_iff_toInt_lt, Int32.le_iff_toInt_le, Int32.toInt_toInt64, Int64.reduceToInt, Int32.reduceToInt, Int.reduceNeg, Classical.not_not, i32e, l_add] at qc3
        refine st b_X12_slip_42 _ _ k_X12_slip_42 _ _ _ _ _ ?_
        simp only [b_X12_slip_42, zr_T, zr_bipush, zr_iret, zr_rt_a, zr_rt_i, zr_rt_l, zr_rt_n, zr_rt_z, zr_nil, zr_cons, ↓reduceIte, Nat.reduceAdd, Nat.reduceEqDiff, Nat.reduceLeDiff, Nat.reduceMul, Nat.reduceSub, Int32.reduceOfInt, Int64.reduceOfInt, Int64.reduceOfNat, true_and, and_true, false_and, and_false, or_false, false_or, true_or, or_true, Int.reduceEq, reduceCtorEq, or_self, and_self, ne_eq, not_false_eq_true, not_true_eq_false, eq_self, Nat.le_refl, Nat.zero_le, zr_eI, zr_eL, zr_eR, zr_pI, zr_pL, zr_pR, zr_pO, zr_pV, zq_pA0, zq_pA, zr_get, zr_put_n, zr_put, zr_rem_n, zr_rem, zr_cat_i, zr_cat_l, zr_cat_q, zr_w_n, zr_w, zr_args_n, zr_args, zr_tl_s, zr_tl_n, zr_hIsI, zr_hLsL, zr_hRsR, zr_hIsL, zr_hIsR, zr_hLsI, zr_hLsR, zr_hRsI, zr_hRsL, zr_hNsI, zr_hNsL, zr_hNsR, zr_hZsI, zr_hZsL, zr_hZsR, b2_01, Classical.not_not, Int32.toInt_toInt64, Int64.reduceToInt, zc_1000, zc_100, zc_10, zc_9, zc_2, ci_f, hM, ms_18 e, mR_37, aLen_337, aCod_337, ma_37 e, mR_38, aLen_338, aCod_338, ma_38 e, mR_42, aLen_342, aCod_342, ma_42 e, mR_43, aLen_343, aCod_343, ma_43 e, mR_44, aLen_344, aCod_344, ma_44 e, hpO]
        refine qi' ?_ (by repeat (first | exact z_sC.rf | exact hsc | refine z_sC.I ?_ (by decide) | refine z_sC.L ?_ (by decide))) hM'
        simp only [mv_thr, mv_sLs, mv_moved, e, mw_18, mx_37, mx_38, mx_42, mx_43, mx_44]
        unfold o_slip
        (repeat' split) <;> (first | rfl | (exfalso; omega))
theorem m_swapped (l : Launch) (G : z_G) (d : Nat) (h : z_H) (v : Int64) (p : Int32) (hp : inp p 0 8) : z_MT l G d yX12_swapped cX12_swapped 9 (some .long) [z_l v, z_i p] h 0 0 (fun r h' => r = some (z_l (o_sw v (ci p))) ∧ h' = h) := by
  have kp := ci_int (x := p) (by omega)
  refine z_mt2 14 false ⟨by decide, rfl, fun q => absurd q (by decide)⟩ (by show 3 ≤ 9; decide) (fun A st wk => ?_)
  refine st b_X12_swapped_0 _ _ k_X12_swapped_0 _ _ _ _ _ ?_
  simp only [b_X12_swapped_0, zr_iconst, zr_istore, zr_lconst1, zr_lstore_n3, zr_nil, zr_cons, ↓reduceIte, Nat.reduceAdd, Nat.reduceEqDiff, Nat.reduceLeDiff, Nat.reduceMul, Nat.reduceSub, Int32.reduceOfInt, Int64.reduceOfInt, Int64.reduceOfNat, true_and, and_true, false_and, and_false, or_false, false_or, true_or, or_true, Int.reduceEq, reduceCtorEq, or_self, and_self, ne_eq, not_false_eq_true, not_true_eq_false, eq_self, Nat.le_refl, Nat.zero_le, zr_eI, zr_eL, zr_eR, zr_pI, zr_pL, zr_pR, zr_pO, zr_pV, zq_pA0, zq_pA, zr_get, zr_put_n, zr_put, zr_rem_n, zr_rem, zr_cat_i, zr_cat_l, zr_cat_q, zr_w_n, zr_w, zr_args_n, zr_args, zr_tl_s, zr_tl_n, zr_hIsI, zr_hLsL, zr_hRsR, zr_hIsL, zr_hIsR, zr_hLsI, zr_hLsR, zr_hRsI, zr_hRsL, zr_hNsI, zr_hNsL, zr_hNsR, zr_hZsI, zr_hZsL, zr_hZsR, b2_01, Classical.not_not, Int32.toInt_toInt64, Int64.reduceToInt, zc_1000, zc_100, zc_10, zc_9, zc_2, ci_f]
  refine (show ∀ i, i ≤ ci p → A 5 [(0, z_l v), (2, z_i p), (3, z_l (o_un i)), (5, z_i (nI i))] [] h 0 0 from z_loop (fun i hi ih => ?_)) 0 (Nat.zero_le _)
  have ti := toIntS (show i < 2000000000 by omega)
  have un : ¬ o_un i = 0 := o_un_ne (by omega)
  refine st b_X12_swapped_5 _ _ k_X12_swapped_5 _ _ _ _ _ ?_
  simp only [b_X12_swapped_5, zr_cP_ge, zr_goto, zr_icmp, zr_iinc, zr_iload, zr_iload_n2, zr_ldc2, zr_lload_n3, zr_lmul, zr_lstore_n3, zr_nil, zr_cons, ↓reduceIte, Nat.reduceAdd, Nat.reduceEqDiff, Nat.reduceLeDiff, Nat.reduceMul, Nat.reduceSub, Int32.reduceOfInt, Int64.reduceOfInt, Int64.reduceOfNat, true_and, and_true, false_and, and_false, or_false, false_or, true_or, or_true, Int.reduceEq, reduceCtorEq, or_self, and_self, ne_eq, not_false_eq_true, not_true_eq_false, eq_self, Nat.le_refl, Nat.zero_le, zr_eI, zr_eL, zr_eR, zr_pI, zr_pL, zr_pR, zr_pO, zr_pV, zq_pA0, zq_pA, zr_get, zr_put_n, zr_put, zr_rem_n, zr_rem, zr_cat_i, zr_cat_l, zr_cat_q, zr_w_n, zr_w, zr_args_n, zr_args, zr_tl_s, zr_tl_n, zr_hIsI, zr_hLsL, zr_hRsR, zr_hIsL, zr_hIsR, zr_hLsI, zr_hLsR, zr_hRsI, zr_hRsL, zr_hNsI, zr_hNsL, zr_hNsR, zr_hZsI, zr_hZsL, zr_hZsR, b2_01, Classical.not_not, Int32.toInt_toInt64, Int64.reduceToInt, zc_1000, zc_100, zc_10, zc_9, zc_2, ci_f]
  refine ⟨fun qc21 => ?_, fun qc21 => ?_⟩
  · try simp only [b2_0, Classical.not_not] at qc21
    try simp only [Int64.le_iff_toInt_le, Int64.lt_iff_toInt_lt, Int32.lt_iff_toInt_lt, Int32.le_iff_toInt_le, Int32.toInt_toInt64, Int64.reduceToInt, Int32.reduceToInt, Int.reduceNeg, Classical.not_not, i32e, l_add] at qc21
    refine st b_X12_swapped_23 _ _ k_X12_swapped_23 _ _ _ _ _ ?_
    simp only [b_X12_swapped_23, zr_T, zr_ladd, zr_ldc2, zr_ldiv, zr_lload, zr_lload_n0, zr_lload_n3, zr_lmul, zr_lrem, zr_lret, zr_lstore, zr_lsub, zr_rt_a, zr_rt_i, zr_rt_l, zr_rt_n, zr_rt_z, zr_nil, zr_cons, ↓reduceIte, Nat.reduceAdd, Nat.reduceEqDiff, Nat.reduceLeDiff, Nat.reduceMul, Nat.reduceSub, Int32.reduceOfInt, Int64.reduceOfInt, Int64.reduceOfNat, true_and, and_true, false_and, and_false, or_false, false_or, true_or, or_true, Int.reduceEq, reduceCtorEq, or_self, and_self, ne_eq, not_false_eq_true, not_true_eq_false, eq_self, Nat.le_refl, Nat.zero_le, zr_eI, zr_eL, zr_eR, zr_pI, zr_pL, zr_pR, zr_pO, zr_pV, zq_pA0, zq_pA, zr_get, zr_put_n, zr_put, zr_rem_n, zr_rem, zr_cat_i, zr_cat_l, zr_cat_q, zr_w_n, zr_w, zr_args_n, zr_args, zr_tl_s, zr_tl_n, zr_hIsI, zr_hLsL, zr_hRsR, zr_hIsL, zr_hIsR, zr_hLsI, zr_hLsR, zr_hRsI, zr_hRsL, zr_hNsI, zr_hNsL, zr_hNsR, zr_hZsI, zr_hZsL, zr_hZsR, b2_01, Classical.not_not, Int32.toInt_toInt64, Int64.reduceToInt, zc_1000, zc_100, zc_10, zc_9, zc_2, ci_f]
    refine ⟨un, ?_⟩
    refine ⟨un, ?_⟩
    have ei : i = ci p := by omega
    subst ei
    rfl
  · try simp only [b2_0, Classical.not_not] at qc21
    try simp only [Int64.le_iff_toInt_le, Int64.lt_iff_toInt_lt, Int32.lt_iff_toInt_lt, Int32.le_iff_toInt_le, Int32.toInt_toInt64, Int64.reduceToInt, Int32.reduceToInt, Int.reduceNeg, Classical.not_not, i32e, l_add] at qc21
    rw [nI_1]
    exact ih (by omega)
