/-! the model's methods: mend, loan, paste, suspects -/
theorem inv_57 {S : z_M} {x : Int32} (inv : INV S) : INV (uA S 57 (nE S) x) := by
  unfold INV
  refine ⟨inv.cK, inv.cA, inv.cR, inv.cO, inv.cL, inv.cF, inv.cE, inv.cD, inv.cU, inv.fl, inv.rm, inv.ter, inv.kin, inv.row, inv.acc, inv.rec, inv.ord, inv.lin, inv.fol, ?_, inv.sus, inv.tak⟩
  intro e he
  have he' : e < nE S := he
  rw [uA_of (by omega)]
  exact inv.len e he
theorem m_mend (l : Launch) (G : z_G) (d : Nat) (hd : 3 ≤ d) (S : z_M) (h : z_H) (e : mv h = S) (hM : z_MR h) (inv : INV S) (o : Int32) : z_MT l G d yX12_mend cX12_mend 3 (some .boolean) [z_r 14 0, z_i o] h 0 0 (Qi h (o_mend S o)) := by
  have hM' := hM
  unfold z_MR at hM
  have huO : nO S = ci (mS S 18) := rfl
  have htO := inv.cO.t
  have hbO := inv.cO.2
  have hpO : (mS S 18 - 1).toInt = (ci (mS S 18) : Int) - 1 := by
    rw [sub32 (by rw [htO, show (1 : Int32).toInt = 1 from rfl]; omega) (by rw [htO, show (1 : Int32).toInt = 1 from rfl]; omega), htO]
    rfl
  have huL : nL S = ci (mS S 19) := rfl
  have htL := inv.cL.t
  have hbL := inv.cL.2
  have hpL : (mS S 19 - 1).toInt = (ci (mS S 19) : Int) - 1 := by
    rw [sub32 (by rw [htL, show (1 : Int32).toInt = 1 from rfl]; omega) (by rw [htL, show (1 : Int32).toInt = 1 from rfl]; omega), htL]
    rfl
  have hrm : o_rm S = 2000 - nL S - 3 * o_wt (mA S 42) (nO S) := rfl
  have hrt := toIntS (show o_rm S < 2000000000 by omega)
  refine z_mt2 14 false ⟨by decide, rfl, fun q => absurd q (by decide)⟩ (by show 2 ≤ 3; decide) (fun A st wk => ?_)
  refine st b_X12_mend_0 _ _ k_X12_mend_0 _ _ _ _ _ ?_
  simp only [b_X12_mend_0, zr_aload_n0, zr_bald, zr_cP_eq, zr_cP_ne, zr_call1, zr_get0, zr_get2, zr_i2l, zr_iald, zr_icmp, zr_iconst, zr_ifc, zr_iload_n1, zr_isub, zr_lconst0, zr_put0, zr_nil, zr_cons, ↓reduceIte, Nat.reduceAdd, Nat.reduceEqDiff, Nat.reduceLeDiff, Nat.reduceMul, Nat.reduceSub, Int32.reduceOfInt, Int64.reduceOfInt, Int64.reduceOfNat, true_and, and_true, false_and, and_false, or_false, false_or, true_or, or_true, Int.reduceEq, reduceCtorEq, or_self, and_self, ne_eq, not_false_eq_true, not_true_eq_false, eq_self, Nat.le_refl, Nat.zero_le, zr_eI, zr_eL, zr_eR, zr_pI, zr_pL, zr_pR, zr_pO, zr_pV, zq_pA0, zq_pA, zr_get, zr_put_n, zr_put, zr_rem_n, zr_rem, zr_cat_i, zr_cat_l, zr_cat_q, zr_w_n, zr_w, zr_args_n, zr_args, zr_tl_s, zr_tl_n, zr_hIsI, zr_hLsL, zr_hRsR, zr_hIsL, zr_hIsR, zr_hLsI, zr_hLsR, zr_hRsI, zr_hRsL, zr_hNsI, zr_hNsL, zr_hNsR, zr_hZsI, zr_hZsL, zr_hZsR, b2_01, Classical.not_not, Int32.toInt_toInt64, Int64.reduceToInt, zc_1000, zc_100, zc_10, zc_9, zc_2, ci_f, hM, ms_18 e, mR_38, aLen_338, aCod_338, ma_38 e, mR_42, aLen_342, aCod_342, ma_42 e, mR_43, aLen_343, aCod_343, ma_43 e, mR_45, aLen_345, aCod_345, ma_45 e, mR_46, aLen_346, aCod_346, ma_46 e, mR_47, aLen_347, aCod_347, mb_47 e, mR_48, aLen_348, aCod_348, ma_48 e, mR_50, aLen_350, aCod_350, ma_50 e, mR_52, aLen_352, aCod_352, ma_52 e, mR_54, aLen_354, aCod_354, mb_54 e, hpO]
  refine cp0 (by omega) lk_X12_177 trivial (m_in l G _ _ _ _ _) (Nat.le_refl _) (Nat.le_refl _) ?_
  simp only [zr_aload_n0, zr_bald, zr_cP_eq, zr_cP_ne, zr_get2, zr_iald, zr_icmp, zr_iconst, zr_ifc, zr_iload_n1, zr_nil, zr_cons, ↓reduceIte, Nat.reduceAdd, Nat.reduceEqDiff, Nat.reduceLeDiff, Nat.reduceMul, Nat.reduceSub, Int32.reduceOfInt, Int64.reduceOfInt, Int64.reduceOfNat, true_and, and_true, false_and, and_false, or_false, false_or, true_or, or_true, Int.reduceEq, reduceCtorEq, or_self, and_self, ne_eq, not_false_eq_true, not_true_eq_false, eq_self, Nat.le_refl, Nat.zero_le, zr_eI, zr_eL, zr_eR, zr_pI, zr_pL, zr_pR, zr_pO, zr_pV, zq_pA0, zq_pA, zr_get, zr_put_n, zr_put, zr_rem_n, zr_rem, zr_cat_i, zr_cat_l, zr_cat_q, zr_w_n, zr_w, zr_args_n, zr_args, zr_tl_s, zr_tl_n, zr_hIsI, zr_hLsL, zr_hRsR, zr_hIsL, zr_hIsR, zr_hLsI, zr_hLsR, zr_hRsI, zr_hRsL, zr_hNsI, zr_hNsL, zr_hNsR, zr_hZsI, zr_hZsL, zr_hZsR, b2_01, Classical.not_not, Int32.toInt_toInt64, Int64.reduceToInt, zc_1000, zc_100, zc_10, zc_9, zc_2, ci_f, hM, ms_18 e, mR_38, aLen_338, aCod_338, ma_38 e, mR_42, aLen_342, aCod_342, ma_42 e, mR_43, aLen_343, aCod_343, ma_43 e, mR_45, aLen_345, aCod_345, ma_45 e, mR_46, aLen_346, aCod_346, ma_46 e, mR_47, aLen_347, aCod_347, mb_47 e, mR_48, aLen_348, aCod_348, ma_48 e, mR_50, aLen_350, aCod_350, ma_50 e, mR_52, aLen_352, aCod_352, ma_52 e, mR_54, aLen_354, aCod_354, mb_54 e, hpO]
  refine ⟨fun qc1 => ?_, fun qc1 => ?_⟩
  · try simp only [b2_0, Classical.not_not] at qc1
    try simp only [Int64.le_iff_toInt_le, Int64.lt_iff_toInt_lt, Int32.lt_iff_toInt_lt, Int32.le_iff_toInt_le, Int32.toInt_toInt64, Int64.reduceToInt, Int32.reduceToInt, Int.reduceNeg, Classical.not_not, i32e, l_add] at qc1
    refine st b_X12_mend_50 _ _ k_X12_mend_50 _ _ _ _ _ ?_
    simp only [b_X12_mend_50, zr_T, zr_iconst, zr_iret, zr_rt_a, zr_rt_i, zr_rt_l, zr_rt_n, zr_rt_z, zr_nil, zr_cons, ↓reduceIte, Nat.reduceAdd, Nat.reduceEqDiff, Nat.reduceLeDiff, Nat.reduceMul, Nat.reduceSub, Int32.reduceOfInt, Int64.reduceOfInt, Int64.reduceOfNat, true_and, and_true, false_and, and_false, or_false, false_or, true_or, or_true, Int.reduceEq, reduceCtorEq, or_self, and_self, ne_eq, not_false_eq_true, not_true_eq_false, eq_self, Nat.le_refl, Nat.zero_le, zr_eI, zr_eL, zr_eR, zr_pI, zr_pL, zr_pR, zr_pO, zr_pV, zq_pA0, zq_pA, zr_get, zr_put_n, zr_put, zr_rem_n, zr_rem, zr_cat_i, zr_cat_l, zr_cat_q, zr_w_n, zr_w, zr_args_n, zr_args, zr_tl_s, zr_tl_n, zr_hIsI, zr_hLsL, zr_hRsR, zr_hIsL, zr_hIsR, zr_hLsI, zr_hLsR, zr_hRsI, zr_hRsL, zr_hNsI, zr_hNsL, zr_hNsR, zr_hZsI, zr_hZsL, zr_hZsR, b2_01, Classical.not_not, Int32.toInt_toInt64, Int64.reduceToInt, zc_1000, zc_100, zc_10, zc_9, zc_2, ci_f, hM, ms_18 e, mR_38, aLen_338, aCod_338, ma_38 e, mR_42, aLen_342, aCod_342, ma_42 e, mR_43, aLen_343, aCod_343, ma_43 e, mR_45, aLen_345, aCod_345, ma_45 e, mR_46, aLen_346, aCod_346, ma_46 e, mR_47, aLen_347, aCod_347, mb_47 e, mR_48, aLen_348, aCod_348, ma_48 e, mR_50, aLen_350, aCod_350, ma_50 e, mR_52, aLen_352, aCod_352, ma_52 e, mR_54, aLen_354, aCod_354, mb_54 e, hpO]
    refine qi' ?_ (by repeat (first | exact z_sC.rf | exact hsc | refine z_sC.I ?_ (by decide) | refine z_sC.L ?_ (by decide))) hM'
    simp only [mv_thr, mv_sLs, mv_moved, e, mw_18, mx_38, mx_42, mx_43, mx_45, mx_46, my_47, mx_48, mx_50, mx_52, my_54]
    unfold o_mend
    (repeat' split) <;> (first | rfl | (exfalso; omega))
  · try simp only [b2_0, Classical.not_not] at qc1
    try simp only [Int64.le_iff_toInt_le, Int64.lt_iff_toInt_lt, Int32.lt_iff_toInt_lt, Int32.le_iff_toInt_le, Int32.toInt_toInt64, Int64.reduceToInt, Int32.reduceToInt, Int.reduceNeg, Classical.not_not, i32e, l_add] at qc1
    refine ⟨by first | exact vpi (by omega) | with_reducible exact vp_in_nI (by omega) (by omega), ?_⟩
    refine ⟨fun qc2 => ?_, fun qc2 => ?_⟩
    · try simp only [b2_0, Classical.not_not] at qc2
      try simp only [Int64.le_iff_toInt_le, Int64.lt_iff_toInt_lt, Int32.lt_iff_toInt_lt, Int32.le_iff_toInt_le, Int32.toInt_toInt64, Int64.reduceToInt, Int32.reduceToInt, Int.reduceNeg, Classical.not_not, i32e, l_add] at qc2
      refine st b_X12_mend_50 _ _ k_X12_mend_50 _ _ _ _ _ ?_
      simp only [b_X12_mend_50, zr_T, zr_iconst, zr_iret, zr_rt_a, zr_rt_i, zr_rt_l, zr_rt_n, zr_rt_z, zr_nil, zr_cons, ↓reduceIte, Nat.reduceAdd, Nat.reduceEqDiff, Nat.reduceLeDiff, Nat.reduceMul, Nat.reduceSub, Int32.reduceOfInt, Int64.reduceOfInt, Int64.reduceOfNat, true_and, and_true, false_and, and_false, or_false, false_or, true_or, or_true, Int.reduceEq, reduceCtorEq, or_self, and_self, ne_eq, not_false_eq_true, not_true_eq_false, eq_self, Nat.le_refl, Nat.zero_le, zr_eI, zr_eL, zr_eR, zr_pI, zr_pL, zr_pR, zr_pO, zr_pV, zq_pA0, zq_pA, zr_get, zr_put_n, zr_put, zr_rem_n, zr_rem, zr_cat_i, zr_cat_l, zr_cat_q, zr_w_n, zr_w, zr_args_n, zr_args, zr_tl_s, zr_tl_n, zr_hIsI, zr_hLsL, zr_hRsR, zr_hIsL, zr_hIsR, zr_hLsI, zr_hLsR, zr_hRsI, zr_hRsL, zr_hNsI, zr_hNsL, zr_hNsR, zr_hZsI, zr_hZsL, zr_hZsR, b2_01, Classical.not_not, Int32.toInt_toInt64, Int64.reduceToInt, zc_1000, zc_100, zc_10, zc_9, zc_2, ci_f, hM, ms_18 e, mR_38, aLen_338, aCod_338, ma_38 e, mR_42, aLen_342, aCod_342, ma_42 e, mR_43, aLen_343, aCod_343, ma_43 e, mR_45, aLen_345, aCod_345, ma_45 e, mR_46, aLen_346, aCod_346, ma_46 e, mR_47, aLen_347, aCod_347, mb_47 e, mR_48, aLen_348, aCod_348, ma_48 e, mR_50, aLen_350, aCod_350, ma_50 e, mR_52, aLen_352, aCod_352, ma_52 e, mR_54, aLen_354, aCod_354, mb_54 e, hpO]
      refine qi' ?_ (by repeat (first | exact z_sC.rf | exact hsc | refine z_sC.I ?_ (by decide) | refine z_sC.L ?_ (by decide))) hM'
      simp only [mv_thr, mv_sLs, mv_moved, e, mw_18, mx_38, mx_42, mx_43, mx_45, mx_46, my_47, mx_48, mx_50, mx_52, my_54]
      unfold o_mend
      (repeat' split) <;> (first | rfl | (exfalso; omega))
    · try simp only [b2_0, Classical.not_not] at qc2
      try simp only [Int64.le_iff_toInt_le, Int64.lt_iff_toInt_lt, Int32.lt_iff_toInt_lt, Int32.le_iff_toInt_le, Int32.toInt_toInt64, Int64.reduceToInt, Int32.reduceToInt, Int.reduceNeg, Classical.not_not, i32e, l_add] at qc2
      refine ⟨by first | exact vpi (by omega) | with_reducible exact vp_in_nI (by omega) (by omega), ?_⟩
      refine ⟨fun qc3 => ?_, fun qc3 => ?_⟩
      · try simp only [b2_0, Classical.not_not] at qc3
        try simp only [Int64.le_iff_toInt_le, Int64.lt_iff_toInt_lt, Int32.lt_iff_toInt_lt, Int32.le_iff_toInt_le, Int32.toInt_toInt64, Int64.reduceToInt, Int32.reduceToInt, Int.reduceNeg, Classical.not_not, i32e, l_add] at qc3
        refine st b_X12_mend_50 _ _ k_X12_mend_50 _ _ _ _ _ ?_
        simp only [b_X12_mend_50, zr_T, zr_iconst, zr_iret, zr_rt_a, zr_rt_i, zr_rt_l, zr_rt_n, zr_rt_z, zr_nil, zr_cons, ↓reduceIte, Nat.reduceAdd, Nat.reduceEqDiff, Nat.reduceLeDiff, Nat.reduceMul, Nat.reduceSub, Int32.reduceOfInt, Int64.reduceOfInt, Int64.reduceOfNat, true_and, and_true, false_and, and_false, or_false, false_or, true_or, or_true, Int.reduceEq, reduceCtorEq, or_self, and_self, ne_eq, not_false_eq_true, not_true_eq_false, eq_self, Nat.le_refl, Nat.zero_le, zr_eI, zr_eL, zr_eR, zr_pI, zr_pL, zr_pR, zr_pO, zr_pV, zq_pA0, zq_pA, zr_get, zr_put_n, zr_put, zr_rem_n, zr_rem, zr_cat_i, zr_cat_l, zr_cat_q, zr_w_n, zr_w, zr_args_n, zr_args, zr_tl_s, zr_tl_n, zr_hIsI, zr_hLsL, zr_hRsR, zr_hIsL, zr_hIsR, zr_hLsI, zr_hLsR, zr_hRsI, zr_hRsL, zr_hNsI, zr_hNsL, zr_hNsR, zr_hZsI, zr_hZsL, zr_hZsR, b2_01, Classical.not_not, Int32.toInt_toInt64, Int64.reduceToInt, zc_1000, zc_100, zc_10, zc_9, zc_2, ci_f, hM, ms_18 e, mR_38, aLen_338, aCod_338, ma_38 e, mR_42, aLen_342, aCod_342, ma_42 e, mR_43, aLen_343, aCod_343, ma_43 e, mR_45, aLen_345, aCod_345, ma_45 e, mR_46, aLen_346, aCod_346, ma_46 e, mR_47, aLen_347, aCod_347, mb_47 e, mR_48, aLen_348, aCod_348, ma_48 e, mR_50, aLen_350, aCod_350, ma_50 e, mR_52, aLen_352, aCod_352, ma_52 e, mR_54, aLen_354, aCod_354, mb_54 e, hpO]
        refine qi' ?_ (by repeat (first | exact z_sC.rf | exact hsc | refine z_sC.I ?_ (by decide) | refine z_sC.L ?_ (by decide))) hM'
        simp only [mv_thr, mv_sLs, mv_moved, e, mw_18, mx_38, mx_42, mx_43, mx_45, mx_46, my_47, mx_48, mx_50, mx_52, my_54]
        unfold o_mend
        (repeat' split) <;> (first | rfl | (exfalso; omega))
      · try simp only [b2_0, Classical.not_not] at qc3
        try simp only [Int64.le_iff_toInt_le, Int64.lt_iff_toInt_lt, Int32.lt_iff_toInt_lt, Int32.le_iff_toInt_le, Int32.toInt_toInt64, Int64.reduceToInt, Int32.reduceToInt, Int.reduceNeg, Classical.not_not, i32e, l_add] at qc3
        refine ⟨by first | exact vpi (by omega) | with_reducible exact vp_in_nI (by omega) (by omega), ?_⟩
        refine ⟨fun qc4 => ?_, fun qc4 => ?_⟩
        · try simp only [b2_0, Classical.not_not] at qc4
          try simp only [Int64.le_iff_toInt_le, Int64.lt_iff_toInt_lt, Int32.lt_iff_toInt_lt, Int32.le_iff_toInt_le, Int32.toInt_toInt64, Int64.reduceToInt, Int32.reduceToInt, Int.reduceNeg, Classical.not_not, i32e, l_add] at qc4
          refine st b_X12_mend_52 _ _ k_X12_mend_52 _ _ _ _ _ ?_
          simp only [b_X12_mend_52, zr_T, zr_aload_n0, zr_cP_ge, zr_cP_ne, zr_call0, zr_get2, zr_iald, zr_icmp, zr_iconst, zr_iload_n1, zr_iload_n2, zr_iret, zr_istore_n2, zr_rt_a, zr_rt_i, zr_rt_l, zr_rt_n, zr_rt_z, zr_nil, zr_cons, ↓reduceIte, Nat.reduceAdd, Nat.reduceEqDiff, Nat.reduceLeDiff, Nat.reduceMul, Nat.reduceSub, Int32.reduceOfInt, Int64.reduceOfInt, Int64.reduceOfNat, true_and, and_true, false_and, and_false, or_false, false_or, true_or, or_true, Int.reduceEq, reduceCtorEq, or_self, and_self, ne_eq, not_false_eq_true, not_true_eq_false, eq_self, Nat.le_refl, Nat.zero_le, zr_eI, zr_eL, zr_eR, zr_pI, zr_pL, zr_pR, zr_pO, zr_pV, zq_pA0, zq_pA, zr_get, zr_put_n, zr_put, zr_rem_n, zr_rem, zr_cat_i, zr_cat_l, zr_cat_q, zr_w_n, zr_w, zr_args_n, zr_args, zr_tl_s, zr_tl_n, zr_hIsI, zr_hLsL, zr_hRsR, zr_hIsL, zr_hIsR, zr_hLsI, zr_hLsR, zr_hRsI, zr_hRsL, zr_hNsI, zr_hNsL, zr_hNsR, zr_hZsI, zr_hZsL, zr_hZsR, b2_01, Classical.not_not, Int32.toInt_toInt64, Int64.reduceToInt, zc_1000, zc_100, zc_10, zc_9, zc_2, ci_f, hM, ms_18 e, mR_38, aLen_338, aCod_338, ma_38 e, mR_42, aLen_342, aCod_342, ma_42 e, mR_43, aLen_343, aCod_343, ma_43 e, mR_45, aLen_345, aCod_345, ma_45 e, mR_46, aLen_346, aCod_346, ma_46 e, mR_47, aLen_347, aCod_347, mb_47 e, mR_48, aLen_348, aCod_348, ma_48 e, mR_50, aLen_350, aCod_350, ma_50 e, mR_52, aLen_352, aCod_352, ma_52 e, mR_54, aLen_354, aCod_354, mb_54 e, hpO]
          have k1 := ci_int (x := o) (by omega)
          have jo := (inv.ord.1 (ci o) (by omega)).2.2.2.2.2.2.2.2.1
          refine ⟨by first | exact vpi (by omega) | with_reducible exact vp_in_nI (by omega) (by omega), ?_⟩
          refine ⟨fun qc5 => ?_, fun qc5 => ?_⟩
          · try simp only [b2_0, Classical.not_not] at qc5
            try simp only [Int64.le_iff_toInt_le, Int64.lt_iff_toInt_lt, Int32.lt_iff_toInt_lt, Int32.le_iff_toInt_le, Int32.toInt_toInt64, Int64.reduceToInt, Int32.reduceToInt, Int.reduceNeg, Classical.not_not, i32e, l_add] at qc5
            refine st b_X12_mend_107 _ _ k_X12_mend_107 _ _ _ _ _ ?_
            simp only [b_X12_mend_107, zr_aload_n0, zr_get2, zr_iald, zr_iast, zr_iconst, zr_iload_n1, zr_iload_n2, zr_lald, zr_last, zr_nil, zr_cons, ↓reduceIte, Nat.reduceAdd, Nat.reduceEqDiff, Nat.reduceLeDiff, Nat.reduceMul, Nat.reduceSub, Int32.reduceOfInt, Int64.reduceOfInt, Int64.reduceOfNat, true_and, and_true, false_and, and_false, or_false, false_or, true_or, or_true, Int.reduceEq, reduceCtorEq, or_self, and_self, ne_eq, not_false_eq_true, not_true_eq_false, eq_self, Nat.le_refl, Nat.zero_le, zr_eI, zr_eL, zr_eR, zr_pI, zr_pL, zr_pR, zr_pO, zr_pV, zq_pA0, zq_pA, zr_get, zr_put_n, zr_put, zr_rem_n, zr_rem, zr_cat_i, zr_cat_l, zr_cat_q, zr_w_n, zr_w, zr_args_n, zr_args, zr_tl_s, zr_tl_n, zr_hIsI, zr_hLsL, zr_hRsR, zr_hIsL, zr_hIsR, zr_hLsI, zr_hLsR, zr_hRsI, zr_hRsL, zr_hNsI, zr_hNsL, zr_hNsR, zr_hZsI, zr_hZsL, zr_hZsR, b2_01, Classical.not_not, Int32.toInt_toInt64, Int64.reduceToInt, zc_1000, zc_100, zc_10, zc_9, zc_2, ci_f, hM, ms_18 e, mR_38, aLen_338, aCod_338, ma_38 e, mR_42, aLen_342, aCod_342, ma_42 e, mR_43, aLen_343, aCod_343, ma_43 e, mR_45, aLen_345, aCod_345, ma_45 e, mR_46, aLen_346, aCod_346, ma_46 e, mR_47, aLen_347, aCod_347, mb_47 e, mR_48, aLen_348, aCod_348, ma_48 e, mR_50, aLen_350, aCod_350, ma_50 e, mR_52, aLen_352, aCod_352, ma_52 e, mR_54, aLen_354, aCod_354, mb_54 e, hpO]
            refine ⟨by first | exact vpi (by omega) | with_reducible exact vp_in_nI (by omega) (by omega), ?_⟩
            refine ⟨by first | exact vpi (by omega) | with_reducible exact vp_in_nI (by omega) (by omega), ?_⟩
            refine ⟨by first | exact vpi (by omega) | with_reducible exact vp_in_nI (by omega) (by omega), ?_⟩
            refine ⟨by first | exact vpi (by omega) | with_reducible exact vp_in_nI (by omega) (by omega), ?_⟩
            refine ⟨by first | exact vpi (by omega) | with_reducible exact vp_in_nI (by omega) (by omega), ?_⟩
            refine st b_X12_mend_138 _ _ k_X12_mend_138 _ _ _ _ _ ?_
            simp only [b_X12_mend_138, zr_T, zr_aload_n0, zr_bast, zr_get2, zr_iconst, zr_iload_n1, zr_iret, zr_rt_a, zr_rt_i, zr_rt_l, zr_rt_n, zr_rt_z, zr_nil, zr_cons, ↓reduceIte, Nat.reduceAdd, Nat.reduceEqDiff, Nat.reduceLeDiff, Nat.reduceMul, Nat.reduceSub, Int32.reduceOfInt, Int64.reduceOfInt, Int64.reduceOfNat, true_and, and_true, false_and, and_false, or_false, false_or, true_or, or_true, Int.reduceEq, reduceCtorEq, or_self, and_self, ne_eq, not_false_eq_true, not_true_eq_false, eq_self, Nat.le_refl, Nat.zero_le, zr_eI, zr_eL, zr_eR, zr_pI, zr_pL, zr_pR, zr_pO, zr_pV, zq_pA0, zq_pA, zr_get, zr_put_n, zr_put, zr_rem_n, zr_rem, zr_cat_i, zr_cat_l, zr_cat_q, zr_w_n, zr_w, zr_args_n, zr_args, zr_tl_s, zr_tl_n, zr_hIsI, zr_hLsL, zr_hRsR, zr_hIsL, zr_hIsR, zr_hLsI, zr_hLsR, zr_hRsI, zr_hRsL, zr_hNsI, zr_hNsL, zr_hNsR, zr_hZsI, zr_hZsL, zr_hZsR, b2_01, Classical.not_not, Int32.toInt_toInt64, Int64.reduceToInt, zc_1000, zc_100, zc_10, zc_9, zc_2, ci_f, hM, ms_18 e, mR_38, aLen_338, aCod_338, ma_38 e, mR_42, aLen_342, aCod_342, ma_42 e, mR_43, aLen_343, aCod_343, ma_43 e, mR_45, aLen_345, aCod_345, ma_45 e, mR_46, aLen_346, aCod_346, ma_46 e, mR_47, aLen_347, aCod_347, mb_47 e, mR_48, aLen_348, aCod_348, ma_48 e, mR_50, aLen_350, aCod_350, ma_50 e, mR_52, aLen_352, aCod_352, ma_52 e, mR_54, aLen_354, aCod_354, mb_54 e, hpO]
            refine ⟨by first | exact vpi (by omega) | with_reducible exact vp_in_nI (by omega) (by omega), ?_⟩
            refine qi' ?_ (by repeat (first | exact z_sC.rf | exact hsc | refine z_sC.I ?_ (by decide) | refine z_sC.L ?_ (by decide))) hM'
            simp only [mv_thr, mv_sLs, mv_moved, e, mw_18, mx_38, mx_42, mx_43, mx_45, mx_46, my_47, mx_48, mx_50, mx_52, my_54]
            unfold o_mend
            (repeat' split) <;> (first | rfl | (exfalso; omega))
          · try simp only [b2_0, Classical.not_not] at qc5
            try simp only [Int64.le_iff_toInt_le, Int64.lt_iff_toInt_lt, Int32.lt_iff_toInt_lt, Int32.le_iff_toInt_le, Int32.toInt_toInt64, Int64.reduceToInt, Int32.reduceToInt, Int.reduceNeg, Classical.not_not, i32e, l_add] at qc5
            refine cp0 (by omega) lk_X12_231 (rc_14 rfl) (m_room l G _ S _ (by simp only [mv_thr, e]) (z_MR.I hM') inv) (Nat.le_refl _) (Nat.le_refl _) ?_
            simp only [zr_T, zr_cP_ge, zr_icmp, zr_iconst, zr_iret, zr_rt_a, zr_rt_i, zr_rt_l, zr_rt_n, zr_rt_z, zr_nil, zr_cons, ↓reduceIte, Nat.reduceAdd, Nat.reduceEqDiff, Nat.reduceLeDiff, Nat.reduceMul, Nat.reduceSub, Int32.reduceOfInt, Int64.reduceOfInt, Int64.reduceOfNat, true_and, and_true, false_and, and_false, or_false, false_or, true_or, or_true, Int.reduceEq, reduceCtorEq, or_self, and_self, ne_eq, not_false_eq_true, not_true_eq_false, eq_self, Nat.le_refl, Nat.zero_le, zr_eI, zr_eL, zr_eR, zr_pI, zr_pL, zr_pR, zr_pO, zr_pV, zq_pA0, zq_pA, zr_get, zr_put_n, zr_put, zr_rem_n, zr_rem, zr_cat_i, zr_cat_l, zr_cat_q, zr_w_n, zr_w, zr_args_n, zr_args, zr_tl_s, zr_tl_n, zr_hIsI, zr_hLsL, zr_hRsR, zr_hIsL, zr_hIsR, zr_hLsI, zr_hLsR, zr_hRsI, zr_hRsL, zr_hNsI, zr_hNsL, zr_hNsR, zr_hZsI, zr_hZsL, zr_hZsR, b2_01, Classical.not_not, Int32.toInt_toInt64, Int64.reduceToInt, zc_1000, zc_100, zc_10, zc_9, zc_2, ci_f, hM, ms_18 e, mR_38, aLen_338, aCod_338, ma_38 e, mR_42, aLen_342, aCod_342, ma_42 e, mR_43, aLen_343, aCod_343, ma_43 e, mR_45, aLen_345, aCod_345, ma_45 e, mR_46, aLen_346, aCod_346, ma_46 e, mR_47, aLen_347, aCod_347, mb_47 e, mR_48, aLen_348, aCod_348, ma_48 e, mR_50, aLen_350, aCod_350, ma_50 e, mR_52, aLen_352, aCod_352, ma_52 e, mR_54, aLen_354, aCod_354, mb_54 e, hpO]
            refine ⟨fun qc6 => ?_, fun qc6 => ?_⟩
            · try simp only [b2_0, Classical.not_not] at qc6
              try simp only [Int64.le_iff_toInt_le, Int64.lt_iff_toInt_lt, Int32.lt_iff_toInt_lt, Int32.le_iff_toInt_le, Int32.toInt_toInt64, Int64.reduceToInt, Int32.reduceToInt, Int.reduceNeg, Classical.not_not, i32e, l_add] at qc6
              refine st b_X12_mend_74 _ _ k_X12_mend_74 _ _ _ _ _ ?_
              simp only [b_X12_mend_74, zr_aload_n0, zr_call0, zr_get2, zr_goto, zr_iald, zr_iast, zr_iconst, zr_iload_n1, zr_lald, zr_nil, zr_cons, ↓reduceIte, Nat.reduceAdd, Nat.reduceEqDiff, Nat.reduceLeDiff, Nat.reduceMul, Nat.reduceSub, Int32.reduceOfInt, Int64.reduceOfInt, Int64.reduceOfNat, true_and, and_true, false_and, and_false, or_false, false_or, true_or, or_true, Int.reduceEq, reduceCtorEq, or_self, and_self, ne_eq, not_false_eq_true, not_true_eq_false, eq_self, Nat.le_refl, Nat.zero_le, zr_eI, zr_eL, zr_eR, zr_pI, zr_pL, zr_pR, zr_pO, zr_pV, zq_pA0, zq_pA, zr_get, zr_put_n, zr_put, zr_rem_n, zr_rem, zr_cat_i, zr_cat_l, zr_cat_q, zr_w_n, zr_w, zr_args_n, zr_args, zr_tl_s, zr_tl_n, zr_hIsI, zr_hLsL, zr_hRsR, zr_hIsL, zr_hIsR, zr_hLsI, zr_hLsR, zr_hRsI, zr_hRsL, zr_hNsI, zr_hNsL, zr_hNsR, zr_hZsI, zr_hZsL, zr_hZsR, b2_01, Classical.not_not, Int32.toInt_toInt64, Int64.reduceToInt, zc_1000, zc_100, zc_10, zc_9, zc_2, ci_f, hM, ms_18 e, mR_38, aLen_338, aCod_338, ma_38 e, mR_42, aLen_342, aCod_342, ma_42 e, mR_43, aLen_343, aCod_343, ma_43 e, mR_45, aLen_345, aCod_345, ma_45 e, mR_46, aLen_346, aCod_346, ma_46 e, mR_47, aLen_347, aCod_347, mb_47 e, mR_48, aLen_348, aCod_348, ma_48 e, mR_50, aLen_350, aCod_350, ma_50 e, mR_52, aLen_352, aCod_352, ma_52 e, mR_54, aLen_354, aCod_354, mb_54 e, hpO]
              refine ⟨by first | exact vpi (by omega) | with_reducible exact vp_in_nI (by omega) (by omega), ?_⟩
              refine ⟨by first | exact vpi (by omega) | with_reducible exact vp_in_nI (by omega) (by omega), ?_⟩
              refine ⟨by first | exact vpi (by omega) | with_reducible exact vp_in_nI (by omega) (by omega), ?_⟩
              refine cpx (by omega) lk_X12_249 (rc_14 rfl) (m_writes l G _ (by omega) S _ (by simp only [mv_thr, e]) (z_MR.I hM') inv _ _ _ _ _ (show nL S < 2000 by omega)) (Nat.le_refl _) (Nat.le_refl _) (fun r301 h301 g301 => ?_)
              obtain ⟨rfl, e301, s301, M301⟩ := g301
              have hsc : z_sC h h301 := z_sC.tr (by repeat (first | exact z_sC.rf | exact hsc | refine z_sC.I ?_ (by decide) | refine z_sC.L ?_ (by decide))) s301
              have N301 := M301
              unfold z_MR at N301
              simp only [zr_goto, zr_iast, zr_nil, zr_cons, ↓reduceIte, Nat.reduceAdd, Nat.reduceEqDiff, Nat.reduceLeDiff, Nat.reduceMul, Nat.reduceSub, Int32.reduceOfInt, Int64.reduceOfInt, Int64.reduceOfNat, true_and, and_true, false_and, and_false, or_false, false_or, true_or, or_true, Int.reduceEq, reduceCtorEq, or_self, and_self, ne_eq, not_false_eq_true, not_true_eq_false, eq_self, Nat.le_refl, Nat.zero_le, zr_eI, zr_eL, zr_eR, zr_pI, zr_pL, zr_pR, zr_pO, zr_pV, zq_pA0, zq_pA, zr_get, zr_put_n, zr_put, zr_rem_n, zr_rem, zr_cat_i, zr_cat_l, zr_cat_q, zr_w_n, zr_w, zr_args_n, zr_args, zr_tl_s, zr_tl_n, zr_hIsI, zr_hLsL, zr_hRsR, zr_hIsL, zr_hIsR, zr_hLsI, zr_hLsR, zr_hRsI, zr_hRsL, zr_hNsI, zr_hNsL, zr_hNsR, zr_hZsI, zr_hZsL, zr_hZsR, b2_01, Classical.not_not, Int32.toInt_toInt64, Int64.reduceToInt, zc_1000, zc_100, zc_10, zc_9, zc_2, ci_f, N301, ms_18 e301, mR_38, aLen_338, aCod_338, ma_38 e301, mR_42, aLen_342, aCod_342, ma_42 e301, mR_43, aLen_343, aCod_343, ma_43 e301, mR_45, aLen_345, aCod_345, ma_45 e301, mR_46, aLen_346, aCod_346, ma_46 e301, mR_47, aLen_347, aCod_347, mb_47 e301, mR_48, aLen_348, aCod_348, ma_48 e301, mR_50, aLen_350, aCod_350, ma_50 e301, mR_52, aLen_352, aCod_352, ma_52 e301, mR_54, aLen_354, aCod_354, mb_54 e301]
              refine ⟨by first | exact vpi (by omega) | with_reducible exact vp_in_nI (by omega) (by omega), ?_⟩
              refine st b_X12_mend_138 _ _ k_X12_mend_138 _ _ _ _ _ ?_
              simp only [b_X12_mend_138, zr_T, zr_aload_n0, zr_bast, zr_get2, zr_iconst, zr_iload_n1, zr_iret, zr_rt_a, zr_rt_i, zr_rt_l, zr_rt_n, zr_rt_z, zr_nil, zr_cons, ↓reduceIte, Nat.reduceAdd, Nat.reduceEqDiff, Nat.reduceLeDiff, Nat.reduceMul, Nat.reduceSub, Int32.reduceOfInt, Int64.reduceOfInt, Int64.reduceOfNat, true_and, and_true, false_and, and_false, or_false, false_or, true_or, or_true, Int.reduceEq, reduceCtorEq, or_self, and_self, ne_eq, not_false_eq_true, not_true_eq_false, eq_self, Nat.le_refl, Nat.zero_le, zr_eI, zr_eL, zr_eR, zr_pI, zr_pL, zr_pR, zr_pO, zr_pV, zq_pA0, zq_pA, zr_get, zr_put_n, zr_put, zr_rem_n, zr_rem, zr_cat_i, zr_cat_l, zr_cat_q, zr_w_n, zr_w, zr_args_n, zr_args, zr_tl_s, zr_tl_n, zr_hIsI, zr_hLsL, zr_hRsR, zr_hIsL, zr_hIsR, zr_hLsI, zr_hLsR, zr_hRsI, zr_hRsL, zr_hNsI, zr_hNsL, zr_hNsR, zr_hZsI, zr_hZsL, zr_hZsR, b2_01, Classical.not_not, Int32.toInt_toInt64, Int64.reduceToInt, zc_1000, zc_100, zc_10, zc_9, zc_2, ci_f, N301, ms_18 e301, mR_38, aLen_338, aCod_338, ma_38 e301, mR_42, aLen_342, aCod_342, ma_42 e301, mR_43, aLen_343, aCod_343, ma_43 e301, mR_45, aLen_345, aCod_345, ma_45 e301, mR_46, aLen_346, aCod_346, ma_46 e301, mR_47, aLen_347, aCod_347, mb_47 e301, mR_48, aLen_348, aCod_348, ma_48 e301, mR_50, aLen_350, aCod_350, ma_50 e301, mR_52, aLen_352, aCod_352, ma_52 e301, mR_54, aLen_354, aCod_354, mb_54 e301]
              refine ⟨by first | exact vpi (by omega) | with_reducible exact vp_in_nI (by omega) (by omega), ?_⟩
              refine qi' ?_ (by repeat (first | exact z_sC.rf | exact hsc | refine z_sC.I ?_ (by decide) | refine z_sC.L ?_ (by decide))) (by repeat (first | exact M301 | refine z_MR.I ?_ | refine z_MR.L ?_))
              simp only [mx_46, mx_48, e301]
              unfold o_mend
              (repeat' split) <;> (first | rfl | (exfalso; omega))
            · try simp only [b2_0, Classical.not_not] at qc6
              try simp only [Int64.le_iff_toInt_le, Int64.lt_iff_toInt_lt, Int32.lt_iff_toInt_lt, Int32.le_iff_toInt_le, Int32.toInt_toInt64, Int64.reduceToInt, Int32.reduceToInt, Int.reduceNeg, Classical.not_not, i32e, l_add] at qc6
              refine qi' ?_ (by repeat (first | exact z_sC.rf | exact hsc | refine z_sC.I ?_ (by decide) | refine z_sC.L ?_ (by decide))) hM'
              simp only [mv_thr, mv_sLs, mv_moved, e, mw_18, mx_38, mx_42, mx_43, mx_45, mx_46, my_47, mx_48, mx_50, mx_52, my_54]
              unfold o_mend
              (repeat' split) <;> (first | rfl | (exfalso; omega))
        · try simp only [b2_0, Classical.not_not] at qc4
          try simp only [Int64.le_iff_toInt_le, Int64.lt_iff_toInt_lt, Int32.lt_iff_toInt_lt, Int32.le_iff_toInt_le, Int32.toInt_toInt64, Int64.reduceToInt, Int32.reduceToInt, Int.reduceNeg, Classical.not_not, i32e, l_add] at qc4
          refine st b_X12_mend_50 _ _ k_X12_mend_50 _ _ _ _ _ ?_
          simp only [b_X12_mend_50, zr_T, zr_iconst, zr_iret, zr_rt_a, zr_rt_i, zr_rt_l, zr_rt_n, zr_rt_z, zr_nil, zr_cons, ↓reduceIte, Nat.reduceAdd, Nat.reduceEqDiff, Nat.reduceLeDiff, Nat.reduceMul, Nat.reduceSub, Int32.reduceOfInt, Int64.reduceOfInt, Int64.reduceOfNat, true_and, and_true, false_and, and_false, or_false, false_or, true_or, or_true, Int.reduceEq, reduceCtorEq, or_self, and_self, ne_eq, not_false_eq_true, not_true_eq_false, eq_self, Nat.le_refl, Nat.zero_le, zr_eI, zr_eL, zr_eR, zr_pI, zr_pL, zr_pR, zr_pO, zr_pV, zq_pA0, zq_pA, zr_get, zr_put_n, zr_put, zr_rem_n, zr_rem, zr_cat_i, zr_cat_l, zr_cat_q, zr_w_n, zr_w, zr_args_n, zr_args, zr_tl_s, zr_tl_n, zr_hIsI, zr_hLsL, zr_hRsR, zr_hIsL, zr_hIsR, zr_hLsI, zr_hLsR, zr_hRsI, zr_hRsL, zr_hNsI, zr_hNsL, zr_hNsR, zr_hZsI, zr_hZsL, zr_hZsR, b2_01, Classical.not_not, Int32.toInt_toInt64, Int64.reduceToInt, zc_1000, zc_100, zc_10, zc_9, zc_2, ci_f, hM, ms_18 e, mR_38, aLen_338, aCod_338, ma_38 e, mR_42, aLen_342, aCod_342, ma_42 e, mR_43, aLen_343, aCod_343, ma_43 e, mR_45, aLen_345, aCod_345, ma_45 e, mR_46, aLen_346, aCod_346, ma_46 e, mR_47, aLen_347, aCod_347, mb_47 e, mR_48, aLen_348, aCod_348, ma_48 e, mR_50, aLen_350, aCod_350, ma_50 e, mR_52, aLen_352, aCod_352, ma_52 e, mR_54, aLen_354, aCod_354, mb_54 e, hpO]
          refine qi' ?_ (by repeat (first | exact z_sC.rf | exact hsc | refine z_sC.I ?_ (by decide) | refine z_sC.L ?_ (by decide))) hM'
          simp only [mv_thr, mv_sLs, mv_moved, e, mw_18, mx_38, mx_42, mx_43, mx_45, mx_46, my_47, mx_48, mx_50, mx_52, my_54]
          unfold o_mend
          (repeat' split) <;> (first | rfl | (exfalso; omega))
theorem m_loan (l : Launch) (G : z_G) (d : Nat) (hd : 3 ≤ d) (S : z_M) (h : z_H) (e : mv h = S) (hM : z_MR h) (inv : INV S) (k n known : Int32) : z_MT l G d yX12_loan cX12_loan 7 (some .int) [z_r 14 0, z_i k, z_i n, z_i known] h 0 0 (Qi h (o_loan S k n known)) := by
  have hM' := hM
  unfold z_MR at hM
  have huK : nK S = ci (mS S 15) := rfl
  have htK := inv.cK.t
  have hbK := inv.cK.2
  have hpK : (mS S 15 - 1).toInt = (ci (mS S 15) : Int) - 1 := by
    rw [sub32 (by rw [htK, show (1 : Int32).toInt = 1 from rfl]; omega) (by rw [htK, show (1 : Int32).toInt = 1 from rfl]; omega), htK]
    rfl
  have huE : nE S = ci (mS S 21) := rfl
  have htE := inv.cE.t
  have hbE := inv.cE.2
  have hpE : (mS S 21 - 1).toInt = (ci (mS S 21) : Int) - 1 := by
    rw [sub32 (by rw [htE, show (1 : Int32).toInt = 1 from rfl]; omega) (by rw [htE, show (1 : Int32).toInt = 1 from rfl]; omega), htE]
    rfl
  have hlw : mB S 26 (ci k) * n.toInt64 / mB S 25 (ci k) = o_lw S k n := rfl
  have hlb : o_bk (uA (uB (uB S 25 (ci k) (mB S 25 (ci k) - n.toInt64)) 26 (ci k) (mB S 26 (ci k) - o_lw S k n)) 57 (nE S) (dy S)) (ci k) (o_lw S k n) = o_bk S (ci k) (o_lw S k n) := rfl
  refine z_mt2 14 false ⟨by decide, rfl, fun q => absurd q (by decide)⟩ (by show 4 ≤ 7; decide) (fun A st wk => ?_)
  refine st b_X12_loan_0 _ _ k_X12_loan_0 _ _ _ _ _ ?_
  simp only [b_X12_loan_0, zr_aload_n0, zr_cP_eq, zr_cP_ge, zr_call0, zr_icmp, zr_iconst, zr_ifc, zr_iload_n1, zr_iload_n2, zr_put0, zr_nil, zr_cons, ↓reduceIte, Nat.reduceAdd, Nat.reduceEqDiff, Nat.reduceLeDiff, Nat.reduceMul, Nat.reduceSub, Int32.reduceOfInt, Int64.reduceOfInt, Int64.reduceOfNat, true_and, and_true, false_and, and_false, or_false, false_or, true_or, or_true, Int.reduceEq, reduceCtorEq, or_self, and_self, ne_eq, not_false_eq_true, not_true_eq_false, eq_self, Nat.le_refl, Nat.zero_le, zr_eI, zr_eL, zr_eR, zr_pI, zr_pL, zr_pR, zr_pO, zr_pV, zq_pA0, zq_pA, zr_get, zr_put_n, zr_put, zr_rem_n, zr_rem, zr_cat_i, zr_cat_l, zr_cat_q, zr_w_n, zr_w, zr_args_n, zr_args, zr_tl_s, zr_tl_n, zr_hIsI, zr_hLsL, zr_hRsR, zr_hIsL, zr_hIsR, zr_hLsI, zr_hLsR, zr_hRsI, zr_hRsL, zr_hNsI, zr_hNsL, zr_hNsR, zr_hZsI, zr_hZsL, zr_hZsR, b2_01, Classical.not_not, Int32.toInt_toInt64, Int64.reduceToInt, zc_1000, zc_100, zc_10, zc_9, zc_2, ci_f, hM, ms_14 e, ms_21 e, mR_25, aLen_325, aCod_325, mb_25 e, mR_26, aLen_326, aCod_326, mb_26 e, mR_57, aLen_357, aCod_357, ma_57 e, mR_58, aLen_358, aCod_358, ma_58 e, mR_59, aLen_359, aCod_359, mb_59 e, hlw, hlb]
  refine cp0 (by omega) lk_X12_225 (rc_14 rfl) (m_isKind l G _ (by omega) S _ (by simp only [mv_thr, e]) (z_MR.I hM') inv _) (Nat.le_refl _) (Nat.le_refl _) ?_
  simp only [zr_cP_eq, zr_cP_ge, zr_icmp, zr_iconst, zr_ifc, zr_iload_n2, zr_nil, zr_cons, ↓reduceIte, Nat.reduceAdd, Nat.reduceEqDiff, Nat.reduceLeDiff, Nat.reduceMul, Nat.reduceSub, Int32.reduceOfInt, Int64.reduceOfInt, Int64.reduceOfNat, true_and, and_true, false_and, and_false, or_false, false_or, true_or, or_true, Int.reduceEq, reduceCtorEq, or_self, and_self, ne_eq, not_false_eq_true, not_true_eq_false, eq_self, Nat.le_refl, Nat.zero_le, zr_eI, zr_eL, zr_eR, zr_pI, zr_pL, zr_pR, zr_pO, zr_pV, zq_pA0, zq_pA, zr_get, zr_put_n, zr_put, zr_rem_n, zr_rem, zr_cat_i, zr_cat_l, zr_cat_q, zr_w_n, zr_w, zr_args_n, zr_args, zr_tl_s, zr_tl_n, zr_hIsI, zr_hLsL, zr_hRsR, zr_hIsL, zr_hIsR, zr_hLsI, zr_hLsR, zr_hRsI, zr_hRsL, zr_hNsI, zr_hNsL, zr_hNsR, zr_hZsI, zr_hZsL, zr_hZsR, b2_01, Classical.not_not, Int32.toInt_toInt64, Int64.reduceToInt, zc_1000, zc_100, zc_10, zc_9, zc_2, ci_f, hM, ms_14 e, ms_21 e, mR_25, aLen_325, aCod_325, mb_25 e, mR_26, aLen_326, aCod_326, mb_26 e, mR_57, aLen_357, aCod_357, ma_57 e, mR_58, aLen_358, aCod_358, ma_58 e, mR_59, aLen_359, aCod_359, mb_59 e, hlw, hlb]
  refine ⟨fun qc1 => ?_, fun qc1 => ?_⟩
  · try simp only [b2_0, Classical.not_not] at qc1
    try simp only [Int64.le_iff_toInt_le, Int64.lt_iff_toInt_lt, Int32.lt_iff_toInt_lt, Int32.le_iff_toInt_le, Int32.toInt_toInt64, Int64.reduceToInt, Int32.reduceToInt, Int.reduceNeg, Classical.not_not, i32e, l_add] at qc1
    refine st b_X12_loan_18 _ _ k_X12_loan_18 _ _ _ _ _ ?_
    simp only [b_X12_loan_18, zr_T, zr_bipush, zr_iret, zr_rt_a, zr_rt_i, zr_rt_l, zr_rt_n, zr_rt_z, zr_nil, zr_cons, ↓reduceIte, Nat.reduceAdd, Nat.reduceEqDiff, Nat.reduceLeDiff, Nat.reduceMul, Nat.reduceSub, Int32.reduceOfInt, Int64.reduceOfInt, Int64.reduceOfNat, true_and, and_true, false_and, and_false, or_false, false_or, true_or, or_true, Int.reduceEq, reduceCtorEq, or_self, and_self, ne_eq, not_false_eq_true, not_true_eq_false, eq_self, Nat.le_refl, Nat.zero_le, zr_eI, zr_eL, zr_eR, zr_pI, zr_pL, zr_pR, zr_pO, zr_pV, zq_pA0, zq_pA, zr_get, zr_put_n, zr_put, zr_rem_n, zr_rem, zr_cat_i, zr_cat_l, zr_cat_q, zr_w_n, zr_w, zr_args_n, zr_args, zr_tl_s, zr_tl_n, zr_hIsI, zr_hLsL, zr_hRsR, zr_hIsL, zr_hIsR, zr_hLsI, zr_hLsR, zr_hRsI, zr_hRsL, zr_hNsI, zr_hNsL, zr_hNsR, zr_hZsI, zr_hZsL, zr_hZsR, b2_01, Classical.not_not, Int32.toInt_toInt64, Int64.reduceToInt, zc_1000, zc_100, zc_10, zc_9, zc_2, ci_f, hM, ms_14 e, ms_21 e, mR_25, aLen_325, aCod_325, mb_25 e, mR_26, aLen_326, aCod_326, mb_26 e, mR_57, aLen_357, aCod_357, ma_57 e, mR_58, aLen_358, aCod_358, ma_58 e, mR_59, aLen_359, aCod_359, mb_59 e, hlw, hlb]
    refine qi' ?_ (by repeat (first | exact z_sC.rf | exact hsc | refine z_sC.I ?_ (by decide) | refine z_sC.L ?_ (by decide))) hM'
    simp only [mv_thr, mv_sLs, mv_moved, e, mw_14, mw_21, my_25, my_26, mx_57, mx_58, my_59]
    unfold o_loan
    (repeat' split) <;> (first | rfl | (exfalso; omega))
  · try simp only [b2_0, Classical.not_not] at qc1
    try simp only [Int64.le_iff_toInt_le, Int64.lt_iff_toInt_lt, Int32.lt_iff_toInt_lt, Int32.le_iff_toInt_le, Int32.toInt_toInt64, Int64.reduceToInt, Int32.reduceToInt, Int.reduceNeg, Classical.not_not, i32e, l_add] at qc1
    refine ⟨fun qc2 => ?_, fun qc2 => ?_⟩
    · try simp only [b2_0, Classical.not_not] at qc2
      try simp only [Int64.le_iff_toInt_le, Int64.lt_iff_toInt_lt, Int32.lt_iff_toInt_lt, Int32.le_iff_toInt_le, Int32.toInt_toInt64, Int64.reduceToInt, Int32.reduceToInt, Int.reduceNeg, Classical.not_not, i32e, l_add] at qc2
      refine st b_X12_loan_21 _ _ k_X12_loan_21 _ _ _ _ _ ?_
      simp only [b_X12_loan_21, lg_cmp_eq, lg_cmp_ge, lg_cmp_gt, lg_cmp_le, lg_cmp_lt, zr_T, zr_aload_n0, zr_bipush, zr_cP_ge, zr_get2, zr_i2l, zr_ifc, zr_iload_n1, zr_iload_n2, zr_iret, zr_lald, zr_lcmp, zr_rt_a, zr_rt_i, zr_rt_l, zr_rt_n, zr_rt_z, zr_nil, zr_cons, ↓reduceIte, Nat.reduceAdd, Nat.reduceEqDiff, Nat.reduceLeDiff, Nat.reduceMul, Nat.reduceSub, Int32.reduceOfInt, Int64.reduceOfInt, Int64.reduceOfNat, true_and, and_true, false_and, and_false, or_false, false_or, true_or, or_true, Int.reduceEq, reduceCtorEq, or_self, and_self, ne_eq, not_false_eq_true, not_true_eq_false, eq_self, Nat.le_refl, Nat.zero_le, zr_eI, zr_eL, zr_eR, zr_pI, zr_pL, zr_pR, zr_pO, zr_pV, zq_pA0, zq_pA, zr_get, zr_put_n, zr_put, zr_rem_n, zr_rem, zr_cat_i, zr_cat_l, zr_cat_q, zr_w_n, zr_w, zr_args_n, zr_args, zr_tl_s, zr_tl_n, zr_hIsI, zr_hLsL, zr_hRsR, zr_hIsL, zr_hIsR, zr_hLsI, zr_hLsR, zr_hRsI, zr_hRsL, zr_hNsI, zr_hNsL, zr_hNsR, zr_hZsI, zr_hZsL, zr_hZsR, b2_01, Classical.not_not, Int32.toInt_toInt64, Int64.reduceToInt, zc_1000, zc_100, zc_10, zc_9, zc_2, ci_f, hM, ms_14 e, ms_21 e, mR_25, aLen_325, aCod_325, mb_25 e, mR_26, aLen_326, aCod_326, mb_26 e, mR_57, aLen_357, aCod_357, ma_57 e, mR_58, aLen_358, aCod_358, ma_58 e, mR_59, aLen_359, aCod_359, mb_59 e, hlw, hlb]
      refine ⟨by first | exact vpi (by omega) | with_reducible exact vp_in_nI (by omega) (by omega), ?_⟩
      refine ⟨fun qc3 => ?_, fun qc3 => ?_⟩
      · try simp only [b2_0, Classical.not_not] at qc3
        try simp only [Int64.le_iff_toInt_le, Int64.lt_iff_toInt_lt, Int32.lt_iff_toInt_lt, Int32.le_iff_toInt_le, Int32.toInt_toInt64, Int64.reduceToInt, Int32.reduceToInt, Int.reduceNeg, Classical.not_not, i32e, l_add] at qc3
        refine st b_X12_loan_36 _ _ k_X12_loan_36 _ _ _ _ _ ?_
        simp only [b_X12_loan_36, zr_T, zr_aload_n0, zr_bipush, zr_cP_ne, zr_get0, zr_icmp, zr_iret, zr_rt_a, zr_rt_i, zr_rt_l, zr_rt_n, zr_rt_z, zr_nil, zr_cons, ↓reduceIte, Nat.reduceAdd, Nat.reduceEqDiff, Nat.reduceLeDiff, Nat.reduceMul, Nat.reduceSub, Int32.reduceOfInt, Int64.reduceOfInt, Int64.reduceOfNat, true_and, and_true, false_and, and_false, or_false, false_or, true_or, or_true, Int.reduceEq, reduceCtorEq, or_self, and_self, ne_eq, not_false_eq_true, not_true_eq_false, eq_self, Nat.le_refl, Nat.zero_le, zr_eI, zr_eL, zr_eR, zr_pI, zr_pL, zr_pR, zr_pO, zr_pV, zq_pA0, zq_pA, zr_get, zr_put_n, zr_put, zr_rem_n, zr_rem, zr_cat_i, zr_cat_l, zr_cat_q, zr_w_n, zr_w, zr_args_n, zr_args, zr_tl_s, zr_tl_n, zr_hIsI, zr_hLsL, zr_hRsR, zr_hIsL, zr_hIsR, zr_hLsI, zr_hLsR, zr_hRsI, zr_hRsL, zr_hNsI, zr_hNsL, zr_hNsR, zr_hZsI, zr_hZsL, zr_hZsR, b2_01, Classical.not_not, Int32.toInt_toInt64, Int64.reduceToInt, zc_1000, zc_100, zc_10, zc_9, zc_2, ci_f, hM, ms_14 e, ms_21 e, mR_25, aLen_325, aCod_325, mb_25 e, mR_26, aLen_326, aCod_326, mb_26 e, mR_57, aLen_357, aCod_357, ma_57 e, mR_58, aLen_358, aCod_358, ma_58 e, mR_59, aLen_359, aCod_359, mb_59 e, hlw, hlb]
        refine ⟨fun qc4 => ?_, fun qc4 => ?_⟩
        · try simp only [b2_0, Classical.not_not] at qc4
          try simp only [Int64.le_iff_toInt_le, Int64.lt_iff_toInt_lt, Int32.lt_iff_toInt_lt, Int32.le_iff_toInt_le, Int32.toInt_toInt64, Int64.reduceToInt, Int32.reduceToInt, Int.reduceNeg, Classical.not_not, i32e, l_add] at qc4
          refine st b_X12_loan_48 _ _ k_X12_loan_48 _ _ _ _ _ ?_
          simp only [b_X12_loan_48, zr_aload_n0, zr_call0, zr_dup2, zr_get0, zr_get2, zr_i2l, zr_iast, zr_iconst, zr_iload_n1, zr_iload_n2, zr_istore, zr_lald, zr_last, zr_ldiv, zr_lload, zr_lmul, zr_lstore, zr_lsub, zr_nil, zr_cons, ↓reduceIte, Nat.reduceAdd, Nat.reduceEqDiff, Nat.reduceLeDiff, Nat.reduceMul, Nat.reduceSub, Int32.reduceOfInt, Int64.reduceOfInt, Int64.reduceOfNat, true_and, and_true, false_and, and_false, or_false, false_or, true_or, or_true, Int.reduceEq, reduceCtorEq, or_self, and_self, ne_eq, not_false_eq_true, not_true_eq_false, eq_self, Nat.le_refl, Nat.zero_le, zr_eI, zr_eL, zr_eR, zr_pI, zr_pL, zr_pR, zr_pO, zr_pV, zq_pA0, zq_pA, zr_get, zr_put_n, zr_put, zr_rem_n, zr_rem, zr_cat_i, zr_cat_l, zr_cat_q, zr_w_n, zr_w, zr_args_n, zr_args, zr_tl_s, zr_tl_n, zr_hIsI, zr_hLsL, zr_hRsR, zr_hIsL, zr_hIsR, zr_hLsI, zr_hLsR, zr_hRsI, zr_hRsL, zr_hNsI, zr_hNsL, zr_hNsR, zr_hZsI, zr_hZsL, zr_hZsR, b2_01, Classical.not_not, Int32.toInt_toInt64, Int64.reduceToInt, zc_1000, zc_100, zc_10, zc_9, zc_2, ci_f, hM, ms_14 e, ms_21 e, mR_25, aLen_325, aCod_325, mb_25 e, mR_26, aLen_326, aCod_326, mb_26 e, mR_57, aLen_357, aCod_357, ma_57 e, mR_58, aLen_358, aCod_358, ma_58 e, mR_59, aLen_359, aCod_359, mb_59 e, hlw, hlb]
          have kk := ci_int (x := k) (by omega)
          have jk := (inv.kin.1 (ci k) (by omega)).2.2.2.2
          have rb : nR S ≤ 200 := inv.cR.2
          have hco : 0 ≤ (mB S 25 (ci k) - n.toInt64).toInt ∧ (mB S 25 (ci k) - n.toInt64).toInt ≤ (mB S 25 (ci k)).toInt := by
            rw [sub64 (by rw [Int32.toInt_toInt64]; omega) (by rw [Int32.toInt_toInt64]; omega), Int32.toInt_toInt64]
            omega
          refine ⟨by first | exact vpi (by omega) | with_reducible exact vp_in_nI (by omega) (by omega), ?_⟩
          refine ⟨by first | exact vpi (by omega) | with_reducible exact vp_in_nI (by omega) (by omega), ?_⟩
          refine ⟨(fun q => by rw [i64e] at q; have : (0 : Int64).toInt = 0 := rfl; omega), ?_⟩
          refine ⟨by first | exact vpi (by omega) | with_reducible exact vp_in_nI (by omega) (by omega), ?_⟩
          refine ⟨by first | exact vpi (by omega) | with_reducible exact vp_in_nI (by omega) (by omega), ?_⟩
          refine ⟨by first | exact vpi (by omega) | with_reducible exact vp_in_nI (by omega) (by omega), ?_⟩
          refine ⟨by first | exact vpi (by omega) | with_reducible exact vp_in_nI (by omega) (by omega), ?_⟩
          refine ⟨by first | exact vpi (by omega) | with_reducible exact vp_in_nI (by omega) (by omega), ?_⟩
          refine cp0 (by omega) lk_X12_239 (rc_14 rfl) (m_bookOf l G _ (uA (uB (uB S 25 (ci k) (mB S 25 (ci k) - n.toInt64)) 26 (ci k) (mB S 26 (ci k) - o_lw S k n)) 57 (nE S) (dy S)) _ (by simp only [mv_thr, mv_sLs, mv_moved, e, mw_14, mw_21, my_25, my_26, mx_57, mx_58, my_59]; try rfl) (by repeat (first | exact hM' | refine z_MR.I ?_ | refine z_MR.L ?_)) (inv_57 (S := uB (uB S 25 (ci k) (mB S 25 (ci k) - n.toInt64)) 26 (ci k) (mB S 26 (ci k) - o_lw S k n)) (inv_cw inv (by omega) hco)) _ (by omega) _) (Nat.le_refl _) (Nat.le_refl _) ?_
          simp only [zr_iconst, zr_istore, zr_last, zr_nil, zr_cons, ↓reduceIte, Nat.reduceAdd, Nat.reduceEqDiff, Nat.reduceLeDiff, Nat.reduceMul, Nat.reduceSub, Int32.reduceOfInt, Int64.reduceOfInt, Int64.reduceOfNat, true_and, and_true, false_and, and_false, or_false, false_or, true_or, or_true, Int.reduceEq, reduceCtorEq, or_self, and_self, ne_eq, not_false_eq_true, not_true_eq_false, eq_self, Nat.le_refl, Nat.zero_le, zr_eI, zr_eL, zr_eR, zr_pI, zr_pL, zr_pR, zr_pO, zr_pV, zq_pA0, zq_pA, zr_get, zr_put_n, zr_put, zr_rem_n, zr_rem, zr_cat_i, zr_cat_l, zr_cat_q, zr_w_n, zr_w, zr_args_n, zr_args, zr_tl_s, zr_tl_n, zr_hIsI, zr_hLsL, zr_hRsR, zr_hIsL, zr_hIsR, zr_hLsI, zr_hLsR, zr_hRsI, zr_hRsL, zr_hNsI, zr_hNsL, zr_hNsR, zr_hZsI, zr_hZsL, zr_hZsR, b2_01, Classical.not_not, Int32.toInt_toInt64, Int64.reduceToInt, zc_1000, zc_100, zc_10, zc_9, zc_2, ci_f, hM, ms_14 e, ms_21 e, mR_25, aLen_325, aCod_325, mb_25 e, mR_26, aLen_326, aCod_326, mb_26 e, mR_57, aLen_357, aCod_357, ma_57 e, mR_58, aLen_358, aCod_358, ma_58 e, mR_59, aLen_359, aCod_359, mb_59 e, hlw, hlb]
          refine ⟨by first | exact vpi (by omega) | with_reducible exact vp_in_nI (by omega) (by omega), ?_⟩
          refine (show ∀ i, i ≤ 32 → ∀ h' : z_H, mv h' = ((fun q j => if q = 58 ∧ 32 * nE S ≤ j ∧ j < 32 * nE S + i then o_snc known (dy S) (j - 32 * nE S) else (uB (uA (uB (uB S 25 (ci k) (mB S 25 (ci k) - n.toInt64)) 26 (ci k) (mB S 26 (ci k) - o_lw S k n)) 57 (nE S) (dy S)) 59 (nE S) (o_bk S (ci k) (o_lw S k n))).1 q j, (uB (uA (uB (uB S 25 (ci k) (mB S 25 (ci k) - n.toInt64)) 26 (ci k) (mB S 26 (ci k) - o_lw S k n)) 57 (nE S) (dy S)) 59 (nE S) (o_bk S (ci k) (o_lw S k n))).2) : z_M) → z_sC h h' → z_MR h' → A 120 [(0, z_r 14 0), (1, z_i k), (2, z_i n), (3, z_i known), (4, z_l (o_lw S k n)), (6, z_i (nI i))] [] h' 0 0 from z_loop (fun i hi ih => ?_)) 0 (Nat.zero_le _) _ ?_ (by repeat (first | exact z_sC.rf | exact hsc | refine z_sC.I ?_ (by decide) | refine z_sC.L ?_ (by decide))) hM'
          · intro h' e' hsc hM2
            have hM3 := hM2
            unfold z_MR at hM2
            have ti := toIntS (show i < 2000000000 by omega)
            have es21 : hI h' 14 0 21 = mS S 21 := by rw [ms_21 e']; rfl
            have es14 : hI h' 14 0 14 = mS S 14 := by rw [ms_14 e']; rfl
            refine st b_X12_loan_120 _ _ k_X12_loan_120 _ _ _ _ _ ?_
            simp only [b_X12_loan_120, zr_aload_n0, zr_bipush, zr_cP_ge, zr_cP_ne, zr_get0, zr_get2, zr_goto, zr_iadd, zr_iand, zr_icmp, zr_iconst, zr_iload, zr_iload_n3, zr_imul, zr_iushr, zr_nil, zr_cons, ↓reduceIte, Nat.reduceAdd, Nat.reduceEqDiff, Nat.reduceLeDiff, Nat.reduceMul, Nat.reduceSub, Int32.reduceOfInt, Int64.reduceOfInt, Int64.reduceOfNat, true_and, and_true, false_and, and_false, or_false, false_or, true_or, or_true, Int.reduceEq, reduceCtorEq, or_self, and_self, ne_eq, not_false_eq_true, not_true_eq_false, eq_self, Nat.le_refl, Nat.zero_le, zr_eI, zr_eL, zr_eR, zr_pI, zr_pL, zr_pR, zr_pO, zr_pV, zq_pA0, zq_pA, zr_get, zr_put_n, zr_put, zr_rem_n, zr_rem, zr_cat_i, zr_cat_l, zr_cat_q, zr_w_n, zr_w, zr_args_n, zr_args, zr_tl_s, zr_tl_n, zr_hIsI, zr_hLsL, zr_hRsR, zr_hIsL, zr_hIsR, zr_hLsI, zr_hLsR, zr_hRsI, zr_hRsL, zr_hNsI, zr_hNsL, zr_hNsR, zr_hZsI, zr_hZsL, zr_hZsR, b2_01, Classical.not_not, Int32.toInt_toInt64, Int64.reduceToInt, zc_1000, zc_100, zc_10, zc_9, zc_2, ci_f, hM2, mR_25, aLen_325, aCod_325, mb_25 e', mR_26, aLen_326, aCod_326, mb_26 e', mR_57, aLen_357, aCod_357, ma_57 e', mR_58, aLen_358, aCod_358, ma_58 e', mR_59, aLen_359, aCod_359, mb_59 e', es21, es14]
            refine ⟨fun qc21 => ?_, fun qc21 => ?_⟩
            · try simp only [b2_0, Classical.not_not] at qc21
              try simp only [Int64.le_iff_toInt_le, Int64.lt_iff_toInt_lt, Int32.lt_iff_toInt_lt, Int32.le_iff_toInt_le, Int32.toInt_toInt64, Int64.reduceToInt, Int32.reduceToInt, Int.reduceNeg, Classical.not_not, i32e, l_add] at qc21
              refine st b_X12_loan_166 _ _ k_X12_loan_166 _ _ _ _ _ ?_
              simp only [b_X12_loan_166, zr_T, zr_aload_n0, zr_dup, zr_get0, zr_iadd, zr_iconst, zr_iret, zr_isub, zr_put0, zr_rt_a, zr_rt_i, zr_rt_l, zr_rt_n, zr_rt_z, zr_nil, zr_cons, ↓reduceIte, Nat.reduceAdd, Nat.reduceEqDiff, Nat.reduceLeDiff, Nat.reduceMul, Nat.reduceSub, Int32.reduceOfInt, Int64.reduceOfInt, Int64.reduceOfNat, true_and, and_true, false_and, and_false, or_false, false_or, true_or, or_true, Int.reduceEq, reduceCtorEq, or_self, and_self, ne_eq, not_false_eq_true, not_true_eq_false, eq_self, Nat.le_refl, Nat.zero_le, zr_eI, zr_eL, zr_eR, zr_pI, zr_pL, zr_pR, zr_pO, zr_pV, zq_pA0, zq_pA, zr_get, zr_put_n, zr_put, zr_rem_n, zr_rem, zr_cat_i, zr_cat_l, zr_cat_q, zr_w_n, zr_w, zr_args_n, zr_args, zr_tl_s, zr_tl_n, zr_hIsI, zr_hLsL, zr_hRsR, zr_hIsL, zr_hIsR, zr_hLsI, zr_hLsR, zr_hRsI, zr_hRsL, zr_hNsI, zr_hNsL, zr_hNsR, zr_hZsI, zr_hZsL, zr_hZsR, b2_01, Classical.not_not, Int32.toInt_toInt64, Int64.reduceToInt, zc_1000, zc_100, zc_10, zc_9, zc_2, ci_f, hM2, mR_25, aLen_325, aCod_325, mb_25 e', mR_26, aLen_326, aCod_326, mb_26 e', mR_57, aLen_357, aCod_357, ma_57 e', mR_58, aLen_358, aCod_358, ma_58 e', mR_59, aLen_359, aCod_359, mb_59 e', es21, es14]
              have ei : i = 32 := by omega
              subst ei
              simp only [inv.cE.s, nI_pred]
              refine qi ?_ (show mv (sI h' 14 0 21 _) = _ from by rw [mw_21, e']) (z_sC.I hsc (by decide)) hM3
              unfold o_loan
              rw [if_neg (by omega), if_neg (by omega), if_neg (by omega)]
              rfl
            · try simp only [b2_0, Classical.not_not] at qc21
              try simp only [Int64.le_iff_toInt_le, Int64.lt_iff_toInt_lt, Int32.lt_iff_toInt_lt, Int32.le_iff_toInt_le, Int32.toInt_toInt64, Int64.reduceToInt, Int32.reduceToInt, Int.reduceNeg, Classical.not_not, i32e, l_add] at qc21
              refine ⟨fun qc22 => ?_, fun qc22 => ?_⟩
              · try simp only [b2_0, Classical.not_not] at qc22
                try simp only [Int64.le_iff_toInt_le, Int64.lt_iff_toInt_lt, Int32.lt_iff_toInt_lt, Int32.le_iff_toInt_le, Int32.toInt_toInt64, Int64.reduceToInt, Int32.reduceToInt, Int.reduceNeg, Classical.not_not, i32e, l_add] at qc22
                refine st b_X12_loan_158 _ _ k_X12_loan_158 _ _ _ _ _ ?_
                simp only [b_X12_loan_158, zr_iconst, zr_nil, zr_cons, ↓reduceIte, Nat.reduceAdd, Nat.reduceEqDiff, Nat.reduceLeDiff, Nat.reduceMul, Nat.reduceSub, Int32.reduceOfInt, Int64.reduceOfInt, Int64.reduceOfNat, true_and, and_true, false_and, and_false, or_false, false_or, true_or, or_true, Int.reduceEq, reduceCtorEq, or_self, and_self, ne_eq, not_false_eq_true, not_true_eq_false, eq_self, Nat.le_refl, Nat.zero_le, zr_eI, zr_eL, zr_eR, zr_pI, zr_pL, zr_pR, zr_pO, zr_pV, zq_pA0, zq_pA, zr_get, zr_put_n, zr_put, zr_rem_n, zr_rem, zr_cat_i, zr_cat_l, zr_cat_q, zr_w_n, zr_w, zr_args_n, zr_args, zr_tl_s, zr_tl_n, zr_hIsI, zr_hLsL, zr_hRsR, zr_hIsL, zr_hIsR, zr_hLsI, zr_hLsR, zr_hRsI, zr_hRsL, zr_hNsI, zr_hNsL, zr_hNsR, zr_hZsI, zr_hZsL, zr_hZsR, b2_01, Classical.not_not, Int32.toInt_toInt64, Int64.reduceToInt, zc_1000, zc_100, zc_10, zc_9, zc_2, ci_f, hM2, mR_25, aLen_325, aCod_325, mb_25 e', mR_26, aLen_326, aCod_326, mb_26 e', mR_57, aLen_357, aCod_357, ma_57 e', mR_58, aLen_358, aCod_358, ma_58 e', mR_59, aLen_359, aCod_359, mb_59 e', es21, es14]
                refine st b_X12_loan_159 _ _ k_X12_loan_159 _ _ _ _ _ ?_
                simp only [b_X12_loan_159, zr_goto, zr_iast, zr_iinc, zr_nil, zr_cons, ↓reduceIte, Nat.reduceAdd, Nat.reduceEqDiff, Nat.reduceLeDiff, Nat.reduceMul, Nat.reduceSub, Int32.reduceOfInt, Int64.reduceOfInt, Int64.reduceOfNat, true_and, and_true, false_and, and_false, or_false, false_or, true_or, or_true, Int.reduceEq, reduceCtorEq, or_self, and_self, ne_eq, not_false_eq_true, not_true_eq_false, eq_self, Nat.le_refl, Nat.zero_le, zr_eI, zr_eL, zr_eR, zr_pI, zr_pL, zr_pR, zr_pO, zr_pV, zq_pA0, zq_pA, zr_get, zr_put_n, zr_put, zr_rem_n, zr_rem, zr_cat_i, zr_cat_l, zr_cat_q, zr_w_n, zr_w, zr_args_n, zr_args, zr_tl_s, zr_tl_n, zr_hIsI, zr_hLsL, zr_hRsR, zr_hIsL, zr_hIsR, zr_hLsI, zr_hLsR, zr_hRsI, zr_hRsL, zr_hNsI, zr_hNsL, zr_hNsR, zr_hZsI, zr_hZsL, zr_hZsR, b2_01, Classical.not_not, Int32.toInt_toInt64, Int64.reduceToInt, zc_1000, zc_100, zc_10, zc_9, zc_2, ci_f, hM2, mR_25, aLen_325, aCod_325, mb_25 e', mR_26, aLen_326, aCod_326, mb_26 e', mR_57, aLen_357, aCod_357, ma_57 e', mR_58, aLen_358, aCod_358, ma_58 e', mR_59, aLen_359, aCod_359, mb_59 e', es21, es14]
                rw [show (32 : Int32) * mS S 21 + nI i = nI (32 * ci (mS S 21) + i) from by rw [← ix32, ← inv.cE.1]]
                simp only [nI_clampS (show 32 * ci (mS S 21) + i < 2000000000 by omega)]
                refine ⟨by first | exact vpi (by omega) | with_reducible exact vp_in_nI (by omega) (by omega), ?_⟩
                first
                  | (rw [nI_1]
                     refine ih (by omega) _ ?_ (z_sC.I hsc (by decide)) hM3
                     simp only [mx_58, e']
                     refine z_M_ext (fun q j => ?_) (fun q j => rfl) (fun q => rfl) (fun q => rfl)
                     rw [mA_uA]
                     show _ = (if q = 58 ∧ 32 * nE S ≤ j ∧ j < 32 * nE S + (i + 1) then o_snc known (dy S) (j - 32 * nE S) else (uB (uA (uB (uB S 25 (ci k) (mB S 25 (ci k) - n.toInt64)) 26 (ci k) (mB S 26 (ci k) - o_lw S k n)) 57 (nE S) (dy S)) 59 (nE S) (o_bk S (ci k) (o_lw S k n))).1 q j)
                     by_cases q1 : q = 58 ∧ j = 32 * ci (mS S 21) + i
                     · rw [if_pos q1, if_pos (by omega), show j - 32 * nE S = i from by omega]
                       unfold o_snc
                       rw [if_pos (by simp only [i32e, Int32.reduceToInt]; assumption)]
                     · rw [if_neg q1]
                       show (if q = 58 ∧ 32 * nE S ≤ j ∧ j < 32 * nE S + i then _ else _) = _
                       by_cases q2 : q = 58 ∧ 32 * nE S ≤ j ∧ j < 32 * nE S + i
                       · rw [if_pos q2, if_pos (by omega)]
                       · rw [if_neg q2, if_neg (by omega)])
                  | (rw [nI_1]
                     refine ih (by omega) _ ?_ (z_sC.I hsc (by decide)) hM3
                     simp only [mx_58, e']
                     refine z_M_ext (fun q j => ?_) (fun q j => rfl) (fun q => rfl) (fun q => rfl)
                     rw [mA_uA]
                     show _ = (if q = 58 ∧ 32 * nE S ≤ j ∧ j < 32 * nE S + (i + 1) then o_snc known (dy S) (j - 32 * nE S) else (uB (uA (uB (uB S 25 (ci k) (mB S 25 (ci k) - n.toInt64)) 26 (ci k) (mB S 26 (ci k) - o_lw S k n)) 57 (nE S) (dy S)) 59 (nE S) (o_bk S (ci k) (o_lw S k n))).1 q j)
                     by_cases q1 : q = 58 ∧ j = 32 * ci (mS S 21) + i
                     · rw [if_pos q1, if_pos (by omega), show j - 32 * nE S = i from by omega]
                       unfold o_snc
                       rw [if_neg (by simp only [i32e, Int32.reduceToInt]; assumption)]
                     · rw [if_neg q1]
                       show (if q = 58 ∧ 32 * nE S ≤ j ∧ j < 32 * nE S + i then _ else _) = _
                       by_cases q2 : q = 58 ∧ 32 * nE S ≤ j ∧ j < 32 * nE S + i
                       · rw [if_pos q2, if_pos (by omega)]
                       · rw [if_neg q2, if_neg (by omega)])
              · try simp only [b2_0, Classical.not_not] at qc22
                try simp only [Int64.le_iff_toInt_le, Int64.lt_iff_toInt_lt, Int32.lt_iff_toInt_lt, Int32.le_iff_toInt_le, Int32.toInt_toInt64, Int64.reduceToInt, Int32.reduceToInt, Int.reduceNeg, Classical.not_not, i32e, l_add] at qc22
                refine st b_X12_loan_159 _ _ k_X12_loan_159 _ _ _ _ _ ?_
                simp only [b_X12_loan_159, zr_goto, zr_iast, zr_iinc, zr_nil, zr_cons, ↓reduceIte, Nat.reduceAdd, Nat.reduceEqDiff, Nat.reduceLeDiff, Nat.reduceMul, Nat.reduceSub, Int32.reduceOfInt, Int64.reduceOfInt, Int64.reduceOfNat, true_and, and_true, false_and, and_false, or_false, false_or, true_or, or_true, Int.reduceEq, reduceCtorEq, or_self, and_self, ne_eq, not_false_eq_true, not_true_eq_false, eq_self, Nat.le_refl, Nat.zero_le, zr_eI, zr_eL, zr_eR, zr_pI, zr_pL, zr_pR, zr_pO, zr_pV, zq_pA0, zq_pA, zr_get, zr_put_n, zr_put, zr_rem_n, zr_rem, zr_cat_i, zr_cat_l, zr_cat_q, zr_w_n, zr_w, zr_args_n, zr_args, zr_tl_s, zr_tl_n, zr_hIsI, zr_hLsL, zr_hRsR, zr_hIsL, zr_hIsR, zr_hLsI, zr_hLsR, zr_hRsI, zr_hRsL, zr_hNsI, zr_hNsL, zr_hNsR, zr_hZsI, zr_hZsL, zr_hZsR, b2_01, Classical.not_not, Int32.toInt_toInt64, Int64.reduceToInt, zc_1000, zc_100, zc_10, zc_9, zc_2, ci_f, hM2, mR_25, aLen_325, aCod_325, mb_25 e', mR_26, aLen_326, aCod_326, mb_26 e', mR_57, aLen_357, aCod_357, ma_57 e', mR_58, aLen_358, aCod_358, ma_58 e', mR_59, aLen_359, aCod_359, mb_59 e', es21, es14]
                rw [show (32 : Int32) * mS S 21 + nI i = nI (32 * ci (mS S 21) + i) from by rw [← ix32, ← inv.cE.1]]
                simp only [nI_clampS (show 32 * ci (mS S 21) + i < 2000000000 by omega)]
                refine ⟨by first | exact vpi (by omega) | with_reducible exact vp_in_nI (by omega) (by omega), ?_⟩
                first
                  | (rw [nI_1]
                     refine ih (by omega) _ ?_ (z_sC.I hsc (by decide)) hM3
                     simp only [mx_58, e']
                     refine z_M_ext (fun q j => ?_) (fun q j => rfl) (fun q => rfl) (fun q => rfl)
                     rw [mA_uA]
                     show _ = (if q = 58 ∧ 32 * nE S ≤ j ∧ j < 32 * nE S + (i + 1) then o_snc known (dy S) (j - 32 * nE S) else (uB (uA (uB (uB S 25 (ci k) (mB S 25 (ci k) - n.toInt64)) 26 (ci k) (mB S 26 (ci k) - o_lw S k n)) 57 (nE S) (dy S)) 59 (nE S) (o_bk S (ci k) (o_lw S k n))).1 q j)
                     by_cases q1 : q = 58 ∧ j = 32 * ci (mS S 21) + i
                     · rw [if_pos q1, if_pos (by omega), show j - 32 * nE S = i from by omega]
                       unfold o_snc
                       rw [if_pos (by simp only [i32e, Int32.reduceToInt]; assumption)]
                     · rw [if_neg q1]
                       show (if q = 58 ∧ 32 * nE S ≤ j ∧ j < 32 * nE S + i then _ else _) = _
                       by_cases q2 : q = 58 ∧ 32 * nE S ≤ j ∧ j < 32 * nE S + i
                       · rw [if_pos q2, if_pos (by omega)]
                       · rw [if_neg q2, if_neg (by omega)])
                  | (rw [nI_1]
                     refine ih (by omega) _ ?_ (z_sC.I hsc (by decide)) hM3
                     simp only [mx_58, e']
                     refine z_M_ext (fun q j => ?_) (fun q j => rfl) (fun q => rfl) (fun q => rfl)
                     rw [mA_uA]
                     show _ = (if q = 58 ∧ 32 * nE S ≤ j ∧ j < 32 * nE S + (i + 1) then o_snc known (dy S) (j - 32 * nE S) else (uB (uA (uB (uB S 25 (ci k) (mB S 25 (ci k) - n.toInt64)) 26 (ci k) (mB S 26 (ci k) - o_lw S k n)) 57 (nE S) (dy S)) 59 (nE S) (o_bk S (ci k) (o_lw S k n))).1 q j)
                     by_cases q1 : q = 58 ∧ j = 32 * ci (mS S 21) + i
                     · rw [if_pos q1, if_pos (by omega), show j - 32 * nE S = i from by omega]
                       unfold o_snc
                       rw [if_neg (by simp only [i32e, Int32.reduceToInt]; assumption)]
                     · rw [if_neg q1]
                       show (if q = 58 ∧ 32 * nE S ≤ j ∧ j < 32 * nE S + i then _ else _) = _
                       by_cases q2 : q = 58 ∧ 32 * nE S ≤ j ∧ j < 32 * nE S + i
                       · rw [if_pos q2, if_pos (by omega)]
                       · rw [if_neg q2, if_neg (by omega)])
          · simp only [mv_thr, mv_sLs, mv_moved, e, mw_14, mw_21, my_25, my_26, mx_57, mx_58, my_59]
            refine z_M_ext (fun q j => ?_) (fun q j => rfl) (fun q => rfl) (fun q => rfl)
            show _ = (if q = 58 ∧ 32 * nE S ≤ j ∧ j < 32 * nE S + 0 then _ else _)
            rw [if_neg (by omega)]
            rfl
        · try simp only [b2_0, Classical.not_not] at qc4
          try simp only [Int64.le_iff_toInt_le, Int64.lt_iff_toInt_lt, Int32.lt_iff_toInt_lt, Int32.le_iff_toInt_le, Int32.toInt_toInt64, Int64.reduceToInt, Int32.reduceToInt, Int.reduceNeg, Classical.not_not, i32e, l_add] at qc4
          refine qi' ?_ (by repeat (first | exact z_sC.rf | exact hsc | refine z_sC.I ?_ (by decide) | refine z_sC.L ?_ (by decide))) hM'
          simp only [mv_thr, mv_sLs, mv_moved, e, mw_14, mw_21, my_25, my_26, mx_57, mx_58, my_59]
          unfold o_loan
          (repeat' split) <;> (first | rfl | (exfalso; omega))
      · try simp only [b2_0, Classical.not_not] at qc3
        try simp only [Int64.le_iff_toInt_le, Int64.lt_iff_toInt_lt, Int32.lt_iff_toInt_lt, Int32.le_iff_toInt_le, Int32.toInt_toInt64, Int64.reduceToInt, Int32.reduceToInt, Int.reduceNeg, Classical.not_not, i32e, l_add] at qc3
        refine qi' ?_ (by repeat (first | exact z_sC.rf | exact hsc | refine z_sC.I ?_ (by decide) | refine z_sC.L ?_ (by decide))) hM'
        simp only [mv_thr, mv_sLs, mv_moved, e, mw_14, mw_21, my_25, my_26, mx_57, mx_58, my_59]
        unfold o_loan
        (repeat' split) <;> (first | rfl | (exfalso; omega))
    · try simp only [b2_0, Classical.not_not] at qc2
      try simp only [Int64.le_iff_toInt_le, Int64.lt_iff_toInt_lt, Int32.lt_iff_toInt_lt, Int32.le_iff_toInt_le, Int32.toInt_toInt64, Int64.reduceToInt, Int32.reduceToInt, Int.reduceNeg, Classical.not_not, i32e, l_add] at qc2
      refine st b_X12_loan_18 _ _ k_X12_loan_18 _ _ _ _ _ ?_
      simp only [b_X12_loan_18, zr_T, zr_bipush, zr_iret, zr_rt_a, zr_rt_i, zr_rt_l, zr_rt_n, zr_rt_z, zr_nil, zr_cons, ↓reduceIte, Nat.reduceAdd, Nat.reduceEqDiff, Nat.reduceLeDiff, Nat.reduceMul, Nat.reduceSub, Int32.reduceOfInt, Int64.reduceOfInt, Int64.reduceOfNat, true_and, and_true, false_and, and_false, or_false, false_or, true_or, or_true, Int.reduceEq, reduceCtorEq, or_self, and_self, ne_eq, not_false_eq_true, not_true_eq_false, eq_self, Nat.le_refl, Nat.zero_le, zr_eI, zr_eL, zr_eR, zr_pI, zr_pL, zr_pR, zr_pO, zr_pV, zq_pA0, zq_pA, zr_get, zr_put_n, zr_put, zr_rem_n, zr_rem, zr_cat_i, zr_cat_l, zr_cat_q, zr_w_n, zr_w, zr_args_n, zr_args, zr_tl_s, zr_tl_n, zr_hIsI, zr_hLsL, zr_hRsR, zr_hIsL, zr_hIsR, zr_hLsI, zr_hLsR, zr_hRsI, zr_hRsL, zr_hNsI, zr_hNsL, zr_hNsR, zr_hZsI, zr_hZsL, zr_hZsR, b2_01, Classical.not_not, Int32.toInt_toInt64, Int64.reduceToInt, zc_1000, zc_100, zc_10, zc_9, zc_2, ci_f, hM, ms_14 e, ms_21 e, mR_25, aLen_325, aCod_325, mb_25 e, mR_26, aLen_326, aCod_326, mb_26 e, mR_57, aLen_357, aCod_357, ma_57 e, mR_58, aLen_358, aCod_358, ma_58 e, mR_59, aLen_359, aCod_359, mb_59 e, hlw, hlb]
      refine qi' ?_ (by repeat (first | exact z_sC.rf | exact hsc | refine z_sC.I ?_ (by decide) | refine z_sC.L ?_ (by decide))) hM'
      simp only [mv_thr, mv_sLs, mv_moved, e, mw_14, mw_21, my_25, my_26, mx_57, mx_58, my_59]
      unfold o_loan
      (repeat' split) <;> (first | rfl | (exfalso; omega))
theorem m_paste (l : Launch) (G : z_G) (d : Nat) (hd : 3 ≤ d) (S : z_M) (h : z_H) (e : mv h = S) (hM : z_MR h) (inv : INV S) (s i0 t k n : Int32) : z_MT l G d yX12_paste cX12_paste 7 (some .int) [z_r 14 0, z_i s, z_i i0, z_i t, z_i k, z_i n] h 0 0 (Qi h (o_paste S s i0 t k n)) := by
  have hM' := hM
  unfold z_MR at hM
  refine z_mt2 14 false ⟨by decide, rfl, fun q => absurd q (by decide)⟩ (by show 6 ≤ 7; decide) (fun A st wk => ?_)
  refine st b_X12_paste_0 _ _ k_X12_paste_0 _ _ _ _ _ ?_
  simp only [b_X12_paste_0, zr_aload_n0, zr_cP_eq, zr_cP_ne, zr_call1, zr_iconst, zr_ifc, zr_iload_n1, zr_iload_n3, zr_put0, zr_nil, zr_cons, ↓reduceIte, Nat.reduceAdd, Nat.reduceEqDiff, Nat.reduceLeDiff, Nat.reduceMul, Nat.reduceSub, Int32.reduceOfInt, Int64.reduceOfInt, Int64.reduceOfNat, true_and, and_true, false_and, and_false, or_false, false_or, true_or, or_true, Int.reduceEq, reduceCtorEq, or_self, and_self, ne_eq, not_false_eq_true, not_true_eq_false, eq_self, Nat.le_refl, Nat.zero_le, zr_eI, zr_eL, zr_eR, zr_pI, zr_pL, zr_pR, zr_pO, zr_pV, zq_pA0, zq_pA, zr_get, zr_put_n, zr_put, zr_rem_n, zr_rem, zr_cat_i, zr_cat_l, zr_cat_q, zr_w_n, zr_w, zr_args_n, zr_args, zr_tl_s, zr_tl_n, zr_hIsI, zr_hLsL, zr_hRsR, zr_hIsL, zr_hIsR, zr_hLsI, zr_hLsR, zr_hRsI, zr_hRsL, zr_hNsI, zr_hNsL, zr_hNsR, zr_hZsI, zr_hZsL, zr_hZsR, b2_01, Classical.not_not, Int32.toInt_toInt64, Int64.reduceToInt, zc_1000, zc_100, zc_10, zc_9, zc_2, ci_f, hM, mR_1, aLen_301, aCod_301, ma_1 e, mR_2, aLen_302, aCod_302, ma_2 e, mR_3, aLen_303, aCod_303, mb_3 e, mR_4, aLen_304, aCod_304]
  refine cp0 (by omega) lk_X12_181 trivial (m_isSlot l G _ (by omega) _ _) (Nat.le_refl _) (Nat.le_refl _) ?_
  simp only [zr_cP_eq, zr_cP_ne, zr_call1, zr_ifc, zr_iload_n3, zr_nil, zr_cons, ↓reduceIte, Nat.reduceAdd, Nat.reduceEqDiff, Nat.reduceLeDiff, Nat.reduceMul, Nat.reduceSub, Int32.reduceOfInt, Int64.reduceOfInt, Int64.reduceOfNat, true_and, and_true, false_and, and_false, or_false, false_or, true_or, or_true, Int.reduceEq, reduceCtorEq, or_self, and_self, ne_eq, not_false_eq_true, not_true_eq_false, eq_self, Nat.le_refl, Nat.zero_le, zr_eI, zr_eL, zr_eR, zr_pI, zr_pL, zr_pR, zr_pO, zr_pV, zq_pA0, zq_pA, zr_get, zr_put_n, zr_put, zr_rem_n, zr_rem, zr_cat_i, zr_cat_l, zr_cat_q, zr_w_n, zr_w, zr_args_n, zr_args, zr_tl_s, zr_tl_n, zr_hIsI, zr_hLsL, zr_hRsR, zr_hIsL, zr_hIsR, zr_hLsI, zr_hLsR, zr_hRsI, zr_hRsL, zr_hNsI, zr_hNsL, zr_hNsR, zr_hZsI, zr_hZsL, zr_hZsR, b2_01, Classical.not_not, Int32.toInt_toInt64, Int64.reduceToInt, zc_1000, zc_100, zc_10, zc_9, zc_2, ci_f, hM, mR_1, aLen_301, aCod_301, ma_1 e, mR_2, aLen_302, aCod_302, ma_2 e, mR_3, aLen_303, aCod_303, mb_3 e, mR_4, aLen_304, aCod_304]
  refine ⟨fun qc1 => ?_, fun qc1 => ?_⟩
  · try simp only [b2_0, Classical.not_not] at qc1
    try simp only [Int64.le_iff_toInt_le, Int64.lt_iff_toInt_lt, Int32.lt_iff_toInt_lt, Int32.le_iff_toInt_le, Int32.toInt_toInt64, Int64.reduceToInt, Int32.reduceToInt, Int.reduceNeg, Classical.not_not, i32e, l_add] at qc1
    refine st b_X12_paste_19 _ _ k_X12_paste_19 _ _ _ _ _ ?_
    simp only [b_X12_paste_19, zr_T, zr_bipush, zr_iret, zr_rt_a, zr_rt_i, zr_rt_l, zr_rt_n, zr_rt_z, zr_nil, zr_cons, ↓reduceIte, Nat.reduceAdd, Nat.reduceEqDiff, Nat.reduceLeDiff, Nat.reduceMul, Nat.reduceSub, Int32.reduceOfInt, Int64.reduceOfInt, Int64.reduceOfNat, true_and, and_true, false_and, and_false, or_false, false_or, true_or, or_true, Int.reduceEq, reduceCtorEq, or_self, and_self, ne_eq, not_false_eq_true, not_true_eq_false, eq_self, Nat.le_refl, Nat.zero_le, zr_eI, zr_eL, zr_eR, zr_pI, zr_pL, zr_pR, zr_pO, zr_pV, zq_pA0, zq_pA, zr_get, zr_put_n, zr_put, zr_rem_n, zr_rem, zr_cat_i, zr_cat_l, zr_cat_q, zr_w_n, zr_w, zr_args_n, zr_args, zr_tl_s, zr_tl_n, zr_hIsI, zr_hLsL, zr_hRsR, zr_hIsL, zr_hIsR, zr_hLsI, zr_hLsR, zr_hRsI, zr_hRsL, zr_hNsI, zr_hNsL, zr_hNsR, zr_hZsI, zr_hZsL, zr_hZsR, b2_01, Classical.not_not, Int32.toInt_toInt64, Int64.reduceToInt, zc_1000, zc_100, zc_10, zc_9, zc_2, ci_f, hM, mR_1, aLen_301, aCod_301, ma_1 e, mR_2, aLen_302, aCod_302, ma_2 e, mR_3, aLen_303, aCod_303, mb_3 e, mR_4, aLen_304, aCod_304]
    refine qi' ?_ (by repeat (first | exact z_sC.rf | exact hsc | refine z_sC.I ?_ (by decide) | refine z_sC.L ?_ (by decide))) hM'
    simp only [mv_thr, mv_sLs, mv_moved, e, mx_1, mx_2, my_3]
    unfold o_paste
    (repeat' split) <;> (first | rfl | (exfalso; omega))
  · try simp only [b2_0, Classical.not_not] at qc1
    try simp only [Int64.le_iff_toInt_le, Int64.lt_iff_toInt_lt, Int32.lt_iff_toInt_lt, Int32.le_iff_toInt_le, Int32.toInt_toInt64, Int64.reduceToInt, Int32.reduceToInt, Int.reduceNeg, Classical.not_not, i32e, l_add] at qc1
    refine cp0 (by omega) lk_X12_181 trivial (m_isSlot l G _ (by omega) _ _) (Nat.le_refl _) (Nat.le_refl _) ?_
    simp only [zr_cP_ne, zr_ifc, zr_nil, zr_cons, ↓reduceIte, Nat.reduceAdd, Nat.reduceEqDiff, Nat.reduceLeDiff, Nat.reduceMul, Nat.reduceSub, Int32.reduceOfInt, Int64.reduceOfInt, Int64.reduceOfNat, true_and, and_true, false_and, and_false, or_false, false_or, true_or, or_true, Int.reduceEq, reduceCtorEq, or_self, and_self, ne_eq, not_false_eq_true, not_true_eq_false, eq_self, Nat.le_refl, Nat.zero_le, zr_eI, zr_eL, zr_eR, zr_pI, zr_pL, zr_pR, zr_pO, zr_pV, zq_pA0, zq_pA, zr_get, zr_put_n, zr_put, zr_rem_n, zr_rem, zr_cat_i, zr_cat_l, zr_cat_q, zr_w_n, zr_w, zr_args_n, zr_args, zr_tl_s, zr_tl_n, zr_hIsI, zr_hLsL, zr_hRsR, zr_hIsL, zr_hIsR, zr_hLsI, zr_hLsR, zr_hRsI, zr_hRsL, zr_hNsI, zr_hNsL, zr_hNsR, zr_hZsI, zr_hZsL, zr_hZsR, b2_01, Classical.not_not, Int32.toInt_toInt64, Int64.reduceToInt, zc_1000, zc_100, zc_10, zc_9, zc_2, ci_f, hM, mR_1, aLen_301, aCod_301, ma_1 e, mR_2, aLen_302, aCod_302, ma_2 e, mR_3, aLen_303, aCod_303, mb_3 e, mR_4, aLen_304, aCod_304]
    refine ⟨fun qc2 => ?_, fun qc2 => ?_⟩
    · try simp only [b2_0, Classical.not_not] at qc2
      try simp only [Int64.le_iff_toInt_le, Int64.lt_iff_toInt_lt, Int32.lt_iff_toInt_lt, Int32.le_iff_toInt_le, Int32.toInt_toInt64, Int64.reduceToInt, Int32.reduceToInt, Int.reduceNeg, Classical.not_not, i32e, l_add] at qc2
      refine st b_X12_paste_22 _ _ k_X12_paste_22 _ _ _ _ _ ?_
      simp only [b_X12_paste_22, zr_aload_n0, zr_cP_ge, zr_cP_lt, zr_get2, zr_iald, zr_ifc, zr_iload_n1, zr_iload_n3, zr_nil, zr_cons, ↓reduceIte, Nat.reduceAdd, Nat.reduceEqDiff, Nat.reduceLeDiff, Nat.reduceMul, Nat.reduceSub, Int32.reduceOfInt, Int64.reduceOfInt, Int64.reduceOfNat, true_and, and_true, false_and, and_false, or_false, false_or, true_or, or_true, Int.reduceEq, reduceCtorEq, or_self, and_self, ne_eq, not_false_eq_true, not_true_eq_false, eq_self, Nat.le_refl, Nat.zero_le, zr_eI, zr_eL, zr_eR, zr_pI, zr_pL, zr_pR, zr_pO, zr_pV, zq_pA0, zq_pA, zr_get, zr_put_n, zr_put, zr_rem_n, zr_rem, zr_cat_i, zr_cat_l, zr_cat_q, zr_w_n, zr_w, zr_args_n, zr_args, zr_tl_s, zr_tl_n, zr_hIsI, zr_hLsL, zr_hRsR, zr_hIsL, zr_hIsR, zr_hLsI, zr_hLsR, zr_hRsI, zr_hRsL, zr_hNsI, zr_hNsL, zr_hNsR, zr_hZsI, zr_hZsL, zr_hZsR, b2_01, Classical.not_not, Int32.toInt_toInt64, Int64.reduceToInt, zc_1000, zc_100, zc_10, zc_9, zc_2, ci_f, hM, mR_1, aLen_301, aCod_301, ma_1 e, mR_2, aLen_302, aCod_302, ma_2 e, mR_3, aLen_303, aCod_303, mb_3 e, mR_4, aLen_304, aCod_304]
      refine ⟨by first | exact vpi (by omega) | with_reducible exact vp_in_nI (by omega) (by omega), ?_⟩
      refine ⟨fun qc3 => ?_, fun qc3 => ?_⟩
      · try simp only [b2_0, Classical.not_not] at qc3
        try simp only [Int64.le_iff_toInt_le, Int64.lt_iff_toInt_lt, Int32.lt_iff_toInt_lt, Int32.le_iff_toInt_le, Int32.toInt_toInt64, Int64.reduceToInt, Int32.reduceToInt, Int.reduceNeg, Classical.not_not, i32e, l_add] at qc3
        refine st b_X12_paste_40 _ _ k_X12_paste_40 _ _ _ _ _ ?_
        simp only [b_X12_paste_40, zr_T, zr_bipush, zr_iret, zr_rt_a, zr_rt_i, zr_rt_l, zr_rt_n, zr_rt_z, zr_nil, zr_cons, ↓reduceIte, Nat.reduceAdd, Nat.reduceEqDiff, Nat.reduceLeDiff, Nat.reduceMul, Nat.reduceSub, Int32.reduceOfInt, Int64.reduceOfInt, Int64.reduceOfNat, true_and, and_true, false_and, and_false, or_false, false_or, true_or, or_true, Int.reduceEq, reduceCtorEq, or_self, and_self, ne_eq, not_false_eq_true, not_true_eq_false, eq_self, Nat.le_refl, Nat.zero_le, zr_eI, zr_eL, zr_eR, zr_pI, zr_pL, zr_pR, zr_pO, zr_pV, zq_pA0, zq_pA, zr_get, zr_put_n, zr_put, zr_rem_n, zr_rem, zr_cat_i, zr_cat_l, zr_cat_q, zr_w_n, zr_w, zr_args_n, zr_args, zr_tl_s, zr_tl_n, zr_hIsI, zr_hLsL, zr_hRsR, zr_hIsL, zr_hIsR, zr_hLsI, zr_hLsR, zr_hRsI, zr_hRsL, zr_hNsI, zr_hNsL, zr_hNsR, zr_hZsI, zr_hZsL, zr_hZsR, b2_01, Classical.not_not, Int32.toInt_toInt64, Int64.reduceToInt, zc_1000, zc_100, zc_10, zc_9, zc_2, ci_f, hM, mR_1, aLen_301, aCod_301, ma_1 e, mR_2, aLen_302, aCod_302, ma_2 e, mR_3, aLen_303, aCod_303, mb_3 e, mR_4, aLen_304, aCod_304]
        refine qi' ?_ (by repeat (first | exact z_sC.rf | exact hsc | refine z_sC.I ?_ (by decide) | refine z_sC.L ?_ (by decide))) hM'
        simp only [mv_thr, mv_sLs, mv_moved, e, mx_1, mx_2, my_3]
        unfold o_paste
        (repeat' split) <;> (first | rfl | (exfalso; omega))
      · try simp only [b2_0, Classical.not_not] at qc3
        try simp only [Int64.le_iff_toInt_le, Int64.lt_iff_toInt_lt, Int32.lt_iff_toInt_lt, Int32.le_iff_toInt_le, Int32.toInt_toInt64, Int64.reduceToInt, Int32.reduceToInt, Int.reduceNeg, Classical.not_not, i32e, l_add] at qc3
        refine ⟨by first | exact vpi (by omega) | with_reducible exact vp_in_nI (by omega) (by omega), ?_⟩
        refine ⟨fun qc4 => ?_, fun qc4 => ?_⟩
        · try simp only [b2_0, Classical.not_not] at qc4
          try simp only [Int64.le_iff_toInt_le, Int64.lt_iff_toInt_lt, Int32.lt_iff_toInt_lt, Int32.le_iff_toInt_le, Int32.toInt_toInt64, Int64.reduceToInt, Int32.reduceToInt, Int.reduceNeg, Classical.not_not, i32e, l_add] at qc4
          refine st b_X12_paste_43 _ _ k_X12_paste_43 _ _ _ _ _ ?_
          simp only [b_X12_paste_43, zr_T, zr_aload_n0, zr_bipush, zr_cP_eq, zr_get2, zr_iald, zr_icmp, zr_iload_n1, zr_iload_n3, zr_iret, zr_rt_a, zr_rt_i, zr_rt_l, zr_rt_n, zr_rt_z, zr_nil, zr_cons, ↓reduceIte, Nat.reduceAdd, Nat.reduceEqDiff, Nat.reduceLeDiff, Nat.reduceMul, Nat.reduceSub, Int32.reduceOfInt, Int64.reduceOfInt, Int64.reduceOfNat, true_and, and_true, false_and, and_false, or_false, false_or, true_or, or_true, Int.reduceEq, reduceCtorEq, or_self, and_self, ne_eq, not_false_eq_true, not_true_eq_false, eq_self, Nat.le_refl, Nat.zero_le, zr_eI, zr_eL, zr_eR, zr_pI, zr_pL, zr_pR, zr_pO, zr_pV, zq_pA0, zq_pA, zr_get, zr_put_n, zr_put, zr_rem_n, zr_rem, zr_cat_i, zr_cat_l, zr_cat_q, zr_w_n, zr_w, zr_args_n, zr_args, zr_tl_s, zr_tl_n, zr_hIsI, zr_hLsL, zr_hRsR, zr_hIsL, zr_hIsR, zr_hLsI, zr_hLsR, zr_hRsI, zr_hRsL, zr_hNsI, zr_hNsL, zr_hNsR, zr_hZsI, zr_hZsL, zr_hZsR, b2_01, Classical.not_not, Int32.toInt_toInt64, Int64.reduceToInt, zc_1000, zc_100, zc_10, zc_9, zc_2, ci_f, hM, mR_1, aLen_301, aCod_301, ma_1 e, mR_2, aLen_302, aCod_302, ma_2 e, mR_3, aLen_303, aCod_303, mb_3 e, mR_4, aLen_304, aCod_304]
          refine ⟨by first | exact vpi (by omega) | with_reducible exact vp_in_nI (by omega) (by omega), ?_⟩
          refine ⟨by first | exact vpi (by omega) | with_reducible exact vp_in_nI (by omega) (by omega), ?_⟩
          refine ⟨fun qc5 => ?_, fun qc5 => ?_⟩
          · try simp only [b2_0, Classical.not_not] at qc5
            try simp only [Int64.le_iff_toInt_le, Int64.lt_iff_toInt_lt, Int32.lt_iff_toInt_lt, Int32.le_iff_toInt_le, Int32.toInt_toInt64, Int64.reduceToInt, Int32.reduceToInt, Int.reduceNeg, Classical.not_not, i32e, l_add] at qc5
            refine st b_X12_paste_61 _ _ k_X12_paste_61 _ _ _ _ _ ?_
            simp only [b_X12_paste_61, lg_cmp_eq, lg_cmp_ge, lg_cmp_gt, lg_cmp_le, lg_cmp_lt, zr_aload_n0, zr_cP_gt, zr_cP_le, zr_cP_lt, zr_get2, zr_i2l, zr_iald, zr_ifc, zr_iload, zr_iload_n1, zr_iload_n2, zr_iload_n3, zr_ladd, zr_lcmp, zr_nil, zr_cons, ↓reduceIte, Nat.reduceAdd, Nat.reduceEqDiff, Nat.reduceLeDiff, Nat.reduceMul, Nat.reduceSub, Int32.reduceOfInt, Int64.reduceOfInt, Int64.reduceOfNat, true_and, and_true, false_and, and_false, or_false, false_or, true_or, or_true, Int.reduceEq, reduceCtorEq, or_self, and_self, ne_eq, not_false_eq_true, not_true_eq_false, eq_self, Nat.le_refl, Nat.zero_le, zr_eI, zr_eL, zr_eR, zr_pI, zr_pL, zr_pR, zr_pO, zr_pV, zq_pA0, zq_pA, zr_get, zr_put_n, zr_put, zr_rem_n, zr_rem, zr_cat_i, zr_cat_l, zr_cat_q, zr_w_n, zr_w, zr_args_n, zr_args, zr_tl_s, zr_tl_n, zr_hIsI, zr_hLsL, zr_hRsR, zr_hIsL, zr_hIsR, zr_hLsI, zr_hLsR, zr_hRsI, zr_hRsL, zr_hNsI, zr_hNsL, zr_hNsR, zr_hZsI, zr_hZsL, zr_hZsR, b2_01, Classical.not_not, Int32.toInt_toInt64, Int64.reduceToInt, zc_1000, zc_100, zc_10, zc_9, zc_2, ci_f, hM, mR_1, aLen_301, aCod_301, ma_1 e, mR_2, aLen_302, aCod_302, ma_2 e, mR_3, aLen_303, aCod_303, mb_3 e, mR_4, aLen_304, aCod_304]
            refine ⟨fun qc6 => ?_, fun qc6 => ?_⟩
            · try simp only [b2_0, Classical.not_not] at qc6
              try simp only [Int64.le_iff_toInt_le, Int64.lt_iff_toInt_lt, Int32.lt_iff_toInt_lt, Int32.le_iff_toInt_le, Int32.toInt_toInt64, Int64.reduceToInt, Int32.reduceToInt, Int.reduceNeg, Classical.not_not, i32e, l_add] at qc6
              refine st b_X12_paste_110 _ _ k_X12_paste_110 _ _ _ _ _ ?_
              simp only [b_X12_paste_110, zr_T, zr_bipush, zr_iret, zr_rt_a, zr_rt_i, zr_rt_l, zr_rt_n, zr_rt_z, zr_nil, zr_cons, ↓reduceIte, Nat.reduceAdd, Nat.reduceEqDiff, Nat.reduceLeDiff, Nat.reduceMul, Nat.reduceSub, Int32.reduceOfInt, Int64.reduceOfInt, Int64.reduceOfNat, true_and, and_true, false_and, and_false, or_false, false_or, true_or, or_true, Int.reduceEq, reduceCtorEq, or_self, and_self, ne_eq, not_false_eq_true, not_true_eq_false, eq_self, Nat.le_refl, Nat.zero_le, zr_eI, zr_eL, zr_eR, zr_pI, zr_pL, zr_pR, zr_pO, zr_pV, zq_pA0, zq_pA, zr_get, zr_put_n, zr_put, zr_rem_n, zr_rem, zr_cat_i, zr_cat_l, zr_cat_q, zr_w_n, zr_w, zr_args_n, zr_args, zr_tl_s, zr_tl_n, zr_hIsI, zr_hLsL, zr_hRsR, zr_hIsL, zr_hIsR, zr_hLsI, zr_hLsR, zr_hRsI, zr_hRsL, zr_hNsI, zr_hNsL, zr_hNsR, zr_hZsI, zr_hZsL, zr_hZsR, b2_01, Classical.not_not, Int32.toInt_toInt64, Int64.reduceToInt, zc_1000, zc_100, zc_10, zc_9, zc_2, ci_f, hM, mR_1, aLen_301, aCod_301, ma_1 e, mR_2, aLen_302, aCod_302, ma_2 e, mR_3, aLen_303, aCod_303, mb_3 e, mR_4, aLen_304, aCod_304]
              refine qi' ?_ (by repeat (first | exact z_sC.rf | exact hsc | refine z_sC.I ?_ (by decide) | refine z_sC.L ?_ (by decide))) hM'
              simp only [mv_thr, mv_sLs, mv_moved, e, mx_1, mx_2, my_3]
              unfold o_paste
              (repeat' split) <;> (first | rfl | (exfalso; omega))
            · try simp only [b2_0, Classical.not_not] at qc6
              try simp only [Int64.le_iff_toInt_le, Int64.lt_iff_toInt_lt, Int32.lt_iff_toInt_lt, Int32.le_iff_toInt_le, Int32.toInt_toInt64, Int64.reduceToInt, Int32.reduceToInt, Int.reduceNeg, Classical.not_not, i32e, l_add] at qc6
              refine ⟨fun qc7 => ?_, fun qc7 => ?_⟩
              · try simp only [b2_0, Classical.not_not] at qc7
                try simp only [Int64.le_iff_toInt_le, Int64.lt_iff_toInt_lt, Int32.lt_iff_toInt_lt, Int32.le_iff_toInt_le, Int32.toInt_toInt64, Int64.reduceToInt, Int32.reduceToInt, Int.reduceNeg, Classical.not_not, i32e, l_add] at qc7
                refine st b_X12_paste_110 _ _ k_X12_paste_110 _ _ _ _ _ ?_
                simp only [b_X12_paste_110, zr_T, zr_bipush, zr_iret, zr_rt_a, zr_rt_i, zr_rt_l, zr_rt_n, zr_rt_z, zr_nil, zr_cons, ↓reduceIte, Nat.reduceAdd, Nat.reduceEqDiff, Nat.reduceLeDiff, Nat.reduceMul, Nat.reduceSub, Int32.reduceOfInt, Int64.reduceOfInt, Int64.reduceOfNat, true_and, and_true, false_and, and_false, or_false, false_or, true_or, or_true, Int.reduceEq, reduceCtorEq, or_self, and_self, ne_eq, not_false_eq_true, not_true_eq_false, eq_self, Nat.le_refl, Nat.zero_le, zr_eI, zr_eL, zr_eR, zr_pI, zr_pL, zr_pR, zr_pO, zr_pV, zq_pA0, zq_pA, zr_get, zr_put_n, zr_put, zr_rem_n, zr_rem, zr_cat_i, zr_cat_l, zr_cat_q, zr_w_n, zr_w, zr_args_n, zr_args, zr_tl_s, zr_tl_n, zr_hIsI, zr_hLsL, zr_hRsR, zr_hIsL, zr_hIsR, zr_hLsI, zr_hLsR, zr_hRsI, zr_hRsL, zr_hNsI, zr_hNsL, zr_hNsR, zr_hZsI, zr_hZsL, zr_hZsR, b2_01, Classical.not_not, Int32.toInt_toInt64, Int64.reduceToInt, zc_1000, zc_100, zc_10, zc_9, zc_2, ci_f, hM, mR_1, aLen_301, aCod_301, ma_1 e, mR_2, aLen_302, aCod_302, ma_2 e, mR_3, aLen_303, aCod_303, mb_3 e, mR_4, aLen_304, aCod_304]
                refine qi' ?_ (by repeat (first | exact z_sC.rf | exact hsc | refine z_sC.I ?_ (by decide) | refine z_sC.L ?_ (by decide))) hM'
                simp only [mv_thr, mv_sLs, mv_moved, e, mx_1, mx_2, my_3]
                unfold o_paste
                (repeat' split) <;> (first | rfl | (exfalso; omega))
              · try simp only [b2_0, Classical.not_not] at qc7
                try simp only [Int64.le_iff_toInt_le, Int64.lt_iff_toInt_lt, Int32.lt_iff_toInt_lt, Int32.le_iff_toInt_le, Int32.toInt_toInt64, Int64.reduceToInt, Int32.reduceToInt, Int.reduceNeg, Classical.not_not, i32e, l_add] at qc7
                refine ⟨fun qc8 => ?_, fun qc8 => ?_⟩
                · try simp only [b2_0, Classical.not_not] at qc8
                  try simp only [Int64.le_iff_toInt_le, Int64.lt_iff_toInt_lt, Int32.lt_iff_toInt_lt, Int32.le_iff_toInt_le, Int32.toInt_toInt64, Int64.reduceToInt, Int32.reduceToInt, Int.reduceNeg, Classical.not_not, i32e, l_add] at qc8
                  refine st b_X12_paste_110 _ _ k_X12_paste_110 _ _ _ _ _ ?_
                  simp only [b_X12_paste_110, zr_T, zr_bipush, zr_iret, zr_rt_a, zr_rt_i, zr_rt_l, zr_rt_n, zr_rt_z, zr_nil, zr_cons, ↓reduceIte, Nat.reduceAdd, Nat.reduceEqDiff, Nat.reduceLeDiff, Nat.reduceMul, Nat.reduceSub, Int32.reduceOfInt, Int64.reduceOfInt, Int64.reduceOfNat, true_and, and_true, false_and, and_false, or_false, false_or, true_or, or_true, Int.reduceEq, reduceCtorEq, or_self, and_self, ne_eq, not_false_eq_true, not_true_eq_false, eq_self, Nat.le_refl, Nat.zero_le, zr_eI, zr_eL, zr_eR, zr_pI, zr_pL, zr_pR, zr_pO, zr_pV, zq_pA0, zq_pA, zr_get, zr_put_n, zr_put, zr_rem_n, zr_rem, zr_cat_i, zr_cat_l, zr_cat_q, zr_w_n, zr_w, zr_args_n, zr_args, zr_tl_s, zr_tl_n, zr_hIsI, zr_hLsL, zr_hRsR, zr_hIsL, zr_hIsR, zr_hLsI, zr_hLsR, zr_hRsI, zr_hRsL, zr_hNsI, zr_hNsL, zr_hNsR, zr_hZsI, zr_hZsL, zr_hZsR, b2_01, Classical.not_not, Int32.toInt_toInt64, Int64.reduceToInt, zc_1000, zc_100, zc_10, zc_9, zc_2, ci_f, hM, mR_1, aLen_301, aCod_301, ma_1 e, mR_2, aLen_302, aCod_302, ma_2 e, mR_3, aLen_303, aCod_303, mb_3 e, mR_4, aLen_304, aCod_304]
                  refine qi' ?_ (by repeat (first | exact z_sC.rf | exact hsc | refine z_sC.I ?_ (by decide) | refine z_sC.L ?_ (by decide))) hM'
                  simp only [mv_thr, mv_sLs, mv_moved, e, mx_1, mx_2, my_3]
                  unfold o_paste
                  (repeat' split) <;> (first | rfl | (exfalso; omega))
                · try simp only [b2_0, Classical.not_not] at qc8
                  try simp only [Int64.le_iff_toInt_le, Int64.lt_iff_toInt_lt, Int32.lt_iff_toInt_lt, Int32.le_iff_toInt_le, Int32.toInt_toInt64, Int64.reduceToInt, Int32.reduceToInt, Int.reduceNeg, Classical.not_not, i32e, l_add] at qc8
                  refine ⟨by first | exact vpi (by omega) | with_reducible exact vp_in_nI (by omega) (by omega), ?_⟩
                  refine ⟨fun qc9 => ?_, fun qc9 => ?_⟩
                  · try simp only [b2_0, Classical.not_not] at qc9
                    try simp only [Int64.le_iff_toInt_le, Int64.lt_iff_toInt_lt, Int32.lt_iff_toInt_lt, Int32.le_iff_toInt_le, Int32.toInt_toInt64, Int64.reduceToInt, Int32.reduceToInt, Int.reduceNeg, Classical.not_not, i32e, l_add] at qc9
                    refine st b_X12_paste_110 _ _ k_X12_paste_110 _ _ _ _ _ ?_
                    simp only [b_X12_paste_110, zr_T, zr_bipush, zr_iret, zr_rt_a, zr_rt_i, zr_rt_l, zr_rt_n, zr_rt_z, zr_nil, zr_cons, ↓reduceIte, Nat.reduceAdd, Nat.reduceEqDiff, Nat.reduceLeDiff, Nat.reduceMul, Nat.reduceSub, Int32.reduceOfInt, Int64.reduceOfInt, Int64.reduceOfNat, true_and, and_true, false_and, and_false, or_false, false_or, true_or, or_true, Int.reduceEq, reduceCtorEq, or_self, and_self, ne_eq, not_false_eq_true, not_true_eq_false, eq_self, Nat.le_refl, Nat.zero_le, zr_eI, zr_eL, zr_eR, zr_pI, zr_pL, zr_pR, zr_pO, zr_pV, zq_pA0, zq_pA, zr_get, zr_put_n, zr_put, zr_rem_n, zr_rem, zr_cat_i, zr_cat_l, zr_cat_q, zr_w_n, zr_w, zr_args_n, zr_args, zr_tl_s, zr_tl_n, zr_hIsI, zr_hLsL, zr_hRsR, zr_hIsL, zr_hIsR, zr_hLsI, zr_hLsR, zr_hRsI, zr_hRsL, zr_hNsI, zr_hNsL, zr_hNsR, zr_hZsI, zr_hZsL, zr_hZsR, b2_01, Classical.not_not, Int32.toInt_toInt64, Int64.reduceToInt, zc_1000, zc_100, zc_10, zc_9, zc_2, ci_f, hM, mR_1, aLen_301, aCod_301, ma_1 e, mR_2, aLen_302, aCod_302, ma_2 e, mR_3, aLen_303, aCod_303, mb_3 e, mR_4, aLen_304, aCod_304]
                    refine qi' ?_ (by repeat (first | exact z_sC.rf | exact hsc | refine z_sC.I ?_ (by decide) | refine z_sC.L ?_ (by decide))) hM'
                    simp only [mv_thr, mv_sLs, mv_moved, e, mx_1, mx_2, my_3]
                    unfold o_paste
                    (repeat' split) <;> (first | rfl | (exfalso; omega))
                  · try simp only [b2_0, Classical.not_not] at qc9
                    try simp only [Int64.le_iff_toInt_le, Int64.lt_iff_toInt_lt, Int32.lt_iff_toInt_lt, Int32.le_iff_toInt_le, Int32.toInt_toInt64, Int64.reduceToInt, Int32.reduceToInt, Int.reduceNeg, Classical.not_not, i32e, l_add] at qc9
                    refine ⟨by first | exact vpi (by omega) | with_reducible exact vp_in_nI (by omega) (by omega), ?_⟩
                    refine ⟨fun qc10 => ?_, fun qc10 => ?_⟩
                    · try simp only [b2_0, Classical.not_not] at qc10
                      try simp only [Int64.le_iff_toInt_le, Int64.lt_iff_toInt_lt, Int32.lt_iff_toInt_lt, Int32.le_iff_toInt_le, Int32.toInt_toInt64, Int64.reduceToInt, Int32.reduceToInt, Int.reduceNeg, Classical.not_not, i32e, l_add] at qc10
                      refine st b_X12_paste_113 _ _ k_X12_paste_113 _ _ _ _ _ ?_
                      simp only [b_X12_paste_113, zr_iconst, zr_istore, zr_nil, zr_cons, ↓reduceIte, Nat.reduceAdd, Nat.reduceEqDiff, Nat.reduceLeDiff, Nat.reduceMul, Nat.reduceSub, Int32.reduceOfInt, Int64.reduceOfInt, Int64.reduceOfNat, true_and, and_true, false_and, and_false, or_false, false_or, true_or, or_true, Int.reduceEq, reduceCtorEq, or_self, and_self, ne_eq, not_false_eq_true, not_true_eq_false, eq_self, Nat.le_refl, Nat.zero_le, zr_eI, zr_eL, zr_eR, zr_pI, zr_pL, zr_pR, zr_pO, zr_pV, zq_pA0, zq_pA, zr_get, zr_put_n, zr_put, zr_rem_n, zr_rem, zr_cat_i, zr_cat_l, zr_cat_q, zr_w_n, zr_w, zr_args_n, zr_args, zr_tl_s, zr_tl_n, zr_hIsI, zr_hLsL, zr_hRsR, zr_hIsL, zr_hIsR, zr_hLsI, zr_hLsR, zr_hRsI, zr_hRsL, zr_hNsI, zr_hNsL, zr_hNsR, zr_hZsI, zr_hZsL, zr_hZsR, b2_01, Classical.not_not, Int32.toInt_toInt64, Int64.reduceToInt, zc_1000, zc_100, zc_10, zc_9, zc_2, ci_f, hM, mR_1, aLen_301, aCod_301, ma_1 e, mR_2, aLen_302, aCod_302, ma_2 e, mR_3, aLen_303, aCod_303, mb_3 e, mR_4, aLen_304, aCod_304]
                      have k1 := ci_int (x := s) (by omega)
                      have k2 := ci_int (x := i0) (by omega)
                      have k3 := ci_int (x := t) (by omega)
                      have k4 := ci_int (x := k) (by omega)
                      have k5 := ci_int (x := n) (by omega)
                      have j1 := inv.row (ci s) (by omega)
                      have j2 := inv.row (ci t) (by omega)
                      refine (show ∀ i, i ≤ ci n → ∀ h' : z_H, mv h' = S → (∀ j, j < i → hL h' 304 0 j = mB S 3 (60 * ci s + ci i0 + j)) → z_sC h h' → z_MR h' → A 116 [(0, z_r 14 0), (1, z_i s), (2, z_i i0), (3, z_i t), (4, z_i k), (5, z_i n), (6, z_i (nI i))] [] h' 0 0 from z_loop (fun i hi ih => ?_)) 0 (Nat.zero_le _) _ (by simp only [mv_thr, e]) (fun j hj => absurd hj (by omega)) (by repeat (first | exact z_sC.rf | exact hsc | refine z_sC.I ?_ (by decide) | refine z_sC.L ?_ (by decide))) hM'
                      intro h' e' hv hsc hM2
                      have hM3 := hM2
                      unfold z_MR at hM2
                      have ti := toIntS (show i < 2000000000 by omega)
                      have ki := nI_clampS (show i < 2000000000 by omega)
                      refine st b_X12_paste_116 _ _ k_X12_paste_116 _ _ _ _ _ ?_
                      simp only [b_X12_paste_116, zr_aload_n0, zr_bipush, zr_cP_ge, zr_get2, zr_goto, zr_iadd, zr_icmp, zr_iinc, zr_iload, zr_iload_n1, zr_iload_n2, zr_imul, zr_lald, zr_last, zr_nil, zr_cons, ↓reduceIte, Nat.reduceAdd, Nat.reduceEqDiff, Nat.reduceLeDiff, Nat.reduceMul, Nat.reduceSub, Int32.reduceOfInt, Int64.reduceOfInt, Int64.reduceOfNat, true_and, and_true, false_and, and_false, or_false, false_or, true_or, or_true, Int.reduceEq, reduceCtorEq, or_self, and_self, ne_eq, not_false_eq_true, not_true_eq_false, eq_self, Nat.le_refl, Nat.zero_le, zr_eI, zr_eL, zr_eR, zr_pI, zr_pL, zr_pR, zr_pO, zr_pV, zq_pA0, zq_pA, zr_get, zr_put_n, zr_put, zr_rem_n, zr_rem, zr_cat_i, zr_cat_l, zr_cat_q, zr_w_n, zr_w, zr_args_n, zr_args, zr_tl_s, zr_tl_n, zr_hIsI, zr_hLsL, zr_hRsR, zr_hIsL, zr_hIsR, zr_hLsI, zr_hLsR, zr_hRsI, zr_hRsL, zr_hNsI, zr_hNsL, zr_hNsR, zr_hZsI, zr_hZsL, zr_hZsR, b2_01, Classical.not_not, Int32.toInt_toInt64, Int64.reduceToInt, zc_1000, zc_100, zc_10, zc_9, zc_2, ci_f, hM2, mR_1, aLen_301, aCod_301, ma_1 e', mR_2, aLen_302, aCod_302, ma_2 e', mR_3, aLen_303, aCod_303, mb_3 e', mR_4, aLen_304, aCod_304, ki]
                      refine ⟨fun qc21 => ?_, fun qc21 => ?_⟩
                      · try simp only [b2_0, Classical.not_not] at qc21
                        try simp only [Int64.le_iff_toInt_le, Int64.lt_iff_toInt_lt, Int32.lt_iff_toInt_lt, Int32.le_iff_toInt_le, Int32.toInt_toInt64, Int64.reduceToInt, Int32.reduceToInt, Int.reduceNeg, Classical.not_not, i32e, l_add] at qc21
                        refine st b_X12_paste_150 _ _ k_X12_paste_150 _ _ _ _ _ ?_
                        simp only [b_X12_paste_150, zr_iconst, zr_istore, zr_nil, zr_cons, ↓reduceIte, Nat.reduceAdd, Nat.reduceEqDiff, Nat.reduceLeDiff, Nat.reduceMul, Nat.reduceSub, Int32.reduceOfInt, Int64.reduceOfInt, Int64.reduceOfNat, true_and, and_true, false_and, and_false, or_false, false_or, true_or, or_true, Int.reduceEq, reduceCtorEq, or_self, and_self, ne_eq, not_false_eq_true, not_true_eq_false, eq_self, Nat.le_refl, Nat.zero_le, zr_eI, zr_eL, zr_eR, zr_pI, zr_pL, zr_pR, zr_pO, zr_pV, zq_pA0, zq_pA, zr_get, zr_put_n, zr_put, zr_rem_n, zr_rem, zr_cat_i, zr_cat_l, zr_cat_q, zr_w_n, zr_w, zr_args_n, zr_args, zr_tl_s, zr_tl_n, zr_hIsI, zr_hLsL, zr_hRsR, zr_hIsL, zr_hIsR, zr_hLsI, zr_hLsR, zr_hRsI, zr_hRsL, zr_hNsI, zr_hNsL, zr_hNsR, zr_hZsI, zr_hZsL, zr_hZsR, b2_01, Classical.not_not, Int32.toInt_toInt64, Int64.reduceToInt, zc_1000, zc_100, zc_10, zc_9, zc_2, ci_f, hM2, mR_1, aLen_301, aCod_301, ma_1 e', mR_2, aLen_302, aCod_302, ma_2 e', mR_3, aLen_303, aCod_303, mb_3 e', mR_4, aLen_304, aCod_304, ki]
                        have ei : i = ci n := by omega
                        subst ei
                        refine (show ∀ i, i ≤ ci n → ∀ h1 : z_H, mv h1 = ((S.1, fun q j => if q = 3 ∧ 60 * ci t + ci k ≤ j ∧ j < 60 * ci t + ci k + i then S.2.1 3 (60 * ci s + ci i0 + (j - (60 * ci t + ci k))) else S.2.1 q j, S.2.2) : z_M) → (∀ j, j < ci n → hL h1 304 0 j = mB S 3 (60 * ci s + ci i0 + j)) → z_sC h h1 → z_MR h1 → A 153 [(0, z_r 14 0), (1, z_i s), (2, z_i i0), (3, z_i t), (4, z_i k), (5, z_i n), (6, z_i (nI i))] [] h1 0 0 from z_loop (fun i hi ih => ?_)) 0 (Nat.zero_le _) _ ?_ hv hsc hM3
                        · intro h1 e1 hv1 hsc1 hM4
                          have hM5 := hM4
                          unfold z_MR at hM4
                          have ti2 := toIntS (show i < 2000000000 by omega)
                          have ki2 := nI_clampS (show i < 2000000000 by omega)
                          refine st b_X12_paste_153 _ _ k_X12_paste_153 _ _ _ _ _ ?_
                          simp only [b_X12_paste_153, zr_aload_n0, zr_bipush, zr_cP_ge, zr_get2, zr_goto, zr_iadd, zr_icmp, zr_iinc, zr_iload, zr_iload_n3, zr_imul, zr_lald, zr_last, zr_nil, zr_cons, ↓reduceIte, Nat.reduceAdd, Nat.reduceEqDiff, Nat.reduceLeDiff, Nat.reduceMul, Nat.reduceSub, Int32.reduceOfInt, Int64.reduceOfInt, Int64.reduceOfNat, true_and, and_true, false_and, and_false, or_false, false_or, true_or, or_true, Int.reduceEq, reduceCtorEq, or_self, and_self, ne_eq, not_false_eq_true, not_true_eq_false, eq_self, Nat.le_refl, Nat.zero_le, zr_eI, zr_eL, zr_eR, zr_pI, zr_pL, zr_pR, zr_pO, zr_pV, zq_pA0, zq_pA, zr_get, zr_put_n, zr_put, zr_rem_n, zr_rem, zr_cat_i, zr_cat_l, zr_cat_q, zr_w_n, zr_w, zr_args_n, zr_args, zr_tl_s, zr_tl_n, zr_hIsI, zr_hLsL, zr_hRsR, zr_hIsL, zr_hIsR, zr_hLsI, zr_hLsR, zr_hRsI, zr_hRsL, zr_hNsI, zr_hNsL, zr_hNsR, zr_hZsI, zr_hZsL, zr_hZsR, b2_01, Classical.not_not, Int32.toInt_toInt64, Int64.reduceToInt, zc_1000, zc_100, zc_10, zc_9, zc_2, ci_f, hM4, mR_1, aLen_301, aCod_301, ma_1 e1, mR_2, aLen_302, aCod_302, ma_2 e1, mR_4, aLen_304, aCod_304, mR_3, aLen_303, aCod_303, ki2]
                          refine ⟨fun qc41 => ?_, fun qc41 => ?_⟩
                          · try simp only [b2_0, Classical.not_not] at qc41
                            try simp only [Int64.le_iff_toInt_le, Int64.lt_iff_toInt_lt, Int32.lt_iff_toInt_lt, Int32.le_iff_toInt_le, Int32.toInt_toInt64, Int64.reduceToInt, Int32.reduceToInt, Int.reduceNeg, Classical.not_not, i32e, l_add] at qc41
                            refine st b_X12_paste_188 _ _ k_X12_paste_188 _ _ _ _ _ ?_
                            simp only [b_X12_paste_188, zr_T, zr_iconst, zr_iret, zr_rt_a, zr_rt_i, zr_rt_l, zr_rt_n, zr_rt_z, zr_nil, zr_cons, ↓reduceIte, Nat.reduceAdd, Nat.reduceEqDiff, Nat.reduceLeDiff, Nat.reduceMul, Nat.reduceSub, Int32.reduceOfInt, Int64.reduceOfInt, Int64.reduceOfNat, true_and, and_true, false_and, and_false, or_false, false_or, true_or, or_true, Int.reduceEq, reduceCtorEq, or_self, and_self, ne_eq, not_false_eq_true, not_true_eq_false, eq_self, Nat.le_refl, Nat.zero_le, zr_eI, zr_eL, zr_eR, zr_pI, zr_pL, zr_pR, zr_pO, zr_pV, zq_pA0, zq_pA, zr_get, zr_put_n, zr_put, zr_rem_n, zr_rem, zr_cat_i, zr_cat_l, zr_cat_q, zr_w_n, zr_w, zr_args_n, zr_args, zr_tl_s, zr_tl_n, zr_hIsI, zr_hLsL, zr_hRsR, zr_hIsL, zr_hIsR, zr_hLsI, zr_hLsR, zr_hRsI, zr_hRsL, zr_hNsI, zr_hNsL, zr_hNsR, zr_hZsI, zr_hZsL, zr_hZsR, b2_01, Classical.not_not, Int32.toInt_toInt64, Int64.reduceToInt, zc_1000, zc_100, zc_10, zc_9, zc_2, ci_f, hM4, mR_1, aLen_301, aCod_301, ma_1 e1, mR_2, aLen_302, aCod_302, ma_2 e1, mR_4, aLen_304, aCod_304, mR_3, aLen_303, aCod_303, ki2]
                            have ei : i = ci n := by omega
                            subst ei
                            refine qi ?_ e1 hsc1 hM5
                            unfold o_paste
                            rw [if_neg (by omega), if_neg (by omega), if_neg (by omega), if_neg (by omega)]
                          · try simp only [b2_0, Classical.not_not] at qc41
                            try simp only [Int64.le_iff_toInt_le, Int64.lt_iff_toInt_lt, Int32.lt_iff_toInt_lt, Int32.le_iff_toInt_le, Int32.toInt_toInt64, Int64.reduceToInt, Int32.reduceToInt, Int.reduceNeg, Classical.not_not, i32e, l_add] at qc41
                            refine ⟨by first | exact vpi (by omega) | with_reducible exact vp_in_nI (by omega) (by omega), ?_⟩
                            rw [show (60 : Int32) * t + k + nI i = nI (60 * ci t + ci k + i) from by rw [ix60c (by omega) (by omega), nI_add]]
                            simp only [nI_clampS (show 60 * ci t + ci k + i < 2000000000 by omega), hv1 i (by omega)]
                            refine ⟨by first | exact vpi (by omega) | with_reducible exact vp_in_nI (by omega) (by omega), ?_⟩
                            rw [nI_1]
                            refine ih (by omega) _ ?_ (fun j hj => ?_) (z_sC.L hsc1 (by decide)) hM5
                            · simp only [my_3, e1]
                              refine z_M_ext (fun k j => rfl) (fun q j => ?_) (fun k => rfl) (fun k => rfl)
                              rw [mB_uB]
                              show _ = (if q = 3 ∧ 60 * ci t + ci k ≤ j ∧ j < 60 * ci t + ci k + (i + 1) then S.2.1 3 (60 * ci s + ci i0 + (j - (60 * ci t + ci k))) else S.2.1 q j)
                              by_cases q1 : q = 3 ∧ j = 60 * ci t + ci k + i
                              · rw [if_pos q1, if_pos (by omega), show j - (60 * ci t + ci k) = i from by omega]
                                rfl
                              · rw [if_neg q1]
                                show (if q = 3 ∧ 60 * ci t + ci k ≤ j ∧ j < 60 * ci t + ci k + i then _ else _) = _
                                by_cases q2 : q = 3 ∧ 60 * ci t + ci k ≤ j ∧ j < 60 * ci t + ci k + i
                                · rw [if_pos q2, if_pos (by omega)]
                                · rw [if_neg q2, if_neg (by omega)]
                            · rw [zr_hLsL, if_neg (fun z => absurd z.1 (by decide))]
                              exact hv1 j hj
                        · rw [e']
                          refine z_M_ext (fun k j => rfl) (fun q j => ?_) (fun k => rfl) (fun k => rfl)
                          show S.2.1 q j = (if q = 3 ∧ 60 * ci t + ci k ≤ j ∧ j < 60 * ci t + ci k + 0 then _ else S.2.1 q j)
                          rw [if_neg (by omega)]
                      · try simp only [b2_0, Classical.not_not] at qc21
                        try simp only [Int64.le_iff_toInt_le, Int64.lt_iff_toInt_lt, Int32.lt_iff_toInt_lt, Int32.le_iff_toInt_le, Int32.toInt_toInt64, Int64.reduceToInt, Int32.reduceToInt, Int.reduceNeg, Classical.not_not, i32e, l_add] at qc21
                        rw [show (60 : Int32) * s + i0 + nI i = nI (60 * ci s + ci i0 + i) from by rw [ix60c (by omega) (by omega), nI_add]]
                        simp only [nI_clampS (show 60 * ci s + ci i0 + i < 2000000000 by omega)]
                        refine ⟨by first | exact vpi (by omega) | with_reducible exact vp_in_nI (by omega) (by omega), ?_⟩
                        refine ⟨by first | exact vpi (by omega) | with_reducible exact vp_in_nI (by omega) (by omega), ?_⟩
                        rw [nI_1]
                        refine ih (by omega) _ (by simp only [mv_moved, e']) (fun j hj => ?_) (z_sC.L hsc (by decide)) hM3
                        rw [zr_hLsL]
                        by_cases q : j = i
                        · rw [if_pos ⟨rfl, rfl, q⟩, q]
                        · rw [if_neg (fun z => q z.2.2)]
                          exact hv j (by omega)
                    · try simp only [b2_0, Classical.not_not] at qc10
                      try simp only [Int64.le_iff_toInt_le, Int64.lt_iff_toInt_lt, Int32.lt_iff_toInt_lt, Int32.le_iff_toInt_le, Int32.toInt_toInt64, Int64.reduceToInt, Int32.reduceToInt, Int.reduceNeg, Classical.not_not, i32e, l_add] at qc10
                      refine st b_X12_paste_110 _ _ k_X12_paste_110 _ _ _ _ _ ?_
                      simp only [b_X12_paste_110, zr_T, zr_bipush, zr_iret, zr_rt_a, zr_rt_i, zr_rt_l, zr_rt_n, zr_rt_z, zr_nil, zr_cons, ↓reduceIte, Nat.reduceAdd, Nat.reduceEqDiff, Nat.reduceLeDiff, Nat.reduceMul, Nat.reduceSub, Int32.reduceOfInt, Int64.reduceOfInt, Int64.reduceOfNat, true_and, and_true, false_and, and_false, or_false, false_or, true_or, or_true, Int.reduceEq, reduceCtorEq, or_self, and_self, ne_eq, not_false_eq_true, not_true_eq_false, eq_self, Nat.le_refl, Nat.zero_le, zr_eI, zr_eL, zr_eR, zr_pI, zr_pL, zr_pR, zr_pO, zr_pV, zq_pA0, zq_pA, zr_get, zr_put_n, zr_put, zr_rem_n, zr_rem, zr_cat_i, zr_cat_l, zr_cat_q, zr_w_n, zr_w, zr_args_n, zr_args, zr_tl_s, zr_tl_n, zr_hIsI, zr_hLsL, zr_hRsR, zr_hIsL, zr_hIsR, zr_hLsI, zr_hLsR, zr_hRsI, zr_hRsL, zr_hNsI, zr_hNsL, zr_hNsR, zr_hZsI, zr_hZsL, zr_hZsR, b2_01, Classical.not_not, Int32.toInt_toInt64, Int64.reduceToInt, zc_1000, zc_100, zc_10, zc_9, zc_2, ci_f, hM, mR_1, aLen_301, aCod_301, ma_1 e, mR_2, aLen_302, aCod_302, ma_2 e, mR_3, aLen_303, aCod_303, mb_3 e, mR_4, aLen_304, aCod_304]
                      refine qi' ?_ (by repeat (first | exact z_sC.rf | exact hsc | refine z_sC.I ?_ (by decide) | refine z_sC.L ?_ (by decide))) hM'
                      simp only [mv_thr, mv_sLs, mv_moved, e, mx_1, mx_2, my_3]
                      unfold o_paste
                      (repeat' split) <;> (first | rfl | (exfalso; omega))
          · try simp only [b2_0, Classical.not_not] at qc5
            try simp only [Int64.le_iff_toInt_le, Int64.lt_iff_toInt_lt, Int32.lt_iff_toInt_lt, Int32.le_iff_toInt_le, Int32.toInt_toInt64, Int64.reduceToInt, Int32.reduceToInt, Int.reduceNeg, Classical.not_not, i32e, l_add] at qc5
            refine qi' ?_ (by repeat (first | exact z_sC.rf | exact hsc | refine z_sC.I ?_ (by decide) | refine z_sC.L ?_ (by decide))) hM'
            simp only [mv_thr, mv_sLs, mv_moved, e, mx_1, mx_2, my_3]
            unfold o_paste
            (repeat' split) <;> (first | rfl | (exfalso; omega))
        · try simp only [b2_0, Classical.not_not] at qc4
          try simp only [Int64.le_iff_toInt_le, Int64.lt_iff_toInt_lt, Int32.lt_iff_toInt_lt, Int32.le_iff_toInt_le, Int32.toInt_toInt64, Int64.reduceToInt, Int32.reduceToInt, Int.reduceNeg, Classical.not_not, i32e, l_add] at qc4
          refine st b_X12_paste_40 _ _ k_X12_paste_40 _ _ _ _ _ ?_
          simp only [b_X12_paste_40, zr_T, zr_bipush, zr_iret, zr_rt_a, zr_rt_i, zr_rt_l, zr_rt_n, zr_rt_z, zr_nil, zr_cons, ↓reduceIte, Nat.reduceAdd, Nat.reduceEqDiff, Nat.reduceLeDiff, Nat.reduceMul, Nat.reduceSub, Int32.reduceOfInt, Int64.reduceOfInt, Int64.reduceOfNat, true_and, and_true, false_and, and_false, or_false, false_or, true_or, or_true, Int.reduceEq, reduceCtorEq, or_self, and_self, ne_eq, not_false_eq_true, not_true_eq_false, eq_self, Nat.le_refl, Nat.zero_le, zr_eI, zr_eL, zr_eR, zr_pI, zr_pL, zr_pR, zr_pO, zr_pV, zq_pA0, zq_pA, zr_get, zr_put_n, zr_put, zr_rem_n, zr_rem, zr_cat_i, zr_cat_l, zr_cat_q, zr_w_n, zr_w, zr_args_n, zr_args, zr_tl_s, zr_tl_n, zr_hIsI, zr_hLsL, zr_hRsR, zr_hIsL, zr_hIsR, zr_hLsI, zr_hLsR, zr_hRsI, zr_hRsL, zr_hNsI, zr_hNsL, zr_hNsR, zr_hZsI, zr_hZsL, zr_hZsR, b2_01, Classical.not_not, Int32.toInt_toInt64, Int64.reduceToInt, zc_1000, zc_100, zc_10, zc_9, zc_2, ci_f, hM, mR_1, aLen_301, aCod_301, ma_1 e, mR_2, aLen_302, aCod_302, ma_2 e, mR_3, aLen_303, aCod_303, mb_3 e, mR_4, aLen_304, aCod_304]
          refine qi' ?_ (by repeat (first | exact z_sC.rf | exact hsc | refine z_sC.I ?_ (by decide) | refine z_sC.L ?_ (by decide))) hM'
          simp only [mv_thr, mv_sLs, mv_moved, e, mx_1, mx_2, my_3]
          unfold o_paste
          (repeat' split) <;> (first | rfl | (exfalso; omega))
    · try simp only [b2_0, Classical.not_not] at qc2
      try simp only [Int64.le_iff_toInt_le, Int64.lt_iff_toInt_lt, Int32.lt_iff_toInt_lt, Int32.le_iff_toInt_le, Int32.toInt_toInt64, Int64.reduceToInt, Int32.reduceToInt, Int.reduceNeg, Classical.not_not, i32e, l_add] at qc2
      refine st b_X12_paste_19 _ _ k_X12_paste_19 _ _ _ _ _ ?_
      simp only [b_X12_paste_19, zr_T, zr_bipush, zr_iret, zr_rt_a, zr_rt_i, zr_rt_l, zr_rt_n, zr_rt_z, zr_nil, zr_cons, ↓reduceIte, Nat.reduceAdd, Nat.reduceEqDiff, Nat.reduceLeDiff, Nat.reduceMul, Nat.reduceSub, Int32.reduceOfInt, Int64.reduceOfInt, Int64.reduceOfNat, true_and, and_true, false_and, and_false, or_false, false_or, true_or, or_true, Int.reduceEq, reduceCtorEq, or_self, and_self, ne_eq, not_false_eq_true, not_true_eq_false, eq_self, Nat.le_refl, Nat.zero_le, zr_eI, zr_eL, zr_eR, zr_pI, zr_pL, zr_pR, zr_pO, zr_pV, zq_pA0, zq_pA, zr_get, zr_put_n, zr_put, zr_rem_n, zr_rem, zr_cat_i, zr_cat_l, zr_cat_q, zr_w_n, zr_w, zr_args_n, zr_args, zr_tl_s, zr_tl_n, zr_hIsI, zr_hLsL, zr_hRsR, zr_hIsL, zr_hIsR, zr_hLsI, zr_hLsR, zr_hRsI, zr_hRsL, zr_hNsI, zr_hNsL, zr_hNsR, zr_hZsI, zr_hZsL, zr_hZsR, b2_01, Classical.not_not, Int32.toInt_toInt64, Int64.reduceToInt, zc_1000, zc_100, zc_10, zc_9, zc_2, ci_f, hM, mR_1, aLen_301, aCod_301, ma_1 e, mR_2, aLen_302, aCod_302, ma_2 e, mR_3, aLen_303, aCod_303, mb_3 e, mR_4, aLen_304, aCod_304]
      refine qi' ?_ (by repeat (first | exact z_sC.rf | exact hsc | refine z_sC.I ?_ (by decide) | refine z_sC.L ?_ (by decide))) hM'
      simp only [mv_thr, mv_sLs, mv_moved, e, mx_1, mx_2, my_3]
      unfold o_paste
      (repeat' split) <;> (first | rfl | (exfalso; omega))
theorem m_suspects (l : Launch) (G : z_G) (d : Nat) (hd : 4 ≤ d) (S : z_M) (h : z_H) (e : mv h = S) (hM : z_MR h) (inv : INV S) (d0 : Int32) : z_MT l G d yX12_suspects cX12_suspects 6 (some .int) [z_r 14 0, z_i d0] h 0 0 (Qi h (o_suspects S d0)) := by
  have hM' := hM
  unfold z_MR at hM
  have huD : (dy S).toInt = (mS S 14).toInt := rfl
  have htD := inv.cD.t
  have hbD := inv.cD.2
  have hpD : (mS S 14 - 1).toInt = (ci (mS S 14) : Int) - 1 := by
    rw [sub32 (by rw [htD, show (1 : Int32).toInt = 1 from rfl]; omega) (by rw [htD, show (1 : Int32).toInt = 1 from rfl]; omega), htD]
    rfl
  have huL : nL S = ci (mS S 19) := rfl
  have htL := inv.cL.t
  have hbL := inv.cL.2
  have hpL : (mS S 19 - 1).toInt = (ci (mS S 19) : Int) - 1 := by
    rw [sub32 (by rw [htL, show (1 : Int32).toInt = 1 from rfl]; omega) (by rw [htL, show (1 : Int32).toInt = 1 from rfl]; omega), htL]
    rfl
  refine z_mt2 14 false ⟨by decide, rfl, fun q => absurd q (by decide)⟩ (by show 2 ≤ 6; decide) (fun A st wk => ?_)
  refine st b_X12_suspects_0 _ _ k_X12_suspects_0 _ _ _ _ _ ?_
  simp only [b_X12_suspects_0, zr_T, zr_aload_n0, zr_bipush, zr_cP_ne, zr_call1, zr_get0, zr_i2l, zr_iconst, zr_ifc, zr_iload_n1, zr_iret, zr_isub, zr_lconst0, zr_put0, zr_rt_a, zr_rt_i, zr_rt_l, zr_rt_n, zr_rt_z, zr_nil, zr_cons, ↓reduceIte, Nat.reduceAdd, Nat.reduceEqDiff, Nat.reduceLeDiff, Nat.reduceMul, Nat.reduceSub, Int32.reduceOfInt, Int64.reduceOfInt, Int64.reduceOfNat, true_and, and_true, false_and, and_false, or_false, false_or, true_or, or_true, Int.reduceEq, reduceCtorEq, or_self, and_self, ne_eq, not_false_eq_true, not_true_eq_false, eq_self, Nat.le_refl, Nat.zero_le, zr_eI, zr_eL, zr_eR, zr_pI, zr_pL, zr_pR, zr_pO, zr_pV, zq_pA0, zq_pA, zr_get, zr_put_n, zr_put, zr_rem_n, zr_rem, zr_cat_i, zr_cat_l, zr_cat_q, zr_w_n, zr_w, zr_args_n, zr_args, zr_tl_s, zr_tl_n, zr_hIsI, zr_hLsL, zr_hRsR, zr_hIsL, zr_hIsR, zr_hLsI, zr_hLsR, zr_hRsI, zr_hRsL, zr_hNsI, zr_hNsL, zr_hNsR, zr_hZsI, zr_hZsL, zr_hZsR, b2_01, Classical.not_not, Int32.toInt_toInt64, Int64.reduceToInt, zc_1000, zc_100, zc_10, zc_9, zc_2, ci_f, hM, ms_14 e, ms_19 e, mR_49, aLen_349, aCod_349, ma_49 e, mR_52, aLen_352, aCod_352, ma_52 e, mR_53, aLen_353, aCod_353, ma_53 e, mR_54, aLen_354, aCod_354, mb_54 e, mR_60, aLen_360, aCod_360, ma_60 e, mR_61, aLen_361, aCod_361, ma_61 e, ms_62 e, hpD]
  refine cp0 (by omega) lk_X12_177 trivial (m_in l G _ _ _ _ _) (Nat.le_refl _) (Nat.le_refl _) ?_
  simp only [zr_T, zr_bipush, zr_cP_ne, zr_ifc, zr_iret, zr_rt_a, zr_rt_i, zr_rt_l, zr_rt_n, zr_rt_z, zr_nil, zr_cons, ↓reduceIte, Nat.reduceAdd, Nat.reduceEqDiff, Nat.reduceLeDiff, Nat.reduceMul, Nat.reduceSub, Int32.reduceOfInt, Int64.reduceOfInt, Int64.reduceOfNat, true_and, and_true, false_and, and_false, or_false, false_or, true_or, or_true, Int.reduceEq, reduceCtorEq, or_self, and_self, ne_eq, not_false_eq_true, not_true_eq_false, eq_self, Nat.le_refl, Nat.zero_le, zr_eI, zr_eL, zr_eR, zr_pI, zr_pL, zr_pR, zr_pO, zr_pV, zq_pA0, zq_pA, zr_get, zr_put_n, zr_put, zr_rem_n, zr_rem, zr_cat_i, zr_cat_l, zr_cat_q, zr_w_n, zr_w, zr_args_n, zr_args, zr_tl_s, zr_tl_n, zr_hIsI, zr_hLsL, zr_hRsR, zr_hIsL, zr_hIsR, zr_hLsI, zr_hLsR, zr_hRsI, zr_hRsL, zr_hNsI, zr_hNsL, zr_hNsR, zr_hZsI, zr_hZsL, zr_hZsR, b2_01, Classical.not_not, Int32.toInt_toInt64, Int64.reduceToInt, zc_1000, zc_100, zc_10, zc_9, zc_2, ci_f, hM, ms_14 e, ms_19 e, mR_49, aLen_349, aCod_349, ma_49 e, mR_52, aLen_352, aCod_352, ma_52 e, mR_53, aLen_353, aCod_353, ma_53 e, mR_54, aLen_354, aCod_354, mb_54 e, mR_60, aLen_360, aCod_360, ma_60 e, mR_61, aLen_361, aCod_361, ma_61 e, ms_62 e, hpD]
  refine ⟨fun qc1 => ?_, fun qc1 => ?_⟩
  · try simp only [b2_0, Classical.not_not] at qc1
    try simp only [Int64.le_iff_toInt_le, Int64.lt_iff_toInt_lt, Int32.lt_iff_toInt_lt, Int32.le_iff_toInt_le, Int32.toInt_toInt64, Int64.reduceToInt, Int32.reduceToInt, Int.reduceNeg, Classical.not_not, i32e, l_add] at qc1
    refine st b_X12_suspects_24 _ _ k_X12_suspects_24 _ _ _ _ _ ?_
    simp only [b_X12_suspects_24, zr_iconst, zr_istore, zr_lconst0, zr_lstore_n2, zr_nil, zr_cons, ↓reduceIte, Nat.reduceAdd, Nat.reduceEqDiff, Nat.reduceLeDiff, Nat.reduceMul, Nat.reduceSub, Int32.reduceOfInt, Int64.reduceOfInt, Int64.reduceOfNat, true_and, and_true, false_and, and_false, or_false, false_or, true_or, or_true, Int.reduceEq, reduceCtorEq, or_self, and_self, ne_eq, not_false_eq_true, not_true_eq_false, eq_self, Nat.le_refl, Nat.zero_le, zr_eI, zr_eL, zr_eR, zr_pI, zr_pL, zr_pR, zr_pO, zr_pV, zq_pA0, zq_pA, zr_get, zr_put_n, zr_put, zr_rem_n, zr_rem, zr_cat_i, zr_cat_l, zr_cat_q, zr_w_n, zr_w, zr_args_n, zr_args, zr_tl_s, zr_tl_n, zr_hIsI, zr_hLsL, zr_hRsR, zr_hIsL, zr_hIsR, zr_hLsI, zr_hLsR, zr_hRsI, zr_hRsL, zr_hNsI, zr_hNsL, zr_hNsR, zr_hZsI, zr_hZsL, zr_hZsR, b2_01, Classical.not_not, Int32.toInt_toInt64, Int64.reduceToInt, zc_1000, zc_100, zc_10, zc_9, zc_2, ci_f, hM, ms_14 e, ms_19 e, mR_49, aLen_349, aCod_349, ma_49 e, mR_52, aLen_352, aCod_352, ma_52 e, mR_53, aLen_353, aCod_353, ma_53 e, mR_54, aLen_354, aCod_354, mb_54 e, mR_60, aLen_360, aCod_360, ma_60 e, mR_61, aLen_361, aCod_361, ma_61 e, ms_62 e, hpD]
    refine (show ∀ i, i ≤ nL S → A 29 [(0, z_r 14 0), (1, z_i d0), (2, z_l (o_dif S d0 i)), (4, z_i (nI i))] [] (sI h 14 0 0 0) 0 0 from z_loop (fun i hi ih => ?_)) 0 (Nat.zero_le _)
    have ti := toIntS (show i < 2000000000 by omega)
    have ki := nI_clampS (show i < 2000000000 by omega)
    refine st b_X12_suspects_29 _ _ k_X12_suspects_29 _ _ _ _ _ ?_
    simp only [b_X12_suspects_29, zr_aload_n0, zr_cP_eq, zr_cP_ge, zr_cP_ne, zr_get0, zr_get2, zr_goto, zr_iald, zr_icmp, zr_iconst, zr_ifc, zr_iload, zr_iload_n1, zr_lald, zr_lload_n2, zr_nil, zr_cons, ↓reduceIte, Nat.reduceAdd, Nat.reduceEqDiff, Nat.reduceLeDiff, Nat.reduceMul, Nat.reduceSub, Int32.reduceOfInt, Int64.reduceOfInt, Int64.reduceOfNat, true_and, and_true, false_and, and_false, or_false, false_or, true_or, or_true, Int.reduceEq, reduceCtorEq, or_self, and_self, ne_eq, not_false_eq_true, not_true_eq_false, eq_self, Nat.le_refl, Nat.zero_le, zr_eI, zr_eL, zr_eR, zr_pI, zr_pL, zr_pR, zr_pO, zr_pV, zq_pA0, zq_pA, zr_get, zr_put_n, zr_put, zr_rem_n, zr_rem, zr_cat_i, zr_cat_l, zr_cat_q, zr_w_n, zr_w, zr_args_n, zr_args, zr_tl_s, zr_tl_n, zr_hIsI, zr_hLsL, zr_hRsR, zr_hIsL, zr_hIsR, zr_hLsI, zr_hLsR, zr_hRsI, zr_hRsL, zr_hNsI, zr_hNsL, zr_hNsR, zr_hZsI, zr_hZsL, zr_hZsR, b2_01, Classical.not_not, Int32.toInt_toInt64, Int64.reduceToInt, zc_1000, zc_100, zc_10, zc_9, zc_2, ci_f, hM, ms_14 e, ms_19 e, mR_49, aLen_349, aCod_349, ma_49 e, mR_52, aLen_352, aCod_352, ma_52 e, mR_53, aLen_353, aCod_353, ma_53 e, mR_54, aLen_354, aCod_354, mb_54 e, mR_60, aLen_360, aCod_360, ma_60 e, mR_61, aLen_361, aCod_361, ma_61 e, ms_62 e, hpD, ki]
    refine ⟨fun qc21 => ?_, fun qc21 => ?_⟩
    · try simp only [b2_0, Classical.not_not] at qc21
      try simp only [Int64.le_iff_toInt_le, Int64.lt_iff_toInt_lt, Int32.lt_iff_toInt_lt, Int32.le_iff_toInt_le, Int32.toInt_toInt64, Int64.reduceToInt, Int32.reduceToInt, Int.reduceNeg, Classical.not_not, i32e, l_add] at qc21
      refine st b_X12_suspects_97 _ _ k_X12_suspects_97 _ _ _ _ _ ?_
      simp only [b_X12_suspects_97, lg_cmp_eq, lg_cmp_ge, lg_cmp_gt, lg_cmp_le, lg_cmp_lt, zr_T, zr_aload_n0, zr_cP_ne, zr_iconst, zr_ifc, zr_iret, zr_lcmp, zr_lconst0, zr_lload_n2, zr_put0, zr_rt_a, zr_rt_i, zr_rt_l, zr_rt_n, zr_rt_z, zr_nil, zr_cons, ↓reduceIte, Nat.reduceAdd, Nat.reduceEqDiff, Nat.reduceLeDiff, Nat.reduceMul, Nat.reduceSub, Int32.reduceOfInt, Int64.reduceOfInt, Int64.reduceOfNat, true_and, and_true, false_and, and_false, or_false, false_or, true_or, or_true, Int.reduceEq, reduceCtorEq, or_self, and_self, ne_eq, not_false_eq_true, not_true_eq_false, eq_self, Nat.le_refl, Nat.zero_le, zr_eI, zr_eL, zr_eR, zr_pI, zr_pL, zr_pR, zr_pO, zr_pV, zq_pA0, zq_pA, zr_get, zr_put_n, zr_put, zr_rem_n, zr_rem, zr_cat_i, zr_cat_l, zr_cat_q, zr_w_n, zr_w, zr_args_n, zr_args, zr_tl_s, zr_tl_n, zr_hIsI, zr_hLsL, zr_hRsR, zr_hIsL, zr_hIsR, zr_hLsI, zr_hLsR, zr_hRsI, zr_hRsL, zr_hNsI, zr_hNsL, zr_hNsR, zr_hZsI, zr_hZsL, zr_hZsR, b2_01, Classical.not_not, Int32.toInt_toInt64, Int64.reduceToInt, zc_1000, zc_100, zc_10, zc_9, zc_2, ci_f, hM, ms_14 e, ms_19 e, mR_49, aLen_349, aCod_349, ma_49 e, mR_52, aLen_352, aCod_352, ma_52 e, mR_53, aLen_353, aCod_353, ma_53 e, mR_54, aLen_354, aCod_354, mb_54 e, mR_60, aLen_360, aCod_360, ma_60 e, mR_61, aLen_361, aCod_361, ma_61 e, ms_62 e, hpD, ki]
      refine ⟨fun qc22 => ?_, fun qc22 => ?_⟩
      · try simp only [b2_0, Classical.not_not] at qc22
        try simp only [Int64.le_iff_toInt_le, Int64.lt_iff_toInt_lt, Int32.lt_iff_toInt_lt, Int32.le_iff_toInt_le, Int32.toInt_toInt64, Int64.reduceToInt, Int32.reduceToInt, Int.reduceNeg, Classical.not_not, i32e, l_add] at qc22
        refine st b_X12_suspects_110 _ _ k_X12_suspects_110 _ _ _ _ _ ?_
        simp only [b_X12_suspects_110, zr_iconst, zr_istore, zr_nil, zr_cons, ↓reduceIte, Nat.reduceAdd, Nat.reduceEqDiff, Nat.reduceLeDiff, Nat.reduceMul, Nat.reduceSub, Int32.reduceOfInt, Int64.reduceOfInt, Int64.reduceOfNat, true_and, and_true, false_and, and_false, or_false, false_or, true_or, or_true, Int.reduceEq, reduceCtorEq, or_self, and_self, ne_eq, not_false_eq_true, not_true_eq_false, eq_self, Nat.le_refl, Nat.zero_le, zr_eI, zr_eL, zr_eR, zr_pI, zr_pL, zr_pR, zr_pO, zr_pV, zq_pA0, zq_pA, zr_get, zr_put_n, zr_put, zr_rem_n, zr_rem, zr_cat_i, zr_cat_l, zr_cat_q, zr_w_n, zr_w, zr_args_n, zr_args, zr_tl_s, zr_tl_n, zr_hIsI, zr_hLsL, zr_hRsR, zr_hIsL, zr_hIsR, zr_hLsI, zr_hLsR, zr_hRsI, zr_hRsL, zr_hNsI, zr_hNsL, zr_hNsR, zr_hZsI, zr_hZsL, zr_hZsR, b2_01, Classical.not_not, Int32.toInt_toInt64, Int64.reduceToInt, zc_1000, zc_100, zc_10, zc_9, zc_2, ci_f, hM, ms_14 e, ms_19 e, mR_49, aLen_349, aCod_349, ma_49 e, mR_52, aLen_352, aCod_352, ma_52 e, mR_53, aLen_353, aCod_353, ma_53 e, mR_54, aLen_354, aCod_354, mb_54 e, mR_60, aLen_360, aCod_360, ma_60 e, mR_61, aLen_361, aCod_361, ma_61 e, ms_62 e, hpD, ki]
        have ei : i = nL S := by omega
        subst ei
        refine (show ∀ i, i ≤ nL S → ∀ h1 : z_H, mv h1 = o_su S d0 (o_dif S d0 (nL S)) i → z_sC h h1 → z_MR h1 → A 113 [(0, z_r 14 0), (1, z_i d0), (2, z_l (o_dif S d0 (nL S))), (4, z_i (nI i))] [] h1 0 0 from z_loop (fun i hi ih => ?_)) 0 (Nat.zero_le _) _ (by simp only [mv_thr, mv_sLs, mv_moved, e, mw_14, mw_19, mx_49, mx_52, mx_53, my_54, mx_60, mx_61, mw_62]; rfl) (by repeat (first | exact z_sC.rf | exact hsc | refine z_sC.I ?_ (by decide) | refine z_sC.L ?_ (by decide))) hM'
        intro h1 e1 hsc1 hM4
        have hM5 := hM4
        unfold z_MR at hM4
        have ti2 := toIntS (show i < 2000000000 by omega)
        have ki2 := nI_clampS (show i < 2000000000 by omega)
        have iv := inv_su (d := d0) (g := (o_dif S d0 (nL S))) inv hi
        have hu := su_n (S := S) (d := d0) (g := (o_dif S d0 (nL S))) (n := i) (by omega)
        have hub := o_cL_b (w := mA S 53) (n := i)
        have hut := toIntS (show nU (o_su S d0 (o_dif S d0 (nL S)) i) < 2000000000 by omega)
        have huc := nI_clampS (show nU (o_su S d0 (o_dif S d0 (nL S)) i) < 2000000000 by omega)
        have f19 : hI h1 14 0 19 = mS S 19 := by rw [ms_19 e1, su_S (by decide)]
        have f49 : ∀ j, hI h1 349 0 j = mA S 49 j := fun j => by rw [ma_49 e1, su_A (by decide)]
        have f53 : ∀ j, hI h1 353 0 j = mA S 53 j := fun j => by rw [ma_53 e1, su_A (by decide)]
        have f62 : hI h1 14 0 62 = nI (nU (o_su S d0 (o_dif S d0 (nL S)) i)) := by rw [ms_62 e1]; exact hu.1
        have hhw : o_how (o_su S d0 (o_dif S d0 (nL S)) i) i (o_dif S d0 (nL S)) = o_how S i (o_dif S d0 (nL S)) := by show o_hw (mA _ 52 i) (mB _ 54 i) _ = _; rw [su_A (by decide), su_B]
        refine st b_X12_suspects_113 _ _ k_X12_suspects_113 _ _ _ _ _ ?_
        simp only [b_X12_suspects_113, zr_aload_n0, zr_cP_ge, zr_cP_ne, zr_get0, zr_get2, zr_goto, zr_iald, zr_icmp, zr_iconst, zr_iload, zr_iload_n1, zr_nil, zr_cons, ↓reduceIte, Nat.reduceAdd, Nat.reduceEqDiff, Nat.reduceLeDiff, Nat.reduceMul, Nat.reduceSub, Int32.reduceOfInt, Int64.reduceOfInt, Int64.reduceOfNat, true_and, and_true, false_and, and_false, or_false, false_or, true_or, or_true, Int.reduceEq, reduceCtorEq, or_self, and_self, ne_eq, not_false_eq_true, not_true_eq_false, eq_self, Nat.le_refl, Nat.zero_le, zr_eI, zr_eL, zr_eR, zr_pI, zr_pL, zr_pR, zr_pO, zr_pV, zq_pA0, zq_pA, zr_get, zr_put_n, zr_put, zr_rem_n, zr_rem, zr_cat_i, zr_cat_l, zr_cat_q, zr_w_n, zr_w, zr_args_n, zr_args, zr_tl_s, zr_tl_n, zr_hIsI, zr_hLsL, zr_hRsR, zr_hIsL, zr_hIsR, zr_hLsI, zr_hLsR, zr_hRsI, zr_hRsL, zr_hNsI, zr_hNsL, zr_hNsR, zr_hZsI, zr_hZsL, zr_hZsR, b2_01, Classical.not_not, Int32.toInt_toInt64, Int64.reduceToInt, zc_1000, zc_100, zc_10, zc_9, zc_2, ci_f, hM4, mR_49, aLen_349, aCod_349, mR_53, aLen_353, aCod_353, mR_52, aLen_352, aCod_352, mR_54, aLen_354, aCod_354, mR_60, aLen_360, aCod_360, mR_61, aLen_361, aCod_361, f19, f49, f53, f62, ki2, huc, hhw]
        refine ⟨fun qc61 => ?_, fun qc61 => ?_⟩
        · try simp only [b2_0, Classical.not_not] at qc61
          try simp only [Int64.le_iff_toInt_le, Int64.lt_iff_toInt_lt, Int32.lt_iff_toInt_lt, Int32.le_iff_toInt_le, Int32.toInt_toInt64, Int64.reduceToInt, Int32.reduceToInt, Int.reduceNeg, Classical.not_not, i32e, l_add] at qc61
          refine st b_X12_suspects_203 _ _ k_X12_suspects_203 _ _ _ _ _ ?_
          simp only [b_X12_suspects_203, zr_T, zr_aload_n0, zr_get0, zr_iret, zr_rt_a, zr_rt_i, zr_rt_l, zr_rt_n, zr_rt_z, zr_nil, zr_cons, ↓reduceIte, Nat.reduceAdd, Nat.reduceEqDiff, Nat.reduceLeDiff, Nat.reduceMul, Nat.reduceSub, Int32.reduceOfInt, Int64.reduceOfInt, Int64.reduceOfNat, true_and, and_true, false_and, and_false, or_false, false_or, true_or, or_true, Int.reduceEq, reduceCtorEq, or_self, and_self, ne_eq, not_false_eq_true, not_true_eq_false, eq_self, Nat.le_refl, Nat.zero_le, zr_eI, zr_eL, zr_eR, zr_pI, zr_pL, zr_pR, zr_pO, zr_pV, zq_pA0, zq_pA, zr_get, zr_put_n, zr_put, zr_rem_n, zr_rem, zr_cat_i, zr_cat_l, zr_cat_q, zr_w_n, zr_w, zr_args_n, zr_args, zr_tl_s, zr_tl_n, zr_hIsI, zr_hLsL, zr_hRsR, zr_hIsL, zr_hIsR, zr_hLsI, zr_hLsR, zr_hRsI, zr_hRsL, zr_hNsI, zr_hNsL, zr_hNsR, zr_hZsI, zr_hZsL, zr_hZsR, b2_01, Classical.not_not, Int32.toInt_toInt64, Int64.reduceToInt, zc_1000, zc_100, zc_10, zc_9, zc_2, ci_f, hM4, mR_49, aLen_349, aCod_349, mR_53, aLen_353, aCod_353, mR_52, aLen_352, aCod_352, mR_54, aLen_354, aCod_354, mR_60, aLen_360, aCod_360, mR_61, aLen_361, aCod_361, f19, f49, f53, f62, ki2, huc, hhw]
          have ei : i = nL S := by omega
          subst ei
          refine qi ?_ e1 hsc1 hM5
          unfold o_suspects
          rw [if_neg (by omega), if_neg (by assumption), ← hu.1]
        · try simp only [b2_0, Classical.not_not] at qc61
          try simp only [Int64.le_iff_toInt_le, Int64.lt_iff_toInt_lt, Int32.lt_iff_toInt_lt, Int32.le_iff_toInt_le, Int32.toInt_toInt64, Int64.reduceToInt, Int32.reduceToInt, Int.reduceNeg, Classical.not_not, i32e, l_add] at qc61
          refine ⟨by first | exact vpi (by omega) | exact vpi (by rw [hut]; omega) | with_reducible exact vp_in_nI (by omega) (by omega), ?_⟩
          refine ⟨fun qc62 => ?_, fun qc62 => ?_⟩
          · try simp only [b2_0, Classical.not_not] at qc62
            try simp only [Int64.le_iff_toInt_le, Int64.lt_iff_toInt_lt, Int32.lt_iff_toInt_lt, Int32.le_iff_toInt_le, Int32.toInt_toInt64, Int64.reduceToInt, Int32.reduceToInt, Int.reduceNeg, Classical.not_not, i32e, l_add] at qc62
            refine st b_X12_suspects_197 _ _ k_X12_suspects_197 _ _ _ _ _ ?_
            simp only [b_X12_suspects_197, zr_goto, zr_iinc, zr_nil, zr_cons, ↓reduceIte, Nat.reduceAdd, Nat.reduceEqDiff, Nat.reduceLeDiff, Nat.reduceMul, Nat.reduceSub, Int32.reduceOfInt, Int64.reduceOfInt, Int64.reduceOfNat, true_and, and_true, false_and, and_false, or_false, false_or, true_or, or_true, Int.reduceEq, reduceCtorEq, or_self, and_self, ne_eq, not_false_eq_true, not_true_eq_false, eq_self, Nat.le_refl, Nat.zero_le, zr_eI, zr_eL, zr_eR, zr_pI, zr_pL, zr_pR, zr_pO, zr_pV, zq_pA0, zq_pA, zr_get, zr_put_n, zr_put, zr_rem_n, zr_rem, zr_cat_i, zr_cat_l, zr_cat_q, zr_w_n, zr_w, zr_args_n, zr_args, zr_tl_s, zr_tl_n, zr_hIsI, zr_hLsL, zr_hRsR, zr_hIsL, zr_hIsR, zr_hLsI, zr_hLsR, zr_hRsI, zr_hRsL, zr_hNsI, zr_hNsL, zr_hNsR, zr_hZsI, zr_hZsL, zr_hZsR, b2_01, Classical.not_not, Int32.toInt_toInt64, Int64.reduceToInt, zc_1000, zc_100, zc_10, zc_9, zc_2, ci_f, hM4, mR_49, aLen_349, aCod_349, mR_53, aLen_353, aCod_353, mR_52, aLen_352, aCod_352, mR_54, aLen_354, aCod_354, mR_60, aLen_360, aCod_360, mR_61, aLen_361, aCod_361, f19, f49, f53, f62, ki2, huc, hhw]
            first
              | (rw [nI_1]
                 refine ih (by omega) _ ?_ hsc1 hM5
                 rw [e1]
                 show _ = (if o_ofd (mA S 49 i) (mA S 53 i) d0 ∧ ¬ (o_how S i (o_dif S d0 (nL S))).toInt = -1 then _ else o_su S d0 (o_dif S d0 (nL S)) i)
                 rw [if_neg (by omega)])
              | (rw [nI_1]
                 refine wk _ _ _ _ _ _ _ (ih (by omega) _ ?_ hsc1 hM5)
                 rw [e1]
                 show _ = (if o_ofd (mA S 49 i) (mA S 53 i) d0 ∧ ¬ (o_how S i (o_dif S d0 (nL S))).toInt = -1 then _ else o_su S d0 (o_dif S d0 (nL S)) i)
                 rw [if_neg (by omega)])
              | (simp only [nI_1]
                 refine wk _ _ _ _ _ _ _ (ih (by omega) _ ?_ (z_sC.I (z_sC.I (z_sC.I hsc1 (by decide)) (by decide)) (by decide)) hM5)
                 simp only [mw_62, mx_60, mx_61, e1]
                 show _ = (if o_ofd (mA S 49 i) (mA S 53 i) d0 ∧ ¬ (o_how S i (o_dif S d0 (nL S))).toInt = -1 then _ else o_su S d0 (o_dif S d0 (nL S)) i)
                 rw [if_pos (by omega)])
          · try simp only [b2_0, Classical.not_not] at qc62
            try simp only [Int64.le_iff_toInt_le, Int64.lt_iff_toInt_lt, Int32.lt_iff_toInt_lt, Int32.le_iff_toInt_le, Int32.toInt_toInt64, Int64.reduceToInt, Int32.reduceToInt, Int.reduceNeg, Classical.not_not, i32e, l_add] at qc62
            refine ⟨by first | exact vpi (by omega) | exact vpi (by rw [hut]; omega) | with_reducible exact vp_in_nI (by omega) (by omega), ?_⟩
            refine ⟨fun qc63 => ?_, fun qc63 => ?_⟩
            · try simp only [b2_0, Classical.not_not] at qc63
              try simp only [Int64.le_iff_toInt_le, Int64.lt_iff_toInt_lt, Int32.lt_iff_toInt_lt, Int32.le_iff_toInt_le, Int32.toInt_toInt64, Int64.reduceToInt, Int32.reduceToInt, Int.reduceNeg, Classical.not_not, i32e, l_add] at qc63
              refine st b_X12_suspects_147 _ _ k_X12_suspects_147 _ _ _ _ _ ?_
              simp only [b_X12_suspects_147, zr_aload_n0, zr_cP_ne, zr_call0, zr_goto, zr_icmp, zr_iconst, zr_iload, zr_istore, zr_lload_n2, zr_nil, zr_cons, ↓reduceIte, Nat.reduceAdd, Nat.reduceEqDiff, Nat.reduceLeDiff, Nat.reduceMul, Nat.reduceSub, Int32.reduceOfInt, Int64.reduceOfInt, Int64.reduceOfNat, true_and, and_true, false_and, and_false, or_false, false_or, true_or, or_true, Int.reduceEq, reduceCtorEq, or_self, and_self, ne_eq, not_false_eq_true, not_true_eq_false, eq_self, Nat.le_refl, Nat.zero_le, zr_eI, zr_eL, zr_eR, zr_pI, zr_pL, zr_pR, zr_pO, zr_pV, zq_pA0, zq_pA, zr_get, zr_put_n, zr_put, zr_rem_n, zr_rem, zr_cat_i, zr_cat_l, zr_cat_q, zr_w_n, zr_w, zr_args_n, zr_args, zr_tl_s, zr_tl_n, zr_hIsI, zr_hLsL, zr_hRsR, zr_hIsL, zr_hIsR, zr_hLsI, zr_hLsR, zr_hRsI, zr_hRsL, zr_hNsI, zr_hNsL, zr_hNsR, zr_hZsI, zr_hZsL, zr_hZsR, b2_01, Classical.not_not, Int32.toInt_toInt64, Int64.reduceToInt, zc_1000, zc_100, zc_10, zc_9, zc_2, ci_f, hM4, mR_49, aLen_349, aCod_349, mR_53, aLen_353, aCod_353, mR_52, aLen_352, aCod_352, mR_54, aLen_354, aCod_354, mR_60, aLen_360, aCod_360, mR_61, aLen_361, aCod_361, f19, f49, f53, f62, ki2, huc, hhw]
              refine cp0 (by omega) lk_X12_313 (rc_14 rfl) (m_howOf l G _ (by omega) (o_su S d0 (o_dif S d0 (nL S)) i) _ e1 hM5 iv i (by show i < ci (mS _ 19); rw [su_S (by decide)]; omega) _) (Nat.le_refl _) (Nat.le_refl _) ?_
              simp only [zr_cP_ne, zr_goto, zr_icmp, zr_iconst, zr_iload, zr_istore, zr_nil, zr_cons, ↓reduceIte, Nat.reduceAdd, Nat.reduceEqDiff, Nat.reduceLeDiff, Nat.reduceMul, Nat.reduceSub, Int32.reduceOfInt, Int64.reduceOfInt, Int64.reduceOfNat, true_and, and_true, false_and, and_false, or_false, false_or, true_or, or_true, Int.reduceEq, reduceCtorEq, or_self, and_self, ne_eq, not_false_eq_true, not_true_eq_false, eq_self, Nat.le_refl, Nat.zero_le, zr_eI, zr_eL, zr_eR, zr_pI, zr_pL, zr_pR, zr_pO, zr_pV, zq_pA0, zq_pA, zr_get, zr_put_n, zr_put, zr_rem_n, zr_rem, zr_cat_i, zr_cat_l, zr_cat_q, zr_w_n, zr_w, zr_args_n, zr_args, zr_tl_s, zr_tl_n, zr_hIsI, zr_hLsL, zr_hRsR, zr_hIsL, zr_hIsR, zr_hLsI, zr_hLsR, zr_hRsI, zr_hRsL, zr_hNsI, zr_hNsL, zr_hNsR, zr_hZsI, zr_hZsL, zr_hZsR, b2_01, Classical.not_not, Int32.toInt_toInt64, Int64.reduceToInt, zc_1000, zc_100, zc_10, zc_9, zc_2, ci_f, hM4, mR_49, aLen_349, aCod_349, mR_53, aLen_353, aCod_353, mR_52, aLen_352, aCod_352, mR_54, aLen_354, aCod_354, mR_60, aLen_360, aCod_360, mR_61, aLen_361, aCod_361, f19, f49, f53, f62, ki2, huc, hhw]
              refine ⟨fun qc64 => ?_, fun qc64 => ?_⟩
              · try simp only [b2_0, Classical.not_not] at qc64
                try simp only [Int64.le_iff_toInt_le, Int64.lt_iff_toInt_lt, Int32.lt_iff_toInt_lt, Int32.le_iff_toInt_le, Int32.toInt_toInt64, Int64.reduceToInt, Int32.reduceToInt, Int.reduceNeg, Classical.not_not, i32e, l_add] at qc64
                refine st b_X12_suspects_165 _ _ k_X12_suspects_165 _ _ _ _ _ ?_
                simp only [b_X12_suspects_165, zr_aload_n0, zr_dup, zr_get0, zr_get2, zr_iadd, zr_iast, zr_iconst, zr_iload, zr_put0, zr_nil, zr_cons, ↓reduceIte, Nat.reduceAdd, Nat.reduceEqDiff, Nat.reduceLeDiff, Nat.reduceMul, Nat.reduceSub, Int32.reduceOfInt, Int64.reduceOfInt, Int64.reduceOfNat, true_and, and_true, false_and, and_false, or_false, false_or, true_or, or_true, Int.reduceEq, reduceCtorEq, or_self, and_self, ne_eq, not_false_eq_true, not_true_eq_false, eq_self, Nat.le_refl, Nat.zero_le, zr_eI, zr_eL, zr_eR, zr_pI, zr_pL, zr_pR, zr_pO, zr_pV, zq_pA0, zq_pA, zr_get, zr_put_n, zr_put, zr_rem_n, zr_rem, zr_cat_i, zr_cat_l, zr_cat_q, zr_w_n, zr_w, zr_args_n, zr_args, zr_tl_s, zr_tl_n, zr_hIsI, zr_hLsL, zr_hRsR, zr_hIsL, zr_hIsR, zr_hLsI, zr_hLsR, zr_hRsI, zr_hRsL, zr_hNsI, zr_hNsL, zr_hNsR, zr_hZsI, zr_hZsL, zr_hZsR, b2_01, Classical.not_not, Int32.toInt_toInt64, Int64.reduceToInt, zc_1000, zc_100, zc_10, zc_9, zc_2, ci_f, hM4, mR_49, aLen_349, aCod_349, mR_53, aLen_353, aCod_353, mR_52, aLen_352, aCod_352, mR_54, aLen_354, aCod_354, mR_60, aLen_360, aCod_360, mR_61, aLen_361, aCod_361, f19, f49, f53, f62, ki2, huc, hhw]
                refine ⟨by first | exact vpi (by omega) | exact vpi (by rw [hut]; omega) | with_reducible exact vp_in_nI (by omega) (by omega), ?_⟩
                refine ⟨by first | exact vpi (by omega) | exact vpi (by rw [hut]; omega) | with_reducible exact vp_in_nI (by omega) (by omega), ?_⟩
                refine st b_X12_suspects_197 _ _ k_X12_suspects_197 _ _ _ _ _ ?_
                simp only [b_X12_suspects_197, zr_goto, zr_iinc, zr_nil, zr_cons, ↓reduceIte, Nat.reduceAdd, Nat.reduceEqDiff, Nat.reduceLeDiff, Nat.reduceMul, Nat.reduceSub, Int32.reduceOfInt, Int64.reduceOfInt, Int64.reduceOfNat, true_and, and_true, false_and, and_false, or_false, false_or, true_or, or_true, Int.reduceEq, reduceCtorEq, or_self, and_self, ne_eq, not_false_eq_true, not_true_eq_false, eq_self, Nat.le_refl, Nat.zero_le, zr_eI, zr_eL, zr_eR, zr_pI, zr_pL, zr_pR, zr_pO, zr_pV, zq_pA0, zq_pA, zr_get, zr_put_n, zr_put, zr_rem_n, zr_rem, zr_cat_i, zr_cat_l, zr_cat_q, zr_w_n, zr_w, zr_args_n, zr_args, zr_tl_s, zr_tl_n, zr_hIsI, zr_hLsL, zr_hRsR, zr_hIsL, zr_hIsR, zr_hLsI, zr_hLsR, zr_hRsI, zr_hRsL, zr_hNsI, zr_hNsL, zr_hNsR, zr_hZsI, zr_hZsL, zr_hZsR, b2_01, Classical.not_not, Int32.toInt_toInt64, Int64.reduceToInt, zc_1000, zc_100, zc_10, zc_9, zc_2, ci_f, hM4, mR_49, aLen_349, aCod_349, mR_53, aLen_353, aCod_353, mR_52, aLen_352, aCod_352, mR_54, aLen_354, aCod_354, mR_60, aLen_360, aCod_360, mR_61, aLen_361, aCod_361, f19, f49, f53, f62, ki2, huc, hhw]
                first
                  | (rw [nI_1]
                     refine ih (by omega) _ ?_ hsc1 hM5
                     rw [e1]
                     show _ = (if o_ofd (mA S 49 i) (mA S 53 i) d0 ∧ ¬ (o_how S i (o_dif S d0 (nL S))).toInt = -1 then _ else o_su S d0 (o_dif S d0 (nL S)) i)
                     rw [if_neg (by omega)])
                  | (rw [nI_1]
                     refine wk _ _ _ _ _ _ _ (ih (by omega) _ ?_ hsc1 hM5)
                     rw [e1]
                     show _ = (if o_ofd (mA S 49 i) (mA S 53 i) d0 ∧ ¬ (o_how S i (o_dif S d0 (nL S))).toInt = -1 then _ else o_su S d0 (o_dif S d0 (nL S)) i)
                     rw [if_neg (by omega)])
                  | (simp only [nI_1]
                     refine wk _ _ _ _ _ _ _ (ih (by omega) _ ?_ (z_sC.I (z_sC.I (z_sC.I hsc1 (by decide)) (by decide)) (by decide)) hM5)
                     simp only [mw_62, mx_60, mx_61, e1]
                     show _ = (if o_ofd (mA S 49 i) (mA S 53 i) d0 ∧ ¬ (o_how S i (o_dif S d0 (nL S))).toInt = -1 then _ else o_su S d0 (o_dif S d0 (nL S)) i)
                     rw [if_pos (by omega)])
              · try simp only [b2_0, Classical.not_not] at qc64
                try simp only [Int64.le_iff_toInt_le, Int64.lt_iff_toInt_lt, Int32.lt_iff_toInt_lt, Int32.le_iff_toInt_le, Int32.toInt_toInt64, Int64.reduceToInt, Int32.reduceToInt, Int.reduceNeg, Classical.not_not, i32e, l_add] at qc64
                refine st b_X12_suspects_197 _ _ k_X12_suspects_197 _ _ _ _ _ ?_
                simp only [b_X12_suspects_197, zr_goto, zr_iinc, zr_nil, zr_cons, ↓reduceIte, Nat.reduceAdd, Nat.reduceEqDiff, Nat.reduceLeDiff, Nat.reduceMul, Nat.reduceSub, Int32.reduceOfInt, Int64.reduceOfInt, Int64.reduceOfNat, true_and, and_true, false_and, and_false, or_false, false_or, true_or, or_true, Int.reduceEq, reduceCtorEq, or_self, and_self, ne_eq, not_false_eq_true, not_true_eq_false, eq_self, Nat.le_refl, Nat.zero_le, zr_eI, zr_eL, zr_eR, zr_pI, zr_pL, zr_pR, zr_pO, zr_pV, zq_pA0, zq_pA, zr_get, zr_put_n, zr_put, zr_rem_n, zr_rem, zr_cat_i, zr_cat_l, zr_cat_q, zr_w_n, zr_w, zr_args_n, zr_args, zr_tl_s, zr_tl_n, zr_hIsI, zr_hLsL, zr_hRsR, zr_hIsL, zr_hIsR, zr_hLsI, zr_hLsR, zr_hRsI, zr_hRsL, zr_hNsI, zr_hNsL, zr_hNsR, zr_hZsI, zr_hZsL, zr_hZsR, b2_01, Classical.not_not, Int32.toInt_toInt64, Int64.reduceToInt, zc_1000, zc_100, zc_10, zc_9, zc_2, ci_f, hM4, mR_49, aLen_349, aCod_349, mR_53, aLen_353, aCod_353, mR_52, aLen_352, aCod_352, mR_54, aLen_354, aCod_354, mR_60, aLen_360, aCod_360, mR_61, aLen_361, aCod_361, f19, f49, f53, f62, ki2, huc, hhw]
                first
                  | (rw [nI_1]
                     refine ih (by omega) _ ?_ hsc1 hM5
                     rw [e1]
                     show _ = (if o_ofd (mA S 49 i) (mA S 53 i) d0 ∧ ¬ (o_how S i (o_dif S d0 (nL S))).toInt = -1 then _ else o_su S d0 (o_dif S d0 (nL S)) i)
                     rw [if_neg (by omega)])
                  | (rw [nI_1]
                     refine wk _ _ _ _ _ _ _ (ih (by omega) _ ?_ hsc1 hM5)
                     rw [e1]
                     show _ = (if o_ofd (mA S 49 i) (mA S 53 i) d0 ∧ ¬ (o_how S i (o_dif S d0 (nL S))).toInt = -1 then _ else o_su S d0 (o_dif S d0 (nL S)) i)
                     rw [if_neg (by omega)])
                  | (simp only [nI_1]
                     refine wk _ _ _ _ _ _ _ (ih (by omega) _ ?_ (z_sC.I (z_sC.I (z_sC.I hsc1 (by decide)) (by decide)) (by decide)) hM5)
                     simp only [mw_62, mx_60, mx_61, e1]
                     show _ = (if o_ofd (mA S 49 i) (mA S 53 i) d0 ∧ ¬ (o_how S i (o_dif S d0 (nL S))).toInt = -1 then _ else o_su S d0 (o_dif S d0 (nL S)) i)
                     rw [if_pos (by omega)])
            · try simp only [b2_0, Classical.not_not] at qc63
              try simp only [Int64.le_iff_toInt_le, Int64.lt_iff_toInt_lt, Int32.lt_iff_toInt_lt, Int32.le_iff_toInt_le, Int32.toInt_toInt64, Int64.reduceToInt, Int32.reduceToInt, Int.reduceNeg, Classical.not_not, i32e, l_add] at qc63
              refine st b_X12_suspects_197 _ _ k_X12_suspects_197 _ _ _ _ _ ?_
              simp only [b_X12_suspects_197, zr_goto, zr_iinc, zr_nil, zr_cons, ↓reduceIte, Nat.reduceAdd, Nat.reduceEqDiff, Nat.reduceLeDiff, Nat.reduceMul, Nat.reduceSub, Int32.reduceOfInt, Int64.reduceOfInt, Int64.reduceOfNat, true_and, and_true, false_and, and_false, or_false, false_or, true_or, or_true, Int.reduceEq, reduceCtorEq, or_self, and_self, ne_eq, not_false_eq_true, not_true_eq_false, eq_self, Nat.le_refl, Nat.zero_le, zr_eI, zr_eL, zr_eR, zr_pI, zr_pL, zr_pR, zr_pO, zr_pV, zq_pA0, zq_pA, zr_get, zr_put_n, zr_put, zr_rem_n, zr_rem, zr_cat_i, zr_cat_l, zr_cat_q, zr_w_n, zr_w, zr_args_n, zr_args, zr_tl_s, zr_tl_n, zr_hIsI, zr_hLsL, zr_hRsR, zr_hIsL, zr_hIsR, zr_hLsI, zr_hLsR, zr_hRsI, zr_hRsL, zr_hNsI, zr_hNsL, zr_hNsR, zr_hZsI, zr_hZsL, zr_hZsR, b2_01, Classical.not_not, Int32.toInt_toInt64, Int64.reduceToInt, zc_1000, zc_100, zc_10, zc_9, zc_2, ci_f, hM4, mR_49, aLen_349, aCod_349, mR_53, aLen_353, aCod_353, mR_52, aLen_352, aCod_352, mR_54, aLen_354, aCod_354, mR_60, aLen_360, aCod_360, mR_61, aLen_361, aCod_361, f19, f49, f53, f62, ki2, huc, hhw]
              first
                | (rw [nI_1]
                   refine ih (by omega) _ ?_ hsc1 hM5
                   rw [e1]
                   show _ = (if o_ofd (mA S 49 i) (mA S 53 i) d0 ∧ ¬ (o_how S i (o_dif S d0 (nL S))).toInt = -1 then _ else o_su S d0 (o_dif S d0 (nL S)) i)
                   rw [if_neg (by omega)])
                | (rw [nI_1]
                   refine wk _ _ _ _ _ _ _ (ih (by omega) _ ?_ hsc1 hM5)
                   rw [e1]
                   show _ = (if o_ofd (mA S 49 i) (mA S 53 i) d0 ∧ ¬ (o_how S i (o_dif S d0 (nL S))).toInt = -1 then _ else o_su S d0 (o_dif S d0 (nL S)) i)
                   rw [if_neg (by omega)])
                | (simp only [nI_1]
                   refine wk _ _ _ _ _ _ _ (ih (by omega) _ ?_ (z_sC.I (z_sC.I (z_sC.I hsc1 (by decide)) (by decide)) (by decide)) hM5)
                   simp only [mw_62, mx_60, mx_61, e1]
                   show _ = (if o_ofd (mA S 49 i) (mA S 53 i) d0 ∧ ¬ (o_how S i (o_dif S d0 (nL S))).toInt = -1 then _ else o_su S d0 (o_dif S d0 (nL S)) i)
                   rw [if_pos (by omega)])
      · try simp only [b2_0, Classical.not_not] at qc22
        try simp only [Int64.le_iff_toInt_le, Int64.lt_iff_toInt_lt, Int32.lt_iff_toInt_lt, Int32.le_iff_toInt_le, Int32.toInt_toInt64, Int64.reduceToInt, Int32.reduceToInt, Int.reduceNeg, Classical.not_not, i32e, l_add] at qc22
        have ei : i = nL S := by omega
        subst ei
        refine qi' ?_ (by repeat (first | exact z_sC.rf | exact hsc | refine z_sC.I ?_ (by decide) | refine z_sC.L ?_ (by decide))) hM'
        simp only [mv_thr, mv_sLs, mv_moved, e, mw_14, mw_19, mx_49, mx_52, mx_53, my_54, mx_60, mx_61, mw_62]
        unfold o_suspects
        rw [if_neg (by omega), if_pos (by assumption)]
    · try simp only [b2_0, Classical.not_not] at qc21
      try simp only [Int64.le_iff_toInt_le, Int64.lt_iff_toInt_lt, Int32.lt_iff_toInt_lt, Int32.le_iff_toInt_le, Int32.toInt_toInt64, Int64.reduceToInt, Int32.reduceToInt, Int.reduceNeg, Classical.not_not, i32e, l_add] at qc21
      refine ⟨by first | exact vpi (by omega) | with_reducible exact vp_in_nI (by omega) (by omega), ?_⟩
      refine ⟨fun qc23 => ?_, fun qc23 => ?_⟩
      · try simp only [b2_0, Classical.not_not] at qc23
        try simp only [Int64.le_iff_toInt_le, Int64.lt_iff_toInt_lt, Int32.lt_iff_toInt_lt, Int32.le_iff_toInt_le, Int32.toInt_toInt64, Int64.reduceToInt, Int32.reduceToInt, Int.reduceNeg, Classical.not_not, i32e, l_add] at qc23
        refine st b_X12_suspects_91 _ _ k_X12_suspects_91 _ _ _ _ _ ?_
        simp only [b_X12_suspects_91, zr_goto, zr_iinc, zr_nil, zr_cons, ↓reduceIte, Nat.reduceAdd, Nat.reduceEqDiff, Nat.reduceLeDiff, Nat.reduceMul, Nat.reduceSub, Int32.reduceOfInt, Int64.reduceOfInt, Int64.reduceOfNat, true_and, and_true, false_and, and_false, or_false, false_or, true_or, or_true, Int.reduceEq, reduceCtorEq, or_self, and_self, ne_eq, not_false_eq_true, not_true_eq_false, eq_self, Nat.le_refl, Nat.zero_le, zr_eI, zr_eL, zr_eR, zr_pI, zr_pL, zr_pR, zr_pO, zr_pV, zq_pA0, zq_pA, zr_get, zr_put_n, zr_put, zr_rem_n, zr_rem, zr_cat_i, zr_cat_l, zr_cat_q, zr_w_n, zr_w, zr_args_n, zr_args, zr_tl_s, zr_tl_n, zr_hIsI, zr_hLsL, zr_hRsR, zr_hIsL, zr_hIsR, zr_hLsI, zr_hLsR, zr_hRsI, zr_hRsL, zr_hNsI, zr_hNsL, zr_hNsR, zr_hZsI, zr_hZsL, zr_hZsR, b2_01, Classical.not_not, Int32.toInt_toInt64, Int64.reduceToInt, zc_1000, zc_100, zc_10, zc_9, zc_2, ci_f, hM, ms_14 e, ms_19 e, mR_49, aLen_349, aCod_349, ma_49 e, mR_52, aLen_352, aCod_352, ma_52 e, mR_53, aLen_353, aCod_353, ma_53 e, mR_54, aLen_354, aCod_354, mb_54 e, mR_60, aLen_360, aCod_360, ma_60 e, mR_61, aLen_361, aCod_361, ma_61 e, ms_62 e, hpD, ki]
        have ih' := ih (by omega)
        simp only [o_dif, o_df] at ih'
        rw [nI_1]
        (repeat' split at ih') <;> (first | exact ih' | exact wk _ _ _ _ _ _ _ ih' | (exfalso; omega))
      · try simp only [b2_0, Classical.not_not] at qc23
        try simp only [Int64.le_iff_toInt_le, Int64.lt_iff_toInt_lt, Int32.lt_iff_toInt_lt, Int32.le_iff_toInt_le, Int32.toInt_toInt64, Int64.reduceToInt, Int32.reduceToInt, Int.reduceNeg, Classical.not_not, i32e, l_add] at qc23
        refine ⟨by first | exact vpi (by omega) | with_reducible exact vp_in_nI (by omega) (by omega), ?_⟩
        refine ⟨fun qc24 => ?_, fun qc24 => ?_⟩
        · try simp only [b2_0, Classical.not_not] at qc24
          try simp only [Int64.le_iff_toInt_le, Int64.lt_iff_toInt_lt, Int32.lt_iff_toInt_lt, Int32.le_iff_toInt_le, Int32.toInt_toInt64, Int64.reduceToInt, Int32.reduceToInt, Int.reduceNeg, Classical.not_not, i32e, l_add] at qc24
          refine st b_X12_suspects_91 _ _ k_X12_suspects_91 _ _ _ _ _ ?_
          simp only [b_X12_suspects_91, zr_goto, zr_iinc, zr_nil, zr_cons, ↓reduceIte, Nat.reduceAdd, Nat.reduceEqDiff, Nat.reduceLeDiff, Nat.reduceMul, Nat.reduceSub, Int32.reduceOfInt, Int64.reduceOfInt, Int64.reduceOfNat, true_and, and_true, false_and, and_false, or_false, false_or, true_or, or_true, Int.reduceEq, reduceCtorEq, or_self, and_self, ne_eq, not_false_eq_true, not_true_eq_false, eq_self, Nat.le_refl, Nat.zero_le, zr_eI, zr_eL, zr_eR, zr_pI, zr_pL, zr_pR, zr_pO, zr_pV, zq_pA0, zq_pA, zr_get, zr_put_n, zr_put, zr_rem_n, zr_rem, zr_cat_i, zr_cat_l, zr_cat_q, zr_w_n, zr_w, zr_args_n, zr_args, zr_tl_s, zr_tl_n, zr_hIsI, zr_hLsL, zr_hRsR, zr_hIsL, zr_hIsR, zr_hLsI, zr_hLsR, zr_hRsI, zr_hRsL, zr_hNsI, zr_hNsL, zr_hNsR, zr_hZsI, zr_hZsL, zr_hZsR, b2_01, Classical.not_not, Int32.toInt_toInt64, Int64.reduceToInt, zc_1000, zc_100, zc_10, zc_9, zc_2, ci_f, hM, ms_14 e, ms_19 e, mR_49, aLen_349, aCod_349, ma_49 e, mR_52, aLen_352, aCod_352, ma_52 e, mR_53, aLen_353, aCod_353, ma_53 e, mR_54, aLen_354, aCod_354, mb_54 e, mR_60, aLen_360, aCod_360, ma_60 e, mR_61, aLen_361, aCod_361, ma_61 e, ms_62 e, hpD, ki]
          have ih' := ih (by omega)
          simp only [o_dif, o_df] at ih'
          rw [nI_1]
          (repeat' split at ih') <;> (first | exact ih' | exact wk _ _ _ _ _ _ _ ih' | (exfalso; omega))
        · try simp only [b2_0, Classical.not_not] at qc24
          try simp only [Int64.le_iff_toInt_le, Int64.lt_iff_toInt_lt, Int32.lt_iff_toInt_lt, Int32.le_iff_toInt_le, Int32.toInt_toInt64, Int64.reduceToInt, Int32.reduceToInt, Int.reduceNeg, Classical.not_not, i32e, l_add] at qc24
          refine ⟨by first | exact vpi (by omega) | with_reducible exact vp_in_nI (by omega) (by omega), ?_⟩
          refine ⟨fun qc25 => ?_, fun qc25 => ?_⟩
          · try simp only [b2_0, Classical.not_not] at qc25
            try simp only [Int64.le_iff_toInt_le, Int64.lt_iff_toInt_lt, Int32.lt_iff_toInt_lt, Int32.le_iff_toInt_le, Int32.toInt_toInt64, Int64.reduceToInt, Int32.reduceToInt, Int.reduceNeg, Classical.not_not, i32e, l_add] at qc25
            refine st b_X12_suspects_81 _ _ k_X12_suspects_81 _ _ _ _ _ ?_
            simp only [b_X12_suspects_81, zr_aload_n0, zr_get2, zr_iload, zr_lald, zr_lneg, zr_nil, zr_cons, ↓reduceIte, Nat.reduceAdd, Nat.reduceEqDiff, Nat.reduceLeDiff, Nat.reduceMul, Nat.reduceSub, Int32.reduceOfInt, Int64.reduceOfInt, Int64.reduceOfNat, true_and, and_true, false_and, and_false, or_false, false_or, true_or, or_true, Int.reduceEq, reduceCtorEq, or_self, and_self, ne_eq, not_false_eq_true, not_true_eq_false, eq_self, Nat.le_refl, Nat.zero_le, zr_eI, zr_eL, zr_eR, zr_pI, zr_pL, zr_pR, zr_pO, zr_pV, zq_pA0, zq_pA, zr_get, zr_put_n, zr_put, zr_rem_n, zr_rem, zr_cat_i, zr_cat_l, zr_cat_q, zr_w_n, zr_w, zr_args_n, zr_args, zr_tl_s, zr_tl_n, zr_hIsI, zr_hLsL, zr_hRsR, zr_hIsL, zr_hIsR, zr_hLsI, zr_hLsR, zr_hRsI, zr_hRsL, zr_hNsI, zr_hNsL, zr_hNsR, zr_hZsI, zr_hZsL, zr_hZsR, b2_01, Classical.not_not, Int32.toInt_toInt64, Int64.reduceToInt, zc_1000, zc_100, zc_10, zc_9, zc_2, ci_f, hM, ms_14 e, ms_19 e, mR_49, aLen_349, aCod_349, ma_49 e, mR_52, aLen_352, aCod_352, ma_52 e, mR_53, aLen_353, aCod_353, ma_53 e, mR_54, aLen_354, aCod_354, mb_54 e, mR_60, aLen_360, aCod_360, ma_60 e, mR_61, aLen_361, aCod_361, ma_61 e, ms_62 e, hpD, ki]
            refine ⟨by first | exact vpi (by omega) | with_reducible exact vp_in_nI (by omega) (by omega), ?_⟩
            refine st b_X12_suspects_89 _ _ k_X12_suspects_89 _ _ _ _ _ ?_
            simp only [b_X12_suspects_89, zr_ladd, zr_lstore_n2, zr_nil, zr_cons, ↓reduceIte, Nat.reduceAdd, Nat.reduceEqDiff, Nat.reduceLeDiff, Nat.reduceMul, Nat.reduceSub, Int32.reduceOfInt, Int64.reduceOfInt, Int64.reduceOfNat, true_and, and_true, false_and, and_false, or_false, false_or, true_or, or_true, Int.reduceEq, reduceCtorEq, or_self, and_self, ne_eq, not_false_eq_true, not_true_eq_false, eq_self, Nat.le_refl, Nat.zero_le, zr_eI, zr_eL, zr_eR, zr_pI, zr_pL, zr_pR, zr_pO, zr_pV, zq_pA0, zq_pA, zr_get, zr_put_n, zr_put, zr_rem_n, zr_rem, zr_cat_i, zr_cat_l, zr_cat_q, zr_w_n, zr_w, zr_args_n, zr_args, zr_tl_s, zr_tl_n, zr_hIsI, zr_hLsL, zr_hRsR, zr_hIsL, zr_hIsR, zr_hLsI, zr_hLsR, zr_hRsI, zr_hRsL, zr_hNsI, zr_hNsL, zr_hNsR, zr_hZsI, zr_hZsL, zr_hZsR, b2_01, Classical.not_not, Int32.toInt_toInt64, Int64.reduceToInt, zc_1000, zc_100, zc_10, zc_9, zc_2, ci_f, hM, ms_14 e, ms_19 e, mR_49, aLen_349, aCod_349, ma_49 e, mR_52, aLen_352, aCod_352, ma_52 e, mR_53, aLen_353, aCod_353, ma_53 e, mR_54, aLen_354, aCod_354, mb_54 e, mR_60, aLen_360, aCod_360, ma_60 e, mR_61, aLen_361, aCod_361, ma_61 e, ms_62 e, hpD, ki]
            refine st b_X12_suspects_91 _ _ k_X12_suspects_91 _ _ _ _ _ ?_
            simp only [b_X12_suspects_91, zr_goto, zr_iinc, zr_nil, zr_cons, ↓reduceIte, Nat.reduceAdd, Nat.reduceEqDiff, Nat.reduceLeDiff, Nat.reduceMul, Nat.reduceSub, Int32.reduceOfInt, Int64.reduceOfInt, Int64.reduceOfNat, true_and, and_true, false_and, and_false, or_false, false_or, true_or, or_true, Int.reduceEq, reduceCtorEq, or_self, and_self, ne_eq, not_false_eq_true, not_true_eq_false, eq_self, Nat.le_refl, Nat.zero_le, zr_eI, zr_eL, zr_eR, zr_pI, zr_pL, zr_pR, zr_pO, zr_pV, zq_pA0, zq_pA, zr_get, zr_put_n, zr_put, zr_rem_n, zr_rem, zr_cat_i, zr_cat_l, zr_cat_q, zr_w_n, zr_w, zr_args_n, zr_args, zr_tl_s, zr_tl_n, zr_hIsI, zr_hLsL, zr_hRsR, zr_hIsL, zr_hIsR, zr_hLsI, zr_hLsR, zr_hRsI, zr_hRsL, zr_hNsI, zr_hNsL, zr_hNsR, zr_hZsI, zr_hZsL, zr_hZsR, b2_01, Classical.not_not, Int32.toInt_toInt64, Int64.reduceToInt, zc_1000, zc_100, zc_10, zc_9, zc_2, ci_f, hM, ms_14 e, ms_19 e, mR_49, aLen_349, aCod_349, ma_49 e, mR_52, aLen_352, aCod_352, ma_52 e, mR_53, aLen_353, aCod_353, ma_53 e, mR_54, aLen_354, aCod_354, mb_54 e, mR_60, aLen_360, aCod_360, ma_60 e, mR_61, aLen_361, aCod_361, ma_61 e, ms_62 e, hpD, ki]
            have ih' := ih (by omega)
            simp only [o_dif, o_df] at ih'
            rw [nI_1]
            (repeat' split at ih') <;> (first | exact ih' | exact wk _ _ _ _ _ _ _ ih' | (exfalso; omega))
          · try simp only [b2_0, Classical.not_not] at qc25
            try simp only [Int64.le_iff_toInt_le, Int64.lt_iff_toInt_lt, Int32.lt_iff_toInt_lt, Int32.le_iff_toInt_le, Int32.toInt_toInt64, Int64.reduceToInt, Int32.reduceToInt, Int.reduceNeg, Classical.not_not, i32e, l_add] at qc25
            refine ⟨by first | exact vpi (by omega) | with_reducible exact vp_in_nI (by omega) (by omega), ?_⟩
            refine st b_X12_suspects_89 _ _ k_X12_suspects_89 _ _ _ _ _ ?_
            simp only [b_X12_suspects_89, zr_ladd, zr_lstore_n2, zr_nil, zr_cons, ↓reduceIte, Nat.reduceAdd, Nat.reduceEqDiff, Nat.reduceLeDiff, Nat.reduceMul, Nat.reduceSub, Int32.reduceOfInt, Int64.reduceOfInt, Int64.reduceOfNat, true_and, and_true, false_and, and_false, or_false, false_or, true_or, or_true, Int.reduceEq, reduceCtorEq, or_self, and_self, ne_eq, not_false_eq_true, not_true_eq_false, eq_self, Nat.le_refl, Nat.zero_le, zr_eI, zr_eL, zr_eR, zr_pI, zr_pL, zr_pR, zr_pO, zr_pV, zq_pA0, zq_pA, zr_get, zr_put_n, zr_put, zr_rem_n, zr_rem, zr_cat_i, zr_cat_l, zr_cat_q, zr_w_n, zr_w, zr_args_n, zr_args, zr_tl_s, zr_tl_n, zr_hIsI, zr_hLsL, zr_hRsR, zr_hIsL, zr_hIsR, zr_hLsI, zr_hLsR, zr_hRsI, zr_hRsL, zr_hNsI, zr_hNsL, zr_hNsR, zr_hZsI, zr_hZsL, zr_hZsR, b2_01, Classical.not_not, Int32.toInt_toInt64, Int64.reduceToInt, zc_1000, zc_100, zc_10, zc_9, zc_2, ci_f, hM, ms_14 e, ms_19 e, mR_49, aLen_349, aCod_349, ma_49 e, mR_52, aLen_352, aCod_352, ma_52 e, mR_53, aLen_353, aCod_353, ma_53 e, mR_54, aLen_354, aCod_354, mb_54 e, mR_60, aLen_360, aCod_360, ma_60 e, mR_61, aLen_361, aCod_361, ma_61 e, ms_62 e, hpD, ki]
            refine st b_X12_suspects_91 _ _ k_X12_suspects_91 _ _ _ _ _ ?_
            simp only [b_X12_suspects_91, zr_goto, zr_iinc, zr_nil, zr_cons, ↓reduceIte, Nat.reduceAdd, Nat.reduceEqDiff, Nat.reduceLeDiff, Nat.reduceMul, Nat.reduceSub, Int32.reduceOfInt, Int64.reduceOfInt, Int64.reduceOfNat, true_and, and_true, false_and, and_false, or_false, false_or, true_or, or_true, Int.reduceEq, reduceCtorEq, or_self, and_self, ne_eq, not_false_eq_true, not_true_eq_false, eq_self, Nat.le_refl, Nat.zero_le, zr_eI, zr_eL, zr_eR, zr_pI, zr_pL, zr_pR, zr_pO, zr_pV, zq_pA0, zq_pA, zr_get, zr_put_n, zr_put, zr_rem_n, zr_rem, zr_cat_i, zr_cat_l, zr_cat_q, zr_w_n, zr_w, zr_args_n, zr_args, zr_tl_s, zr_tl_n, zr_hIsI, zr_hLsL, zr_hRsR, zr_hIsL, zr_hIsR, zr_hLsI, zr_hLsR, zr_hRsI, zr_hRsL, zr_hNsI, zr_hNsL, zr_hNsR, zr_hZsI, zr_hZsL, zr_hZsR, b2_01, Classical.not_not, Int32.toInt_toInt64, Int64.reduceToInt, zc_1000, zc_100, zc_10, zc_9, zc_2, ci_f, hM, ms_14 e, ms_19 e, mR_49, aLen_349, aCod_349, ma_49 e, mR_52, aLen_352, aCod_352, ma_52 e, mR_53, aLen_353, aCod_353, ma_53 e, mR_54, aLen_354, aCod_354, mb_54 e, mR_60, aLen_360, aCod_360, ma_60 e, mR_61, aLen_361, aCod_361, ma_61 e, ms_62 e, hpD, ki]
            have ih' := ih (by omega)
            simp only [o_dif, o_df] at ih'
            rw [nI_1]
            (repeat' split at ih') <;> (first | exact ih' | exact wk _ _ _ _ _ _ _ ih' | (exfalso; omega))
  · try simp only [b2_0, Classical.not_not] at qc1
    try simp only [Int64.le_iff_toInt_le, Int64.lt_iff_toInt_lt, Int32.lt_iff_toInt_lt, Int32.le_iff_toInt_le, Int32.toInt_toInt64, Int64.reduceToInt, Int32.reduceToInt, Int.reduceNeg, Classical.not_not, i32e, l_add] at qc1
    refine qi' ?_ (by repeat (first | exact z_sC.rf | exact hsc | refine z_sC.I ?_ (by decide) | refine z_sC.L ?_ (by decide))) hM'
    simp only [mv_thr, mv_sLs, mv_moved, e, mw_14, mw_19, mx_49, mx_52, mx_53, my_54, mx_60, mx_61, mw_62]
    unfold o_suspects
    (repeat' split) <;> (first | rfl | (exfalso; omega))
