/-! the model's methods, first row: rows, terms, kinds, accounts, lines -/
theorem nI_sub {m k : Nat} (h : k ≤ m) : nI m - nI k = nI (m - k) := by
  have e : nI m = nI (m - k) + nI k := by rw [nI_add, Nat.sub_add_cancel h]
  rw [e, Int32.add_sub_cancel]
theorem o_wt_le {w : Nat → Int32} {i n : Nat} (h : i ≤ n) : o_wt w i ≤ o_wt w n := by
  induction n with
  | zero => rw [Nat.le_zero.mp h]; exact Nat.le_refl _
  | succ n ih =>
    by_cases e : i = n + 1
    · rw [e]; exact Nat.le_refl _
    · have := ih (by omega)
      show _ ≤ o_wt w n + _
      omega
theorem ix60c {s i : Int32} (hs : 0 ≤ s.toInt) (hi : 0 ≤ i.toInt) : 60 * s + i = nI (60 * ci s + ci i) := by
  rw [← ix60, ← ci_e hs, ← ci_e hi]
theorem nI_dec (k : Nat) : nI k + -1 = nI k - 1 := (Int32.sub_eq_add_neg _ _).symm
theorem nI_clampS {n : Nat} (h : n < 2000000000) : ci (nI n) = n := nI_clamp (by omega)
theorem toIntS {n : Nat} (h : n < 2000000000) : (nI n).toInt = (n : Int) := nI_toInt (by omega)
theorem m_tear (l : Launch) (G : z_G) (d : Nat) (hd : 3 ≤ d) (S : z_M) (h : z_H) (e : mv h = S) (hM : z_MR h) (inv : INV S) (s : Int32) : z_MT l G d yX12_tear cX12_tear 2 (some .boolean) [z_r 14 0, z_i s] h 0 0 (Qi h (o_tear S s)) := by
  have hM' := hM
  unfold z_MR at hM
  refine z_mt2 14 false ⟨by decide, rfl, fun q => absurd q (by decide)⟩ (by show 2 ≤ 2; decide) (fun A st wk => ?_)
  refine st b_X12_tear_0 _ _ k_X12_tear_0 _ _ _ _ _ ?_
  simp only [b_X12_tear_0, zr_aload_n0, zr_cP_eq, zr_cP_ge, zr_call1, zr_get2, zr_iald, zr_iconst, zr_ifc, zr_iload_n1, zr_put0, zr_nil, zr_cons, ↓reduceIte, Nat.reduceAdd, Nat.reduceEqDiff, Nat.reduceLeDiff, Nat.reduceMul, Nat.reduceSub, Int32.reduceOfInt, Int64.reduceOfInt, Int64.reduceOfNat, true_and, and_true, false_and, and_false, or_false, false_or, true_or, or_true, Int.reduceEq, reduceCtorEq, or_self, and_self, ne_eq, not_false_eq_true, not_true_eq_false, eq_self, Nat.le_refl, Nat.zero_le, zr_eI, zr_eL, zr_eR, zr_pI, zr_pL, zr_pR, zr_pO, zr_pV, zq_pA0, zq_pA, zr_get, zr_put_n, zr_put, zr_rem_n, zr_rem, zr_cat_i, zr_cat_l, zr_cat_q, zr_w_n, zr_w, zr_args_n, zr_args, zr_tl_s, zr_tl_n, zr_hIsI, zr_hLsL, zr_hRsR, zr_hIsL, zr_hIsR, zr_hLsI, zr_hLsR, zr_hRsI, zr_hRsL, zr_hNsI, zr_hNsL, zr_hNsR, zr_hZsI, zr_hZsL, zr_hZsR, b2_01, Classical.not_not, Int32.toInt_toInt64, Int64.reduceToInt, zc_1000, zc_100, zc_10, zc_9, zc_2, ci_f, hM, mR_1, aLen_301, aCod_301, ma_1 e]
  refine cp0 (by omega) lk_X12_181 trivial (m_isSlot l G _ (by omega) _ _) (Nat.le_refl _) (Nat.le_refl _) ?_
  simp only [zr_aload_n0, zr_cP_eq, zr_cP_ge, zr_get2, zr_iald, zr_ifc, zr_iload_n1, zr_nil, zr_cons, ↓reduceIte, Nat.reduceAdd, Nat.reduceEqDiff, Nat.reduceLeDiff, Nat.reduceMul, Nat.reduceSub, Int32.reduceOfInt, Int64.reduceOfInt, Int64.reduceOfNat, true_and, and_true, false_and, and_false, or_false, false_or, true_or, or_true, Int.reduceEq, reduceCtorEq, or_self, and_self, ne_eq, not_false_eq_true, not_true_eq_false, eq_self, Nat.le_refl, Nat.zero_le, zr_eI, zr_eL, zr_eR, zr_pI, zr_pL, zr_pR, zr_pO, zr_pV, zq_pA0, zq_pA, zr_get, zr_put_n, zr_put, zr_rem_n, zr_rem, zr_cat_i, zr_cat_l, zr_cat_q, zr_w_n, zr_w, zr_args_n, zr_args, zr_tl_s, zr_tl_n, zr_hIsI, zr_hLsL, zr_hRsR, zr_hIsL, zr_hIsR, zr_hLsI, zr_hLsR, zr_hRsI, zr_hRsL, zr_hNsI, zr_hNsL, zr_hNsR, zr_hZsI, zr_hZsL, zr_hZsR, b2_01, Classical.not_not, Int32.toInt_toInt64, Int64.reduceToInt, zc_1000, zc_100, zc_10, zc_9, zc_2, ci_f, hM, mR_1, aLen_301, aCod_301, ma_1 e]
  refine ⟨fun qc1 => ?_, fun qc1 => ?_⟩
  · try simp only [b2_0, Classical.not_not] at qc1
    try simp only [Int64.le_iff_toInt_le, Int64.lt_iff_toInt_lt, Int32.lt_iff_toInt_lt, Int32.le_iff_toInt_le, Int32.toInt_toInt64, Int64.reduceToInt, Int32.reduceToInt, Int.reduceNeg, Classical.not_not, i32e, l_add] at qc1
    refine st b_X12_tear_21 _ _ k_X12_tear_21 _ _ _ _ _ ?_
    simp only [b_X12_tear_21, zr_T, zr_iconst, zr_iret, zr_rt_a, zr_rt_i, zr_rt_l, zr_rt_n, zr_rt_z, zr_nil, zr_cons, ↓reduceIte, Nat.reduceAdd, Nat.reduceEqDiff, Nat.reduceLeDiff, Nat.reduceMul, Nat.reduceSub, Int32.reduceOfInt, Int64.reduceOfInt, Int64.reduceOfNat, true_and, and_true, false_and, and_false, or_false, false_or, true_or, or_true, Int.reduceEq, reduceCtorEq, or_self, and_self, ne_eq, not_false_eq_true, not_true_eq_false, eq_self, Nat.le_refl, Nat.zero_le, zr_eI, zr_eL, zr_eR, zr_pI, zr_pL, zr_pR, zr_pO, zr_pV, zq_pA0, zq_pA, zr_get, zr_put_n, zr_put, zr_rem_n, zr_rem, zr_cat_i, zr_cat_l, zr_cat_q, zr_w_n, zr_w, zr_args_n, zr_args, zr_tl_s, zr_tl_n, zr_hIsI, zr_hLsL, zr_hRsR, zr_hIsL, zr_hIsR, zr_hLsI, zr_hLsR, zr_hRsI, zr_hRsL, zr_hNsI, zr_hNsL, zr_hNsR, zr_hZsI, zr_hZsL, zr_hZsR, b2_01, Classical.not_not, Int32.toInt_toInt64, Int64.reduceToInt, zc_1000, zc_100, zc_10, zc_9, zc_2, ci_f, hM, mR_1, aLen_301, aCod_301, ma_1 e]
    refine qi' ?_ (by repeat (first | exact z_sC.rf | exact hsc | refine z_sC.I ?_ (by decide) | refine z_sC.L ?_ (by decide))) hM'
    simp only [mv_thr, mv_sLs, mv_moved, e, mx_1]
    unfold o_tear
    (repeat' split) <;> (first | rfl | (exfalso; omega))
  · try simp only [b2_0, Classical.not_not] at qc1
    try simp only [Int64.le_iff_toInt_le, Int64.lt_iff_toInt_lt, Int32.lt_iff_toInt_lt, Int32.le_iff_toInt_le, Int32.toInt_toInt64, Int64.reduceToInt, Int32.reduceToInt, Int.reduceNeg, Classical.not_not, i32e, l_add] at qc1
    refine ⟨by first | exact vpi (by omega) | with_reducible exact vp_in_nI (by omega) (by omega), ?_⟩
    refine ⟨fun qc2 => ?_, fun qc2 => ?_⟩
    · try simp only [b2_0, Classical.not_not] at qc2
      try simp only [Int64.le_iff_toInt_le, Int64.lt_iff_toInt_lt, Int32.lt_iff_toInt_lt, Int32.le_iff_toInt_le, Int32.toInt_toInt64, Int64.reduceToInt, Int32.reduceToInt, Int.reduceNeg, Classical.not_not, i32e, l_add] at qc2
      refine st b_X12_tear_23 _ _ k_X12_tear_23 _ _ _ _ _ ?_
      simp only [b_X12_tear_23, zr_T, zr_aload_n0, zr_get2, zr_iast, zr_iconst, zr_iload_n1, zr_iret, zr_rt_a, zr_rt_i, zr_rt_l, zr_rt_n, zr_rt_z, zr_nil, zr_cons, ↓reduceIte, Nat.reduceAdd, Nat.reduceEqDiff, Nat.reduceLeDiff, Nat.reduceMul, Nat.reduceSub, Int32.reduceOfInt, Int64.reduceOfInt, Int64.reduceOfNat, true_and, and_true, false_and, and_false, or_false, false_or, true_or, or_true, Int.reduceEq, reduceCtorEq, or_self, and_self, ne_eq, not_false_eq_true, not_true_eq_false, eq_self, Nat.le_refl, Nat.zero_le, zr_eI, zr_eL, zr_eR, zr_pI, zr_pL, zr_pR, zr_pO, zr_pV, zq_pA0, zq_pA, zr_get, zr_put_n, zr_put, zr_rem_n, zr_rem, zr_cat_i, zr_cat_l, zr_cat_q, zr_w_n, zr_w, zr_args_n, zr_args, zr_tl_s, zr_tl_n, zr_hIsI, zr_hLsL, zr_hRsR, zr_hIsL, zr_hIsR, zr_hLsI, zr_hLsR, zr_hRsI, zr_hRsL, zr_hNsI, zr_hNsL, zr_hNsR, zr_hZsI, zr_hZsL, zr_hZsR, b2_01, Classical.not_not, Int32.toInt_toInt64, Int64.reduceToInt, zc_1000, zc_100, zc_10, zc_9, zc_2, ci_f, hM, mR_1, aLen_301, aCod_301, ma_1 e]
      refine ⟨by first | exact vpi (by omega) | with_reducible exact vp_in_nI (by omega) (by omega), ?_⟩
      refine qi' ?_ (by repeat (first | exact z_sC.rf | exact hsc | refine z_sC.I ?_ (by decide) | refine z_sC.L ?_ (by decide))) hM'
      simp only [mv_thr, mv_sLs, mv_moved, e, mx_1]
      unfold o_tear
      (repeat' split) <;> (first | rfl | (exfalso; omega))
    · try simp only [b2_0, Classical.not_not] at qc2
      try simp only [Int64.le_iff_toInt_le, Int64.lt_iff_toInt_lt, Int32.lt_iff_toInt_lt, Int32.le_iff_toInt_le, Int32.toInt_toInt64, Int64.reduceToInt, Int32.reduceToInt, Int.reduceNeg, Classical.not_not, i32e, l_add] at qc2
      refine st b_X12_tear_21 _ _ k_X12_tear_21 _ _ _ _ _ ?_
      simp only [b_X12_tear_21, zr_T, zr_iconst, zr_iret, zr_rt_a, zr_rt_i, zr_rt_l, zr_rt_n, zr_rt_z, zr_nil, zr_cons, ↓reduceIte, Nat.reduceAdd, Nat.reduceEqDiff, Nat.reduceLeDiff, Nat.reduceMul, Nat.reduceSub, Int32.reduceOfInt, Int64.reduceOfInt, Int64.reduceOfNat, true_and, and_true, false_and, and_false, or_false, false_or, true_or, or_true, Int.reduceEq, reduceCtorEq, or_self, and_self, ne_eq, not_false_eq_true, not_true_eq_false, eq_self, Nat.le_refl, Nat.zero_le, zr_eI, zr_eL, zr_eR, zr_pI, zr_pL, zr_pR, zr_pO, zr_pV, zq_pA0, zq_pA, zr_get, zr_put_n, zr_put, zr_rem_n, zr_rem, zr_cat_i, zr_cat_l, zr_cat_q, zr_w_n, zr_w, zr_args_n, zr_args, zr_tl_s, zr_tl_n, zr_hIsI, zr_hLsL, zr_hRsR, zr_hIsL, zr_hIsR, zr_hLsI, zr_hLsR, zr_hRsI, zr_hRsL, zr_hNsI, zr_hNsL, zr_hNsR, zr_hZsI, zr_hZsL, zr_hZsR, b2_01, Classical.not_not, Int32.toInt_toInt64, Int64.reduceToInt, zc_1000, zc_100, zc_10, zc_9, zc_2, ci_f, hM, mR_1, aLen_301, aCod_301, ma_1 e]
      refine qi' ?_ (by repeat (first | exact z_sC.rf | exact hsc | refine z_sC.I ?_ (by decide) | refine z_sC.L ?_ (by decide))) hM'
      simp only [mv_thr, mv_sLs, mv_moved, e, mx_1]
      unfold o_tear
      (repeat' split) <;> (first | rfl | (exfalso; omega))
theorem m_write (l : Launch) (G : z_G) (d : Nat) (hd : 3 ≤ d) (S : z_M) (h : z_H) (e : mv h = S) (hM : z_MR h) (inv : INV S) (s i : Int32) (v : Int64) : z_MT l G d yX12_write cX12_write 5 (some .int) [z_r 14 0, z_i s, z_i i, z_l v] h 0 0 (Qi h (o_write S s i v)) := by
  have hM' := hM
  unfold z_MR at hM
  refine z_mt2 14 false ⟨by decide, rfl, fun q => absurd q (by decide)⟩ (by show 5 ≤ 5; decide) (fun A st wk => ?_)
  refine st b_X12_write_0 _ _ k_X12_write_0 _ _ _ _ _ ?_
  simp only [b_X12_write_0, zr_T, zr_aload_n0, zr_bipush, zr_cP_ne, zr_call1, zr_iconst, zr_ifc, zr_iload_n1, zr_iret, zr_put0, zr_rt_a, zr_rt_i, zr_rt_l, zr_rt_n, zr_rt_z, zr_nil, zr_cons, ↓reduceIte, Nat.reduceAdd, Nat.reduceEqDiff, Nat.reduceLeDiff, Nat.reduceMul, Nat.reduceSub, Int32.reduceOfInt, Int64.reduceOfInt, Int64.reduceOfNat, true_and, and_true, false_and, and_false, or_false, false_or, true_or, or_true, Int.reduceEq, reduceCtorEq, or_self, and_self, ne_eq, not_false_eq_true, not_true_eq_false, eq_self, Nat.le_refl, Nat.zero_le, zr_eI, zr_eL, zr_eR, zr_pI, zr_pL, zr_pR, zr_pO, zr_pV, zq_pA0, zq_pA, zr_get, zr_put_n, zr_put, zr_rem_n, zr_rem, zr_cat_i, zr_cat_l, zr_cat_q, zr_w_n, zr_w, zr_args_n, zr_args, zr_tl_s, zr_tl_n, zr_hIsI, zr_hLsL, zr_hRsR, zr_hIsL, zr_hIsR, zr_hLsI, zr_hLsR, zr_hRsI, zr_hRsL, zr_hNsI, zr_hNsL, zr_hNsR, zr_hZsI, zr_hZsL, zr_hZsR, b2_01, Classical.not_not, Int32.toInt_toInt64, Int64.reduceToInt, zc_1000, zc_100, zc_10, zc_9, zc_2, ci_f, hM, mR_1, aLen_301, aCod_301, ma_1 e, mR_2, aLen_302, aCod_302, ma_2 e, mR_3, aLen_303, aCod_303, mb_3 e]
  refine cp0 (by omega) lk_X12_181 trivial (m_isSlot l G _ (by omega) _ _) (Nat.le_refl _) (Nat.le_refl _) ?_
  simp only [zr_T, zr_bipush, zr_cP_ne, zr_ifc, zr_iret, zr_rt_a, zr_rt_i, zr_rt_l, zr_rt_n, zr_rt_z, zr_nil, zr_cons, ↓reduceIte, Nat.reduceAdd, Nat.reduceEqDiff, Nat.reduceLeDiff, Nat.reduceMul, Nat.reduceSub, Int32.reduceOfInt, Int64.reduceOfInt, Int64.reduceOfNat, true_and, and_true, false_and, and_false, or_false, false_or, true_or, or_true, Int.reduceEq, reduceCtorEq, or_self, and_self, ne_eq, not_false_eq_true, not_true_eq_false, eq_self, Nat.le_refl, Nat.zero_le, zr_eI, zr_eL, zr_eR, zr_pI, zr_pL, zr_pR, zr_pO, zr_pV, zq_pA0, zq_pA, zr_get, zr_put_n, zr_put, zr_rem_n, zr_rem, zr_cat_i, zr_cat_l, zr_cat_q, zr_w_n, zr_w, zr_args_n, zr_args, zr_tl_s, zr_tl_n, zr_hIsI, zr_hLsL, zr_hRsR, zr_hIsL, zr_hIsR, zr_hLsI, zr_hLsR, zr_hRsI, zr_hRsL, zr_hNsI, zr_hNsL, zr_hNsR, zr_hZsI, zr_hZsL, zr_hZsR, b2_01, Classical.not_not, Int32.toInt_toInt64, Int64.reduceToInt, zc_1000, zc_100, zc_10, zc_9, zc_2, ci_f, hM, mR_1, aLen_301, aCod_301, ma_1 e, mR_2, aLen_302, aCod_302, ma_2 e, mR_3, aLen_303, aCod_303, mb_3 e]
  refine ⟨fun qc1 => ?_, fun qc1 => ?_⟩
  · try simp only [b2_0, Classical.not_not] at qc1
    try simp only [Int64.le_iff_toInt_le, Int64.lt_iff_toInt_lt, Int32.lt_iff_toInt_lt, Int32.le_iff_toInt_le, Int32.toInt_toInt64, Int64.reduceToInt, Int32.reduceToInt, Int.reduceNeg, Classical.not_not, i32e, l_add] at qc1
    refine st b_X12_write_15 _ _ k_X12_write_15 _ _ _ _ _ ?_
    simp only [b_X12_write_15, zr_T, zr_aload_n0, zr_bipush, zr_cP_ge, zr_get2, zr_iald, zr_ifc, zr_iload_n1, zr_iret, zr_rt_a, zr_rt_i, zr_rt_l, zr_rt_n, zr_rt_z, zr_nil, zr_cons, ↓reduceIte, Nat.reduceAdd, Nat.reduceEqDiff, Nat.reduceLeDiff, Nat.reduceMul, Nat.reduceSub, Int32.reduceOfInt, Int64.reduceOfInt, Int64.reduceOfNat, true_and, and_true, false_and, and_false, or_false, false_or, true_or, or_true, Int.reduceEq, reduceCtorEq, or_self, and_self, ne_eq, not_false_eq_true, not_true_eq_false, eq_self, Nat.le_refl, Nat.zero_le, zr_eI, zr_eL, zr_eR, zr_pI, zr_pL, zr_pR, zr_pO, zr_pV, zq_pA0, zq_pA, zr_get, zr_put_n, zr_put, zr_rem_n, zr_rem, zr_cat_i, zr_cat_l, zr_cat_q, zr_w_n, zr_w, zr_args_n, zr_args, zr_tl_s, zr_tl_n, zr_hIsI, zr_hLsL, zr_hRsR, zr_hIsL, zr_hIsR, zr_hLsI, zr_hLsR, zr_hRsI, zr_hRsL, zr_hNsI, zr_hNsL, zr_hNsR, zr_hZsI, zr_hZsL, zr_hZsR, b2_01, Classical.not_not, Int32.toInt_toInt64, Int64.reduceToInt, zc_1000, zc_100, zc_10, zc_9, zc_2, ci_f, hM, mR_1, aLen_301, aCod_301, ma_1 e, mR_2, aLen_302, aCod_302, ma_2 e, mR_3, aLen_303, aCod_303, mb_3 e]
    refine ⟨by first | exact vpi (by omega) | with_reducible exact vp_in_nI (by omega) (by omega), ?_⟩
    refine ⟨fun qc2 => ?_, fun qc2 => ?_⟩
    · try simp only [b2_0, Classical.not_not] at qc2
      try simp only [Int64.le_iff_toInt_le, Int64.lt_iff_toInt_lt, Int32.lt_iff_toInt_lt, Int32.le_iff_toInt_le, Int32.toInt_toInt64, Int64.reduceToInt, Int32.reduceToInt, Int.reduceNeg, Classical.not_not, i32e, l_add] at qc2
      refine st b_X12_write_27 _ _ k_X12_write_27 _ _ _ _ _ ?_
      simp only [b_X12_write_27, zr_T, zr_aload_n0, zr_bipush, zr_cP_ne, zr_call1, zr_get2, zr_i2l, zr_iald, zr_iconst, zr_ifc, zr_iload_n1, zr_iload_n2, zr_iret, zr_isub, zr_lconst0, zr_rt_a, zr_rt_i, zr_rt_l, zr_rt_n, zr_rt_z, zr_nil, zr_cons, ↓reduceIte, Nat.reduceAdd, Nat.reduceEqDiff, Nat.reduceLeDiff, Nat.reduceMul, Nat.reduceSub, Int32.reduceOfInt, Int64.reduceOfInt, Int64.reduceOfNat, true_and, and_true, false_and, and_false, or_false, false_or, true_or, or_true, Int.reduceEq, reduceCtorEq, or_self, and_self, ne_eq, not_false_eq_true, not_true_eq_false, eq_self, Nat.le_refl, Nat.zero_le, zr_eI, zr_eL, zr_eR, zr_pI, zr_pL, zr_pR, zr_pO, zr_pV, zq_pA0, zq_pA, zr_get, zr_put_n, zr_put, zr_rem_n, zr_rem, zr_cat_i, zr_cat_l, zr_cat_q, zr_w_n, zr_w, zr_args_n, zr_args, zr_tl_s, zr_tl_n, zr_hIsI, zr_hLsL, zr_hRsR, zr_hIsL, zr_hIsR, zr_hLsI, zr_hLsR, zr_hRsI, zr_hRsL, zr_hNsI, zr_hNsL, zr_hNsR, zr_hZsI, zr_hZsL, zr_hZsR, b2_01, Classical.not_not, Int32.toInt_toInt64, Int64.reduceToInt, zc_1000, zc_100, zc_10, zc_9, zc_2, ci_f, hM, mR_1, aLen_301, aCod_301, ma_1 e, mR_2, aLen_302, aCod_302, ma_2 e, mR_3, aLen_303, aCod_303, mb_3 e]
      refine ⟨by first | exact vpi (by omega) | with_reducible exact vp_in_nI (by omega) (by omega), ?_⟩
      refine cp0 (by omega) lk_X12_177 trivial (m_in l G _ _ _ _ _) (Nat.le_refl _) (Nat.le_refl _) ?_
      simp only [zr_T, zr_bipush, zr_cP_ne, zr_ifc, zr_iret, zr_rt_a, zr_rt_i, zr_rt_l, zr_rt_n, zr_rt_z, zr_nil, zr_cons, ↓reduceIte, Nat.reduceAdd, Nat.reduceEqDiff, Nat.reduceLeDiff, Nat.reduceMul, Nat.reduceSub, Int32.reduceOfInt, Int64.reduceOfInt, Int64.reduceOfNat, true_and, and_true, false_and, and_false, or_false, false_or, true_or, or_true, Int.reduceEq, reduceCtorEq, or_self, and_self, ne_eq, not_false_eq_true, not_true_eq_false, eq_self, Nat.le_refl, Nat.zero_le, zr_eI, zr_eL, zr_eR, zr_pI, zr_pL, zr_pR, zr_pO, zr_pV, zq_pA0, zq_pA, zr_get, zr_put_n, zr_put, zr_rem_n, zr_rem, zr_cat_i, zr_cat_l, zr_cat_q, zr_w_n, zr_w, zr_args_n, zr_args, zr_tl_s, zr_tl_n, zr_hIsI, zr_hLsL, zr_hRsR, zr_hIsL, zr_hIsR, zr_hLsI, zr_hLsR, zr_hRsI, zr_hRsL, zr_hNsI, zr_hNsL, zr_hNsR, zr_hZsI, zr_hZsL, zr_hZsR, b2_01, Classical.not_not, Int32.toInt_toInt64, Int64.reduceToInt, zc_1000, zc_100, zc_10, zc_9, zc_2, ci_f, hM, mR_1, aLen_301, aCod_301, ma_1 e, mR_2, aLen_302, aCod_302, ma_2 e, mR_3, aLen_303, aCod_303, mb_3 e]
      have js := inv.row (ci s) (by have := ci_int (x := s) (by omega); omega)
      have ms : (mA S 2 (ci s) - 1).toInt = (mA S 2 (ci s)).toInt - 1 := sub32 (by rw [show (1 : Int32).toInt = 1 from rfl]; omega) (by rw [show (1 : Int32).toInt = 1 from rfl]; omega)
      refine ⟨fun qc3 => ?_, fun qc3 => ?_⟩
      · try simp only [b2_0, Classical.not_not] at qc3
        try simp only [Int64.le_iff_toInt_le, Int64.lt_iff_toInt_lt, Int32.lt_iff_toInt_lt, Int32.le_iff_toInt_le, Int32.toInt_toInt64, Int64.reduceToInt, Int32.reduceToInt, Int.reduceNeg, Classical.not_not, i32e, l_add] at qc3
        refine st b_X12_write_48 _ _ k_X12_write_48 _ _ _ _ _ ?_
        simp only [b_X12_write_48, zr_T, zr_aload_n0, zr_bipush, zr_call1, zr_get2, zr_iadd, zr_iald, zr_iconst, zr_iload_n1, zr_iload_n2, zr_imul, zr_iret, zr_last, zr_lload_n3, zr_rt_a, zr_rt_i, zr_rt_l, zr_rt_n, zr_rt_z, zr_nil, zr_cons, ↓reduceIte, Nat.reduceAdd, Nat.reduceEqDiff, Nat.reduceLeDiff, Nat.reduceMul, Nat.reduceSub, Int32.reduceOfInt, Int64.reduceOfInt, Int64.reduceOfNat, true_and, and_true, false_and, and_false, or_false, false_or, true_or, or_true, Int.reduceEq, reduceCtorEq, or_self, and_self, ne_eq, not_false_eq_true, not_true_eq_false, eq_self, Nat.le_refl, Nat.zero_le, zr_eI, zr_eL, zr_eR, zr_pI, zr_pL, zr_pR, zr_pO, zr_pV, zq_pA0, zq_pA, zr_get, zr_put_n, zr_put, zr_rem_n, zr_rem, zr_cat_i, zr_cat_l, zr_cat_q, zr_w_n, zr_w, zr_args_n, zr_args, zr_tl_s, zr_tl_n, zr_hIsI, zr_hLsL, zr_hRsR, zr_hIsL, zr_hIsR, zr_hLsI, zr_hLsR, zr_hRsI, zr_hRsL, zr_hNsI, zr_hNsL, zr_hNsR, zr_hZsI, zr_hZsL, zr_hZsR, b2_01, Classical.not_not, Int32.toInt_toInt64, Int64.reduceToInt, zc_1000, zc_100, zc_10, zc_9, zc_2, ci_f, hM, mR_1, aLen_301, aCod_301, ma_1 e, mR_2, aLen_302, aCod_302, ma_2 e, mR_3, aLen_303, aCod_303, mb_3 e]
        refine ⟨by first | exact vpi (by omega) | with_reducible exact vp_in_nI (by omega) (by omega), ?_⟩
        refine cp0 (by omega) lk_X12_185 trivial (m_cut l G _ _ _ _) (Nat.le_refl _) (Nat.le_refl _) ?_
        simp only [zr_T, zr_iconst, zr_iret, zr_last, zr_rt_a, zr_rt_i, zr_rt_l, zr_rt_n, zr_rt_z, zr_nil, zr_cons, ↓reduceIte, Nat.reduceAdd, Nat.reduceEqDiff, Nat.reduceLeDiff, Nat.reduceMul, Nat.reduceSub, Int32.reduceOfInt, Int64.reduceOfInt, Int64.reduceOfNat, true_and, and_true, false_and, and_false, or_false, false_or, true_or, or_true, Int.reduceEq, reduceCtorEq, or_self, and_self, ne_eq, not_false_eq_true, not_true_eq_false, eq_self, Nat.le_refl, Nat.zero_le, zr_eI, zr_eL, zr_eR, zr_pI, zr_pL, zr_pR, zr_pO, zr_pV, zq_pA0, zq_pA, zr_get, zr_put_n, zr_put, zr_rem_n, zr_rem, zr_cat_i, zr_cat_l, zr_cat_q, zr_w_n, zr_w, zr_args_n, zr_args, zr_tl_s, zr_tl_n, zr_hIsI, zr_hLsL, zr_hRsR, zr_hIsL, zr_hIsR, zr_hLsI, zr_hLsR, zr_hRsI, zr_hRsL, zr_hNsI, zr_hNsL, zr_hNsR, zr_hZsI, zr_hZsL, zr_hZsR, b2_01, Classical.not_not, Int32.toInt_toInt64, Int64.reduceToInt, zc_1000, zc_100, zc_10, zc_9, zc_2, ci_f, hM, mR_1, aLen_301, aCod_301, ma_1 e, mR_2, aLen_302, aCod_302, ma_2 e, mR_3, aLen_303, aCod_303, mb_3 e]
        have ks := ci_int (x := s) (by omega)
        have kk := ci_int (x := i) (by omega)
        rw [ix60c (by omega) (by omega)]
        simp only [nI_clampS (show 60 * ci s + ci i < 2000000000 by omega)]
        refine ⟨by first | exact vpi (by omega) | with_reducible exact vp_in_nI (by omega) (by omega), ?_⟩
        refine qi' ?_ (by repeat (first | exact z_sC.rf | exact hsc | refine z_sC.I ?_ (by decide) | refine z_sC.L ?_ (by decide))) hM'
        simp only [mv_thr, mv_sLs, mv_moved, e, mx_1, mx_2, my_3]
        unfold o_write
        (repeat' split) <;> (first | rfl | (exfalso; omega))
      · try simp only [b2_0, Classical.not_not] at qc3
        try simp only [Int64.le_iff_toInt_le, Int64.lt_iff_toInt_lt, Int32.lt_iff_toInt_lt, Int32.le_iff_toInt_le, Int32.toInt_toInt64, Int64.reduceToInt, Int32.reduceToInt, Int.reduceNeg, Classical.not_not, i32e, l_add] at qc3
        refine qi' ?_ (by repeat (first | exact z_sC.rf | exact hsc | refine z_sC.I ?_ (by decide) | refine z_sC.L ?_ (by decide))) hM'
        simp only [mv_thr, mv_sLs, mv_moved, e, mx_1, mx_2, my_3]
        unfold o_write
        (repeat' split) <;> (first | rfl | (exfalso; omega))
    · try simp only [b2_0, Classical.not_not] at qc2
      try simp only [Int64.le_iff_toInt_le, Int64.lt_iff_toInt_lt, Int32.lt_iff_toInt_lt, Int32.le_iff_toInt_le, Int32.toInt_toInt64, Int64.reduceToInt, Int32.reduceToInt, Int.reduceNeg, Classical.not_not, i32e, l_add] at qc2
      refine qi' ?_ (by repeat (first | exact z_sC.rf | exact hsc | refine z_sC.I ?_ (by decide) | refine z_sC.L ?_ (by decide))) hM'
      simp only [mv_thr, mv_sLs, mv_moved, e, mx_1, mx_2, my_3]
      unfold o_write
      (repeat' split) <;> (first | rfl | (exfalso; omega))
  · try simp only [b2_0, Classical.not_not] at qc1
    try simp only [Int64.le_iff_toInt_le, Int64.lt_iff_toInt_lt, Int32.lt_iff_toInt_lt, Int32.le_iff_toInt_le, Int32.toInt_toInt64, Int64.reduceToInt, Int32.reduceToInt, Int.reduceNeg, Classical.not_not, i32e, l_add] at qc1
    refine qi' ?_ (by repeat (first | exact z_sC.rf | exact hsc | refine z_sC.I ?_ (by decide) | refine z_sC.L ?_ (by decide))) hM'
    simp only [mv_thr, mv_sLs, mv_moved, e, mx_1, mx_2, my_3]
    unfold o_write
    (repeat' split) <;> (first | rfl | (exfalso; omega))
theorem m_row (l : Launch) (G : z_G) (d : Nat) (hd : 3 ≤ d) (S : z_M) (h : z_H) (e : mv h = S) (hM : z_MR h) (inv : INV S) (s a n : Int32) : z_MT l G d yX12_row cX12_row 5 (some .int) [z_r 14 0, z_i s, z_i a, z_i n] h 0 0 (Qi h (o_row S s a n)) := by
  have hM' := hM
  unfold z_MR at hM
  refine z_mt2 14 false ⟨by decide, rfl, fun q => absurd q (by decide)⟩ (by show 4 ≤ 5; decide) (fun A st wk => ?_)
  refine st b_X12_row_0 _ _ k_X12_row_0 _ _ _ _ _ ?_
  simp only [b_X12_row_0, zr_aload_n0, zr_bipush, zr_cP_eq, zr_cP_le, zr_call1, zr_i2l, zr_icmp, zr_iconst, zr_ifc, zr_iload_n1, zr_iload_n2, zr_iload_n3, zr_lconst0, zr_ldc2, zr_put0, zr_nil, zr_cons, ↓reduceIte, Nat.reduceAdd, Nat.reduceEqDiff, Nat.reduceLeDiff, Nat.reduceMul, Nat.reduceSub, Int32.reduceOfInt, Int64.reduceOfInt, Int64.reduceOfNat, true_and, and_true, false_and, and_false, or_false, false_or, true_or, or_true, Int.reduceEq, reduceCtorEq, or_self, and_self, ne_eq, not_false_eq_true, not_true_eq_false, eq_self, Nat.le_refl, Nat.zero_le, zr_eI, zr_eL, zr_eR, zr_pI, zr_pL, zr_pR, zr_pO, zr_pV, zq_pA0, zq_pA, zr_get, zr_put_n, zr_put, zr_rem_n, zr_rem, zr_cat_i, zr_cat_l, zr_cat_q, zr_w_n, zr_w, zr_args_n, zr_args, zr_tl_s, zr_tl_n, zr_hIsI, zr_hLsL, zr_hRsR, zr_hIsL, zr_hIsR, zr_hLsI, zr_hLsR, zr_hRsI, zr_hRsL, zr_hNsI, zr_hNsL, zr_hNsR, zr_hZsI, zr_hZsL, zr_hZsR, b2_01, Classical.not_not, Int32.toInt_toInt64, Int64.reduceToInt, zc_1000, zc_100, zc_10, zc_9, zc_2, ci_f, hM, mR_1, aLen_301, aCod_301, ma_1 e, mR_2, aLen_302, aCod_302, ma_2 e, mR_3, aLen_303, aCod_303, mb_3 e]
  refine cp0 (by omega) lk_X12_181 trivial (m_isSlot l G _ (by omega) _ _) (Nat.le_refl _) (Nat.le_refl _) ?_
  simp only [zr_bipush, zr_cP_eq, zr_cP_le, zr_call1, zr_i2l, zr_icmp, zr_ifc, zr_iload_n2, zr_iload_n3, zr_lconst0, zr_ldc2, zr_nil, zr_cons, ↓reduceIte, Nat.reduceAdd, Nat.reduceEqDiff, Nat.reduceLeDiff, Nat.reduceMul, Nat.reduceSub, Int32.reduceOfInt, Int64.reduceOfInt, Int64.reduceOfNat, true_and, and_true, false_and, and_false, or_false, false_or, true_or, or_true, Int.reduceEq, reduceCtorEq, or_self, and_self, ne_eq, not_false_eq_true, not_true_eq_false, eq_self, Nat.le_refl, Nat.zero_le, zr_eI, zr_eL, zr_eR, zr_pI, zr_pL, zr_pR, zr_pO, zr_pV, zq_pA0, zq_pA, zr_get, zr_put_n, zr_put, zr_rem_n, zr_rem, zr_cat_i, zr_cat_l, zr_cat_q, zr_w_n, zr_w, zr_args_n, zr_args, zr_tl_s, zr_tl_n, zr_hIsI, zr_hLsL, zr_hRsR, zr_hIsL, zr_hIsR, zr_hLsI, zr_hLsR, zr_hRsI, zr_hRsL, zr_hNsI, zr_hNsL, zr_hNsR, zr_hZsI, zr_hZsL, zr_hZsR, b2_01, Classical.not_not, Int32.toInt_toInt64, Int64.reduceToInt, zc_1000, zc_100, zc_10, zc_9, zc_2, ci_f, hM, mR_1, aLen_301, aCod_301, ma_1 e, mR_2, aLen_302, aCod_302, ma_2 e, mR_3, aLen_303, aCod_303, mb_3 e]
  refine ⟨fun qc1 => ?_, fun qc1 => ?_⟩
  · try simp only [b2_0, Classical.not_not] at qc1
    try simp only [Int64.le_iff_toInt_le, Int64.lt_iff_toInt_lt, Int32.lt_iff_toInt_lt, Int32.le_iff_toInt_le, Int32.toInt_toInt64, Int64.reduceToInt, Int32.reduceToInt, Int.reduceNeg, Classical.not_not, i32e, l_add] at qc1
    refine st b_X12_row_30 _ _ k_X12_row_30 _ _ _ _ _ ?_
    simp only [b_X12_row_30, zr_T, zr_bipush, zr_iret, zr_rt_a, zr_rt_i, zr_rt_l, zr_rt_n, zr_rt_z, zr_nil, zr_cons, ↓reduceIte, Nat.reduceAdd, Nat.reduceEqDiff, Nat.reduceLeDiff, Nat.reduceMul, Nat.reduceSub, Int32.reduceOfInt, Int64.reduceOfInt, Int64.reduceOfNat, true_and, and_true, false_and, and_false, or_false, false_or, true_or, or_true, Int.reduceEq, reduceCtorEq, or_self, and_self, ne_eq, not_false_eq_true, not_true_eq_false, eq_self, Nat.le_refl, Nat.zero_le, zr_eI, zr_eL, zr_eR, zr_pI, zr_pL, zr_pR, zr_pO, zr_pV, zq_pA0, zq_pA, zr_get, zr_put_n, zr_put, zr_rem_n, zr_rem, zr_cat_i, zr_cat_l, zr_cat_q, zr_w_n, zr_w, zr_args_n, zr_args, zr_tl_s, zr_tl_n, zr_hIsI, zr_hLsL, zr_hRsR, zr_hIsL, zr_hIsR, zr_hLsI, zr_hLsR, zr_hRsI, zr_hRsL, zr_hNsI, zr_hNsL, zr_hNsR, zr_hZsI, zr_hZsL, zr_hZsR, b2_01, Classical.not_not, Int32.toInt_toInt64, Int64.reduceToInt, zc_1000, zc_100, zc_10, zc_9, zc_2, ci_f, hM, mR_1, aLen_301, aCod_301, ma_1 e, mR_2, aLen_302, aCod_302, ma_2 e, mR_3, aLen_303, aCod_303, mb_3 e]
    refine qi' ?_ (by repeat (first | exact z_sC.rf | exact hsc | refine z_sC.I ?_ (by decide) | refine z_sC.L ?_ (by decide))) hM'
    simp only [mv_thr, mv_sLs, mv_moved, e, mx_1, mx_2, my_3]
    unfold o_row
    (repeat' split) <;> (first | rfl | (exfalso; omega))
  · try simp only [b2_0, Classical.not_not] at qc1
    try simp only [Int64.le_iff_toInt_le, Int64.lt_iff_toInt_lt, Int32.lt_iff_toInt_lt, Int32.le_iff_toInt_le, Int32.toInt_toInt64, Int64.reduceToInt, Int32.reduceToInt, Int.reduceNeg, Classical.not_not, i32e, l_add] at qc1
    refine cp0 (by omega) lk_X12_177 trivial (m_in l G _ _ _ _ _) (Nat.le_refl _) (Nat.le_refl _) ?_
    simp only [zr_bipush, zr_cP_eq, zr_cP_le, zr_icmp, zr_ifc, zr_iload_n3, zr_nil, zr_cons, ↓reduceIte, Nat.reduceAdd, Nat.reduceEqDiff, Nat.reduceLeDiff, Nat.reduceMul, Nat.reduceSub, Int32.reduceOfInt, Int64.reduceOfInt, Int64.reduceOfNat, true_and, and_true, false_and, and_false, or_false, false_or, true_or, or_true, Int.reduceEq, reduceCtorEq, or_self, and_self, ne_eq, not_false_eq_true, not_true_eq_false, eq_self, Nat.le_refl, Nat.zero_le, zr_eI, zr_eL, zr_eR, zr_pI, zr_pL, zr_pR, zr_pO, zr_pV, zq_pA0, zq_pA, zr_get, zr_put_n, zr_put, zr_rem_n, zr_rem, zr_cat_i, zr_cat_l, zr_cat_q, zr_w_n, zr_w, zr_args_n, zr_args, zr_tl_s, zr_tl_n, zr_hIsI, zr_hLsL, zr_hRsR, zr_hIsL, zr_hIsR, zr_hLsI, zr_hLsR, zr_hRsI, zr_hRsL, zr_hNsI, zr_hNsL, zr_hNsR, zr_hZsI, zr_hZsL, zr_hZsR, b2_01, Classical.not_not, Int32.toInt_toInt64, Int64.reduceToInt, zc_1000, zc_100, zc_10, zc_9, zc_2, ci_f, hM, mR_1, aLen_301, aCod_301, ma_1 e, mR_2, aLen_302, aCod_302, ma_2 e, mR_3, aLen_303, aCod_303, mb_3 e]
    refine ⟨fun qc2 => ?_, fun qc2 => ?_⟩
    · try simp only [b2_0, Classical.not_not] at qc2
      try simp only [Int64.le_iff_toInt_le, Int64.lt_iff_toInt_lt, Int32.lt_iff_toInt_lt, Int32.le_iff_toInt_le, Int32.toInt_toInt64, Int64.reduceToInt, Int32.reduceToInt, Int.reduceNeg, Classical.not_not, i32e, l_add] at qc2
      refine st b_X12_row_30 _ _ k_X12_row_30 _ _ _ _ _ ?_
      simp only [b_X12_row_30, zr_T, zr_bipush, zr_iret, zr_rt_a, zr_rt_i, zr_rt_l, zr_rt_n, zr_rt_z, zr_nil, zr_cons, ↓reduceIte, Nat.reduceAdd, Nat.reduceEqDiff, Nat.reduceLeDiff, Nat.reduceMul, Nat.reduceSub, Int32.reduceOfInt, Int64.reduceOfInt, Int64.reduceOfNat, true_and, and_true, false_and, and_false, or_false, false_or, true_or, or_true, Int.reduceEq, reduceCtorEq, or_self, and_self, ne_eq, not_false_eq_true, not_true_eq_false, eq_self, Nat.le_refl, Nat.zero_le, zr_eI, zr_eL, zr_eR, zr_pI, zr_pL, zr_pR, zr_pO, zr_pV, zq_pA0, zq_pA, zr_get, zr_put_n, zr_put, zr_rem_n, zr_rem, zr_cat_i, zr_cat_l, zr_cat_q, zr_w_n, zr_w, zr_args_n, zr_args, zr_tl_s, zr_tl_n, zr_hIsI, zr_hLsL, zr_hRsR, zr_hIsL, zr_hIsR, zr_hLsI, zr_hLsR, zr_hRsI, zr_hRsL, zr_hNsI, zr_hNsL, zr_hNsR, zr_hZsI, zr_hZsL, zr_hZsR, b2_01, Classical.not_not, Int32.toInt_toInt64, Int64.reduceToInt, zc_1000, zc_100, zc_10, zc_9, zc_2, ci_f, hM, mR_1, aLen_301, aCod_301, ma_1 e, mR_2, aLen_302, aCod_302, ma_2 e, mR_3, aLen_303, aCod_303, mb_3 e]
      refine qi' ?_ (by repeat (first | exact z_sC.rf | exact hsc | refine z_sC.I ?_ (by decide) | refine z_sC.L ?_ (by decide))) hM'
      simp only [mv_thr, mv_sLs, mv_moved, e, mx_1, mx_2, my_3]
      unfold o_row
      (repeat' split) <;> (first | rfl | (exfalso; omega))
    · try simp only [b2_0, Classical.not_not] at qc2
      try simp only [Int64.le_iff_toInt_le, Int64.lt_iff_toInt_lt, Int32.lt_iff_toInt_lt, Int32.le_iff_toInt_le, Int32.toInt_toInt64, Int64.reduceToInt, Int32.reduceToInt, Int.reduceNeg, Classical.not_not, i32e, l_add] at qc2
      refine ⟨fun qc3 => ?_, fun qc3 => ?_⟩
      · try simp only [b2_0, Classical.not_not] at qc3
        try simp only [Int64.le_iff_toInt_le, Int64.lt_iff_toInt_lt, Int32.lt_iff_toInt_lt, Int32.le_iff_toInt_le, Int32.toInt_toInt64, Int64.reduceToInt, Int32.reduceToInt, Int.reduceNeg, Classical.not_not, i32e, l_add] at qc3
        refine st b_X12_row_33 _ _ k_X12_row_33 _ _ _ _ _ ?_
        simp only [b_X12_row_33, zr_T, zr_bipush, zr_cP_ge, zr_ifc, zr_iload_n3, zr_iret, zr_rt_a, zr_rt_i, zr_rt_l, zr_rt_n, zr_rt_z, zr_nil, zr_cons, ↓reduceIte, Nat.reduceAdd, Nat.reduceEqDiff, Nat.reduceLeDiff, Nat.reduceMul, Nat.reduceSub, Int32.reduceOfInt, Int64.reduceOfInt, Int64.reduceOfNat, true_and, and_true, false_and, and_false, or_false, false_or, true_or, or_true, Int.reduceEq, reduceCtorEq, or_self, and_self, ne_eq, not_false_eq_true, not_true_eq_false, eq_self, Nat.le_refl, Nat.zero_le, zr_eI, zr_eL, zr_eR, zr_pI, zr_pL, zr_pR, zr_pO, zr_pV, zq_pA0, zq_pA, zr_get, zr_put_n, zr_put, zr_rem_n, zr_rem, zr_cat_i, zr_cat_l, zr_cat_q, zr_w_n, zr_w, zr_args_n, zr_args, zr_tl_s, zr_tl_n, zr_hIsI, zr_hLsL, zr_hRsR, zr_hIsL, zr_hIsR, zr_hLsI, zr_hLsR, zr_hRsI, zr_hRsL, zr_hNsI, zr_hNsL, zr_hNsR, zr_hZsI, zr_hZsL, zr_hZsR, b2_01, Classical.not_not, Int32.toInt_toInt64, Int64.reduceToInt, zc_1000, zc_100, zc_10, zc_9, zc_2, ci_f, hM, mR_1, aLen_301, aCod_301, ma_1 e, mR_2, aLen_302, aCod_302, ma_2 e, mR_3, aLen_303, aCod_303, mb_3 e]
        refine ⟨fun qc4 => ?_, fun qc4 => ?_⟩
        · try simp only [b2_0, Classical.not_not] at qc4
          try simp only [Int64.le_iff_toInt_le, Int64.lt_iff_toInt_lt, Int32.lt_iff_toInt_lt, Int32.le_iff_toInt_le, Int32.toInt_toInt64, Int64.reduceToInt, Int32.reduceToInt, Int.reduceNeg, Classical.not_not, i32e, l_add] at qc4
          refine st b_X12_row_40 _ _ k_X12_row_40 _ _ _ _ _ ?_
          simp only [b_X12_row_40, zr_aload_n0, zr_get2, zr_iast, zr_iconst, zr_iload_n1, zr_iload_n2, zr_iload_n3, zr_istore, zr_nil, zr_cons, ↓reduceIte, Nat.reduceAdd, Nat.reduceEqDiff, Nat.reduceLeDiff, Nat.reduceMul, Nat.reduceSub, Int32.reduceOfInt, Int64.reduceOfInt, Int64.reduceOfNat, true_and, and_true, false_and, and_false, or_false, false_or, true_or, or_true, Int.reduceEq, reduceCtorEq, or_self, and_self, ne_eq, not_false_eq_true, not_true_eq_false, eq_self, Nat.le_refl, Nat.zero_le, zr_eI, zr_eL, zr_eR, zr_pI, zr_pL, zr_pR, zr_pO, zr_pV, zq_pA0, zq_pA, zr_get, zr_put_n, zr_put, zr_rem_n, zr_rem, zr_cat_i, zr_cat_l, zr_cat_q, zr_w_n, zr_w, zr_args_n, zr_args, zr_tl_s, zr_tl_n, zr_hIsI, zr_hLsL, zr_hRsR, zr_hIsL, zr_hIsR, zr_hLsI, zr_hLsR, zr_hRsI, zr_hRsL, zr_hNsI, zr_hNsL, zr_hNsR, zr_hZsI, zr_hZsL, zr_hZsR, b2_01, Classical.not_not, Int32.toInt_toInt64, Int64.reduceToInt, zc_1000, zc_100, zc_10, zc_9, zc_2, ci_f, hM, mR_1, aLen_301, aCod_301, ma_1 e, mR_2, aLen_302, aCod_302, ma_2 e, mR_3, aLen_303, aCod_303, mb_3 e]
          refine ⟨by first | exact vpi (by omega) | with_reducible exact vp_in_nI (by omega) (by omega), ?_⟩
          refine ⟨by first | exact vpi (by omega) | with_reducible exact vp_in_nI (by omega) (by omega), ?_⟩
          have ks := ci_int (x := s) (by omega)
          refine (show ∀ i, i ≤ 60 → ∀ h' : z_H, mv h' = (z_u2 (z_u2 S.1 1 (ci s) a) 2 (ci s) n, fun k j => if k = 3 ∧ 60 * ci s ≤ j ∧ j < 60 * ci s + i then 0 else S.2.1 k j, S.2.2) → z_sC h h' → z_MR h' → A 57 [(0, z_r 14 0), (1, z_i s), (2, z_i a), (3, z_i n), (4, z_i (nI i))] [] h' 0 0 from z_loop (fun i hi ih => ?_)) 0 (Nat.zero_le _) _ ?_ (by repeat (first | exact z_sC.rf | exact hsc | refine z_sC.I ?_ (by decide) | refine z_sC.L ?_ (by decide))) hM'
          · intro h' e' hsc hM2
            have hM3 := hM2
            unfold z_MR at hM2
            have ti := toIntS (show i < 2000000000 by omega)
            refine st b_X12_row_57 _ _ k_X12_row_57 _ _ _ _ _ ?_
            simp only [b_X12_row_57, zr_aload_n0, zr_bipush, zr_cP_ge, zr_get2, zr_goto, zr_iadd, zr_icmp, zr_iinc, zr_iload, zr_iload_n1, zr_imul, zr_last, zr_lconst0, zr_nil, zr_cons, ↓reduceIte, Nat.reduceAdd, Nat.reduceEqDiff, Nat.reduceLeDiff, Nat.reduceMul, Nat.reduceSub, Int32.reduceOfInt, Int64.reduceOfInt, Int64.reduceOfNat, true_and, and_true, false_and, and_false, or_false, false_or, true_or, or_true, Int.reduceEq, reduceCtorEq, or_self, and_self, ne_eq, not_false_eq_true, not_true_eq_false, eq_self, Nat.le_refl, Nat.zero_le, zr_eI, zr_eL, zr_eR, zr_pI, zr_pL, zr_pR, zr_pO, zr_pV, zq_pA0, zq_pA, zr_get, zr_put_n, zr_put, zr_rem_n, zr_rem, zr_cat_i, zr_cat_l, zr_cat_q, zr_w_n, zr_w, zr_args_n, zr_args, zr_tl_s, zr_tl_n, zr_hIsI, zr_hLsL, zr_hRsR, zr_hIsL, zr_hIsR, zr_hLsI, zr_hLsR, zr_hRsI, zr_hRsL, zr_hNsI, zr_hNsL, zr_hNsR, zr_hZsI, zr_hZsL, zr_hZsR, b2_01, Classical.not_not, Int32.toInt_toInt64, Int64.reduceToInt, zc_1000, zc_100, zc_10, zc_9, zc_2, ci_f, hM2, mR_1, aLen_301, aCod_301, ma_1 e', mR_2, aLen_302, aCod_302, ma_2 e', mR_3, aLen_303, aCod_303, mb_3 e']
            refine ⟨fun qc21 => ?_, fun qc21 => ?_⟩
            · try simp only [b2_0, Classical.not_not] at qc21
              try simp only [Int64.le_iff_toInt_le, Int64.lt_iff_toInt_lt, Int32.lt_iff_toInt_lt, Int32.le_iff_toInt_le, Int32.toInt_toInt64, Int64.reduceToInt, Int32.reduceToInt, Int.reduceNeg, Classical.not_not, i32e, l_add] at qc21
              refine st b_X12_row_83 _ _ k_X12_row_83 _ _ _ _ _ ?_
              simp only [b_X12_row_83, zr_T, zr_iconst, zr_iret, zr_rt_a, zr_rt_i, zr_rt_l, zr_rt_n, zr_rt_z, zr_nil, zr_cons, ↓reduceIte, Nat.reduceAdd, Nat.reduceEqDiff, Nat.reduceLeDiff, Nat.reduceMul, Nat.reduceSub, Int32.reduceOfInt, Int64.reduceOfInt, Int64.reduceOfNat, true_and, and_true, false_and, and_false, or_false, false_or, true_or, or_true, Int.reduceEq, reduceCtorEq, or_self, and_self, ne_eq, not_false_eq_true, not_true_eq_false, eq_self, Nat.le_refl, Nat.zero_le, zr_eI, zr_eL, zr_eR, zr_pI, zr_pL, zr_pR, zr_pO, zr_pV, zq_pA0, zq_pA, zr_get, zr_put_n, zr_put, zr_rem_n, zr_rem, zr_cat_i, zr_cat_l, zr_cat_q, zr_w_n, zr_w, zr_args_n, zr_args, zr_tl_s, zr_tl_n, zr_hIsI, zr_hLsL, zr_hRsR, zr_hIsL, zr_hIsR, zr_hLsI, zr_hLsR, zr_hRsI, zr_hRsL, zr_hNsI, zr_hNsL, zr_hNsR, zr_hZsI, zr_hZsL, zr_hZsR, b2_01, Classical.not_not, Int32.toInt_toInt64, Int64.reduceToInt, zc_1000, zc_100, zc_10, zc_9, zc_2, ci_f, hM2, mR_1, aLen_301, aCod_301, ma_1 e', mR_2, aLen_302, aCod_302, ma_2 e', mR_3, aLen_303, aCod_303, mb_3 e']
              have ei : i = 60 := by omega
              subst ei
              refine qi ?_ e' hsc hM3
              unfold o_row
              rw [if_neg (by omega), if_neg (by omega)]
            · try simp only [b2_0, Classical.not_not] at qc21
              try simp only [Int64.le_iff_toInt_le, Int64.lt_iff_toInt_lt, Int32.lt_iff_toInt_lt, Int32.le_iff_toInt_le, Int32.toInt_toInt64, Int64.reduceToInt, Int32.reduceToInt, Int.reduceNeg, Classical.not_not, i32e, l_add] at qc21
              rw [show (60 : Int32) * s + nI i = nI (60 * ci s + i) from by rw [← ix60, ← ci_e (by omega)]]
              simp only [nI_clampS (show 60 * ci s + i < 2000000000 by omega)]
              refine ⟨by first | exact vpi (by omega) | with_reducible exact vp_in_nI (by omega) (by omega), ?_⟩
              rw [nI_1]
              refine ih (by omega) _ ?_ (z_sC.L hsc (by decide)) hM3
              simp only [my_3, e']
              refine z_M_ext (fun k j => rfl) (fun k j => ?_) (fun k => rfl) (fun k => rfl)
              rw [mB_uB]
              show _ = (if k = 3 ∧ 60 * ci s ≤ j ∧ j < 60 * ci s + (i + 1) then 0 else S.2.1 k j)
              by_cases q : k = 3 ∧ j = 60 * ci s + i
              · rw [if_pos q, if_pos (by omega)]
              · rw [if_neg q]
                show (if k = 3 ∧ 60 * ci s ≤ j ∧ j < 60 * ci s + i then 0 else S.2.1 k j) = _
                by_cases q2 : k = 3 ∧ 60 * ci s ≤ j ∧ j < 60 * ci s + i
                · rw [if_pos q2, if_pos (by omega)]
                · rw [if_neg q2, if_neg (by omega)]
          · simp only [mx_1, mx_2, mv_thr, e]
            refine z_M_ext (fun k j => rfl) (fun k j => ?_) (fun k => rfl) (fun k => rfl)
            show S.2.1 k j = (if k = 3 ∧ 60 * ci s ≤ j ∧ j < 60 * ci s + 0 then 0 else S.2.1 k j)
            rw [if_neg (by omega)]
        · try simp only [b2_0, Classical.not_not] at qc4
          try simp only [Int64.le_iff_toInt_le, Int64.lt_iff_toInt_lt, Int32.lt_iff_toInt_lt, Int32.le_iff_toInt_le, Int32.toInt_toInt64, Int64.reduceToInt, Int32.reduceToInt, Int.reduceNeg, Classical.not_not, i32e, l_add] at qc4
          refine qi' ?_ (by repeat (first | exact z_sC.rf | exact hsc | refine z_sC.I ?_ (by decide) | refine z_sC.L ?_ (by decide))) hM'
          simp only [mv_thr, mv_sLs, mv_moved, e, mx_1, mx_2, my_3]
          unfold o_row
          (repeat' split) <;> (first | rfl | (exfalso; omega))
      · try simp only [b2_0, Classical.not_not] at qc3
        try simp only [Int64.le_iff_toInt_le, Int64.lt_iff_toInt_lt, Int32.lt_iff_toInt_lt, Int32.le_iff_toInt_le, Int32.toInt_toInt64, Int64.reduceToInt, Int32.reduceToInt, Int.reduceNeg, Classical.not_not, i32e, l_add] at qc3
        refine st b_X12_row_30 _ _ k_X12_row_30 _ _ _ _ _ ?_
        simp only [b_X12_row_30, zr_T, zr_bipush, zr_iret, zr_rt_a, zr_rt_i, zr_rt_l, zr_rt_n, zr_rt_z, zr_nil, zr_cons, ↓reduceIte, Nat.reduceAdd, Nat.reduceEqDiff, Nat.reduceLeDiff, Nat.reduceMul, Nat.reduceSub, Int32.reduceOfInt, Int64.reduceOfInt, Int64.reduceOfNat, true_and, and_true, false_and, and_false, or_false, false_or, true_or, or_true, Int.reduceEq, reduceCtorEq, or_self, and_self, ne_eq, not_false_eq_true, not_true_eq_false, eq_self, Nat.le_refl, Nat.zero_le, zr_eI, zr_eL, zr_eR, zr_pI, zr_pL, zr_pR, zr_pO, zr_pV, zq_pA0, zq_pA, zr_get, zr_put_n, zr_put, zr_rem_n, zr_rem, zr_cat_i, zr_cat_l, zr_cat_q, zr_w_n, zr_w, zr_args_n, zr_args, zr_tl_s, zr_tl_n, zr_hIsI, zr_hLsL, zr_hRsR, zr_hIsL, zr_hIsR, zr_hLsI, zr_hLsR, zr_hRsI, zr_hRsL, zr_hNsI, zr_hNsL, zr_hNsR, zr_hZsI, zr_hZsL, zr_hZsR, b2_01, Classical.not_not, Int32.toInt_toInt64, Int64.reduceToInt, zc_1000, zc_100, zc_10, zc_9, zc_2, ci_f, hM, mR_1, aLen_301, aCod_301, ma_1 e, mR_2, aLen_302, aCod_302, ma_2 e, mR_3, aLen_303, aCod_303, mb_3 e]
        refine qi' ?_ (by repeat (first | exact z_sC.rf | exact hsc | refine z_sC.I ?_ (by decide) | refine z_sC.L ?_ (by decide))) hM'
        simp only [mv_thr, mv_sLs, mv_moved, e, mx_1, mx_2, my_3]
        unfold o_row
        (repeat' split) <;> (first | rfl | (exfalso; omega))
theorem m_terms (l : Launch) (G : z_G) (d : Nat) (hd : 3 ≤ d) (S : z_M) (h : z_H) (e : mv h = S) (hM : z_MR h) (inv : INV S) (r f t n p s b q : Int32) : z_MT l G d yX12_terms cX12_terms 9 (some .int) [z_r 14 0, z_i r, z_i f, z_i t, z_i n, z_i p, z_i s, z_i b, z_i q] h 0 0 (Qi h (o_terms S r f t n p s b q)) := by
  have hM' := hM
  unfold z_MR at hM
  refine z_mt2 14 false ⟨by decide, rfl, fun q => absurd q (by decide)⟩ (by show 9 ≤ 9; decide) (fun A st wk => ?_)
  refine st b_X12_terms_0 _ _ k_X12_terms_0 _ _ _ _ _ ?_
  simp only [b_X12_terms_0, zr_aload_n0, zr_cP_eq, zr_cP_ne, zr_call1, zr_i2l, zr_iconst, zr_ifc, zr_iload, zr_iload_n1, zr_iload_n2, zr_iload_n3, zr_lconst0, zr_lconst1, zr_ldc2, zr_put0, zr_nil, zr_cons, ↓reduceIte, Nat.reduceAdd, Nat.reduceEqDiff, Nat.reduceLeDiff, Nat.reduceMul, Nat.reduceSub, Int32.reduceOfInt, Int64.reduceOfInt, Int64.reduceOfNat, true_and, and_true, false_and, and_false, or_false, false_or, true_or, or_true, Int.reduceEq, reduceCtorEq, or_self, and_self, ne_eq, not_false_eq_true, not_true_eq_false, eq_self, Nat.le_refl, Nat.zero_le, zr_eI, zr_eL, zr_eR, zr_pI, zr_pL, zr_pR, zr_pO, zr_pV, zq_pA0, zq_pA, zr_get, zr_put_n, zr_put, zr_rem_n, zr_rem, zr_cat_i, zr_cat_l, zr_cat_q, zr_w_n, zr_w, zr_args_n, zr_args, zr_tl_s, zr_tl_n, zr_hIsI, zr_hLsL, zr_hRsR, zr_hIsL, zr_hIsR, zr_hLsI, zr_hLsR, zr_hRsI, zr_hRsL, zr_hNsI, zr_hNsL, zr_hNsR, zr_hZsI, zr_hZsL, zr_hZsR, b2_01, Classical.not_not, Int32.toInt_toInt64, Int64.reduceToInt, zc_1000, zc_100, zc_10, zc_9, zc_2, ci_f, hM, ms_5 e, ms_6 e, ms_7 e, ms_8 e, ms_9 e, ms_10 e, ms_11 e, ms_12 e]
  refine cp0 (by omega) lk_X12_177 trivial (m_in l G _ _ _ _ _) (Nat.le_refl _) (Nat.le_refl _) ?_
  simp only [zr_cP_eq, zr_cP_ne, zr_call1, zr_i2l, zr_ifc, zr_iload, zr_iload_n2, zr_iload_n3, zr_lconst0, zr_lconst1, zr_ldc2, zr_nil, zr_cons, ↓reduceIte, Nat.reduceAdd, Nat.reduceEqDiff, Nat.reduceLeDiff, Nat.reduceMul, Nat.reduceSub, Int32.reduceOfInt, Int64.reduceOfInt, Int64.reduceOfNat, true_and, and_true, false_and, and_false, or_false, false_or, true_or, or_true, Int.reduceEq, reduceCtorEq, or_self, and_self, ne_eq, not_false_eq_true, not_true_eq_false, eq_self, Nat.le_refl, Nat.zero_le, zr_eI, zr_eL, zr_eR, zr_pI, zr_pL, zr_pR, zr_pO, zr_pV, zq_pA0, zq_pA, zr_get, zr_put_n, zr_put, zr_rem_n, zr_rem, zr_cat_i, zr_cat_l, zr_cat_q, zr_w_n, zr_w, zr_args_n, zr_args, zr_tl_s, zr_tl_n, zr_hIsI, zr_hLsL, zr_hRsR, zr_hIsL, zr_hIsR, zr_hLsI, zr_hLsR, zr_hRsI, zr_hRsL, zr_hNsI, zr_hNsL, zr_hNsR, zr_hZsI, zr_hZsL, zr_hZsR, b2_01, Classical.not_not, Int32.toInt_toInt64, Int64.reduceToInt, zc_1000, zc_100, zc_10, zc_9, zc_2, ci_f, hM, ms_5 e, ms_6 e, ms_7 e, ms_8 e, ms_9 e, ms_10 e, ms_11 e, ms_12 e]
  refine ⟨fun qc1 => ?_, fun qc1 => ?_⟩
  · try simp only [b2_0, Classical.not_not] at qc1
    try simp only [Int64.le_iff_toInt_le, Int64.lt_iff_toInt_lt, Int32.lt_iff_toInt_lt, Int32.le_iff_toInt_le, Int32.toInt_toInt64, Int64.reduceToInt, Int32.reduceToInt, Int.reduceNeg, Classical.not_not, i32e, l_add] at qc1
    refine st b_X12_terms_110 _ _ k_X12_terms_110 _ _ _ _ _ ?_
    simp only [b_X12_terms_110, zr_T, zr_bipush, zr_iret, zr_rt_a, zr_rt_i, zr_rt_l, zr_rt_n, zr_rt_z, zr_nil, zr_cons, ↓reduceIte, Nat.reduceAdd, Nat.reduceEqDiff, Nat.reduceLeDiff, Nat.reduceMul, Nat.reduceSub, Int32.reduceOfInt, Int64.reduceOfInt, Int64.reduceOfNat, true_and, and_true, false_and, and_false, or_false, false_or, true_or, or_true, Int.reduceEq, reduceCtorEq, or_self, and_self, ne_eq, not_false_eq_true, not_true_eq_false, eq_self, Nat.le_refl, Nat.zero_le, zr_eI, zr_eL, zr_eR, zr_pI, zr_pL, zr_pR, zr_pO, zr_pV, zq_pA0, zq_pA, zr_get, zr_put_n, zr_put, zr_rem_n, zr_rem, zr_cat_i, zr_cat_l, zr_cat_q, zr_w_n, zr_w, zr_args_n, zr_args, zr_tl_s, zr_tl_n, zr_hIsI, zr_hLsL, zr_hRsR, zr_hIsL, zr_hIsR, zr_hLsI, zr_hLsR, zr_hRsI, zr_hRsL, zr_hNsI, zr_hNsL, zr_hNsR, zr_hZsI, zr_hZsL, zr_hZsR, b2_01, Classical.not_not, Int32.toInt_toInt64, Int64.reduceToInt, zc_1000, zc_100, zc_10, zc_9, zc_2, ci_f, hM, ms_5 e, ms_6 e, ms_7 e, ms_8 e, ms_9 e, ms_10 e, ms_11 e, ms_12 e]
    refine qi' ?_ (by repeat (first | exact z_sC.rf | exact hsc | refine z_sC.I ?_ (by decide) | refine z_sC.L ?_ (by decide))) hM'
    simp only [mv_thr, mv_sLs, mv_moved, e, mw_5, mw_6, mw_7, mw_8, mw_9, mw_10, mw_11, mw_12]
    unfold o_terms
    (repeat' split) <;> (first | rfl | (exfalso; omega))
  · try simp only [b2_0, Classical.not_not] at qc1
    try simp only [Int64.le_iff_toInt_le, Int64.lt_iff_toInt_lt, Int32.lt_iff_toInt_lt, Int32.le_iff_toInt_le, Int32.toInt_toInt64, Int64.reduceToInt, Int32.reduceToInt, Int.reduceNeg, Classical.not_not, i32e, l_add] at qc1
    refine cp0 (by omega) lk_X12_177 trivial (m_in l G _ _ _ _ _) (Nat.le_refl _) (Nat.le_refl _) ?_
    simp only [zr_cP_eq, zr_cP_ne, zr_call1, zr_i2l, zr_ifc, zr_iload, zr_iload_n3, zr_lconst0, zr_lconst1, zr_ldc2, zr_nil, zr_cons, ↓reduceIte, Nat.reduceAdd, Nat.reduceEqDiff, Nat.reduceLeDiff, Nat.reduceMul, Nat.reduceSub, Int32.reduceOfInt, Int64.reduceOfInt, Int64.reduceOfNat, true_and, and_true, false_and, and_false, or_false, false_or, true_or, or_true, Int.reduceEq, reduceCtorEq, or_self, and_self, ne_eq, not_false_eq_true, not_true_eq_false, eq_self, Nat.le_refl, Nat.zero_le, zr_eI, zr_eL, zr_eR, zr_pI, zr_pL, zr_pR, zr_pO, zr_pV, zq_pA0, zq_pA, zr_get, zr_put_n, zr_put, zr_rem_n, zr_rem, zr_cat_i, zr_cat_l, zr_cat_q, zr_w_n, zr_w, zr_args_n, zr_args, zr_tl_s, zr_tl_n, zr_hIsI, zr_hLsL, zr_hRsR, zr_hIsL, zr_hIsR, zr_hLsI, zr_hLsR, zr_hRsI, zr_hRsL, zr_hNsI, zr_hNsL, zr_hNsR, zr_hZsI, zr_hZsL, zr_hZsR, b2_01, Classical.not_not, Int32.toInt_toInt64, Int64.reduceToInt, zc_1000, zc_100, zc_10, zc_9, zc_2, ci_f, hM, ms_5 e, ms_6 e, ms_7 e, ms_8 e, ms_9 e, ms_10 e, ms_11 e, ms_12 e]
    refine ⟨fun qc2 => ?_, fun qc2 => ?_⟩
    · try simp only [b2_0, Classical.not_not] at qc2
      try simp only [Int64.le_iff_toInt_le, Int64.lt_iff_toInt_lt, Int32.lt_iff_toInt_lt, Int32.le_iff_toInt_le, Int32.toInt_toInt64, Int64.reduceToInt, Int32.reduceToInt, Int.reduceNeg, Classical.not_not, i32e, l_add] at qc2
      refine st b_X12_terms_110 _ _ k_X12_terms_110 _ _ _ _ _ ?_
      simp only [b_X12_terms_110, zr_T, zr_bipush, zr_iret, zr_rt_a, zr_rt_i, zr_rt_l, zr_rt_n, zr_rt_z, zr_nil, zr_cons, ↓reduceIte, Nat.reduceAdd, Nat.reduceEqDiff, Nat.reduceLeDiff, Nat.reduceMul, Nat.reduceSub, Int32.reduceOfInt, Int64.reduceOfInt, Int64.reduceOfNat, true_and, and_true, false_and, and_false, or_false, false_or, true_or, or_true, Int.reduceEq, reduceCtorEq, or_self, and_self, ne_eq, not_false_eq_true, not_true_eq_false, eq_self, Nat.le_refl, Nat.zero_le, zr_eI, zr_eL, zr_eR, zr_pI, zr_pL, zr_pR, zr_pO, zr_pV, zq_pA0, zq_pA, zr_get, zr_put_n, zr_put, zr_rem_n, zr_rem, zr_cat_i, zr_cat_l, zr_cat_q, zr_w_n, zr_w, zr_args_n, zr_args, zr_tl_s, zr_tl_n, zr_hIsI, zr_hLsL, zr_hRsR, zr_hIsL, zr_hIsR, zr_hLsI, zr_hLsR, zr_hRsI, zr_hRsL, zr_hNsI, zr_hNsL, zr_hNsR, zr_hZsI, zr_hZsL, zr_hZsR, b2_01, Classical.not_not, Int32.toInt_toInt64, Int64.reduceToInt, zc_1000, zc_100, zc_10, zc_9, zc_2, ci_f, hM, ms_5 e, ms_6 e, ms_7 e, ms_8 e, ms_9 e, ms_10 e, ms_11 e, ms_12 e]
      refine qi' ?_ (by repeat (first | exact z_sC.rf | exact hsc | refine z_sC.I ?_ (by decide) | refine z_sC.L ?_ (by decide))) hM'
      simp only [mv_thr, mv_sLs, mv_moved, e, mw_5, mw_6, mw_7, mw_8, mw_9, mw_10, mw_11, mw_12]
      unfold o_terms
      (repeat' split) <;> (first | rfl | (exfalso; omega))
    · try simp only [b2_0, Classical.not_not] at qc2
      try simp only [Int64.le_iff_toInt_le, Int64.lt_iff_toInt_lt, Int32.lt_iff_toInt_lt, Int32.le_iff_toInt_le, Int32.toInt_toInt64, Int64.reduceToInt, Int32.reduceToInt, Int.reduceNeg, Classical.not_not, i32e, l_add] at qc2
      refine cp0 (by omega) lk_X12_177 trivial (m_in l G _ _ _ _ _) (Nat.le_refl _) (Nat.le_refl _) ?_
      simp only [zr_cP_eq, zr_cP_ne, zr_call1, zr_i2l, zr_ifc, zr_iload, zr_lconst0, zr_ldc2, zr_nil, zr_cons, ↓reduceIte, Nat.reduceAdd, Nat.reduceEqDiff, Nat.reduceLeDiff, Nat.reduceMul, Nat.reduceSub, Int32.reduceOfInt, Int64.reduceOfInt, Int64.reduceOfNat, true_and, and_true, false_and, and_false, or_false, false_or, true_or, or_true, Int.reduceEq, reduceCtorEq, or_self, and_self, ne_eq, not_false_eq_true, not_true_eq_false, eq_self, Nat.le_refl, Nat.zero_le, zr_eI, zr_eL, zr_eR, zr_pI, zr_pL, zr_pR, zr_pO, zr_pV, zq_pA0, zq_pA, zr_get, zr_put_n, zr_put, zr_rem_n, zr_rem, zr_cat_i, zr_cat_l, zr_cat_q, zr_w_n, zr_w, zr_args_n, zr_args, zr_tl_s, zr_tl_n, zr_hIsI, zr_hLsL, zr_hRsR, zr_hIsL, zr_hIsR, zr_hLsI, zr_hLsR, zr_hRsI, zr_hRsL, zr_hNsI, zr_hNsL, zr_hNsR, zr_hZsI, zr_hZsL, zr_hZsR, b2_01, Classical.not_not, Int32.toInt_toInt64, Int64.reduceToInt, zc_1000, zc_100, zc_10, zc_9, zc_2, ci_f, hM, ms_5 e, ms_6 e, ms_7 e, ms_8 e, ms_9 e, ms_10 e, ms_11 e, ms_12 e]
      refine ⟨fun qc3 => ?_, fun qc3 => ?_⟩
      · try simp only [b2_0, Classical.not_not] at qc3
        try simp only [Int64.le_iff_toInt_le, Int64.lt_iff_toInt_lt, Int32.lt_iff_toInt_lt, Int32.le_iff_toInt_le, Int32.toInt_toInt64, Int64.reduceToInt, Int32.reduceToInt, Int.reduceNeg, Classical.not_not, i32e, l_add] at qc3
        refine st b_X12_terms_110 _ _ k_X12_terms_110 _ _ _ _ _ ?_
        simp only [b_X12_terms_110, zr_T, zr_bipush, zr_iret, zr_rt_a, zr_rt_i, zr_rt_l, zr_rt_n, zr_rt_z, zr_nil, zr_cons, ↓reduceIte, Nat.reduceAdd, Nat.reduceEqDiff, Nat.reduceLeDiff, Nat.reduceMul, Nat.reduceSub, Int32.reduceOfInt, Int64.reduceOfInt, Int64.reduceOfNat, true_and, and_true, false_and, and_false, or_false, false_or, true_or, or_true, Int.reduceEq, reduceCtorEq, or_self, and_self, ne_eq, not_false_eq_true, not_true_eq_false, eq_self, Nat.le_refl, Nat.zero_le, zr_eI, zr_eL, zr_eR, zr_pI, zr_pL, zr_pR, zr_pO, zr_pV, zq_pA0, zq_pA, zr_get, zr_put_n, zr_put, zr_rem_n, zr_rem, zr_cat_i, zr_cat_l, zr_cat_q, zr_w_n, zr_w, zr_args_n, zr_args, zr_tl_s, zr_tl_n, zr_hIsI, zr_hLsL, zr_hRsR, zr_hIsL, zr_hIsR, zr_hLsI, zr_hLsR, zr_hRsI, zr_hRsL, zr_hNsI, zr_hNsL, zr_hNsR, zr_hZsI, zr_hZsL, zr_hZsR, b2_01, Classical.not_not, Int32.toInt_toInt64, Int64.reduceToInt, zc_1000, zc_100, zc_10, zc_9, zc_2, ci_f, hM, ms_5 e, ms_6 e, ms_7 e, ms_8 e, ms_9 e, ms_10 e, ms_11 e, ms_12 e]
        refine qi' ?_ (by repeat (first | exact z_sC.rf | exact hsc | refine z_sC.I ?_ (by decide) | refine z_sC.L ?_ (by decide))) hM'
        simp only [mv_thr, mv_sLs, mv_moved, e, mw_5, mw_6, mw_7, mw_8, mw_9, mw_10, mw_11, mw_12]
        unfold o_terms
        (repeat' split) <;> (first | rfl | (exfalso; omega))
      · try simp only [b2_0, Classical.not_not] at qc3
        try simp only [Int64.le_iff_toInt_le, Int64.lt_iff_toInt_lt, Int32.lt_iff_toInt_lt, Int32.le_iff_toInt_le, Int32.toInt_toInt64, Int64.reduceToInt, Int32.reduceToInt, Int.reduceNeg, Classical.not_not, i32e, l_add] at qc3
        refine cp0 (by omega) lk_X12_177 trivial (m_in l G _ _ _ _ _) (Nat.le_refl _) (Nat.le_refl _) ?_
        simp only [zr_cP_eq, zr_cP_ne, zr_call1, zr_i2l, zr_ifc, zr_iload, zr_lconst0, zr_ldc2, zr_nil, zr_cons, ↓reduceIte, Nat.reduceAdd, Nat.reduceEqDiff, Nat.reduceLeDiff, Nat.reduceMul, Nat.reduceSub, Int32.reduceOfInt, Int64.reduceOfInt, Int64.reduceOfNat, true_and, and_true, false_and, and_false, or_false, false_or, true_or, or_true, Int.reduceEq, reduceCtorEq, or_self, and_self, ne_eq, not_false_eq_true, not_true_eq_false, eq_self, Nat.le_refl, Nat.zero_le, zr_eI, zr_eL, zr_eR, zr_pI, zr_pL, zr_pR, zr_pO, zr_pV, zq_pA0, zq_pA, zr_get, zr_put_n, zr_put, zr_rem_n, zr_rem, zr_cat_i, zr_cat_l, zr_cat_q, zr_w_n, zr_w, zr_args_n, zr_args, zr_tl_s, zr_tl_n, zr_hIsI, zr_hLsL, zr_hRsR, zr_hIsL, zr_hIsR, zr_hLsI, zr_hLsR, zr_hRsI, zr_hRsL, zr_hNsI, zr_hNsL, zr_hNsR, zr_hZsI, zr_hZsL, zr_hZsR, b2_01, Classical.not_not, Int32.toInt_toInt64, Int64.reduceToInt, zc_1000, zc_100, zc_10, zc_9, zc_2, ci_f, hM, ms_5 e, ms_6 e, ms_7 e, ms_8 e, ms_9 e, ms_10 e, ms_11 e, ms_12 e]
        refine ⟨fun qc4 => ?_, fun qc4 => ?_⟩
        · try simp only [b2_0, Classical.not_not] at qc4
          try simp only [Int64.le_iff_toInt_le, Int64.lt_iff_toInt_lt, Int32.lt_iff_toInt_lt, Int32.le_iff_toInt_le, Int32.toInt_toInt64, Int64.reduceToInt, Int32.reduceToInt, Int.reduceNeg, Classical.not_not, i32e, l_add] at qc4
          refine st b_X12_terms_110 _ _ k_X12_terms_110 _ _ _ _ _ ?_
          simp only [b_X12_terms_110, zr_T, zr_bipush, zr_iret, zr_rt_a, zr_rt_i, zr_rt_l, zr_rt_n, zr_rt_z, zr_nil, zr_cons, ↓reduceIte, Nat.reduceAdd, Nat.reduceEqDiff, Nat.reduceLeDiff, Nat.reduceMul, Nat.reduceSub, Int32.reduceOfInt, Int64.reduceOfInt, Int64.reduceOfNat, true_and, and_true, false_and, and_false, or_false, false_or, true_or, or_true, Int.reduceEq, reduceCtorEq, or_self, and_self, ne_eq, not_false_eq_true, not_true_eq_false, eq_self, Nat.le_refl, Nat.zero_le, zr_eI, zr_eL, zr_eR, zr_pI, zr_pL, zr_pR, zr_pO, zr_pV, zq_pA0, zq_pA, zr_get, zr_put_n, zr_put, zr_rem_n, zr_rem, zr_cat_i, zr_cat_l, zr_cat_q, zr_w_n, zr_w, zr_args_n, zr_args, zr_tl_s, zr_tl_n, zr_hIsI, zr_hLsL, zr_hRsR, zr_hIsL, zr_hIsR, zr_hLsI, zr_hLsR, zr_hRsI, zr_hRsL, zr_hNsI, zr_hNsL, zr_hNsR, zr_hZsI, zr_hZsL, zr_hZsR, b2_01, Classical.not_not, Int32.toInt_toInt64, Int64.reduceToInt, zc_1000, zc_100, zc_10, zc_9, zc_2, ci_f, hM, ms_5 e, ms_6 e, ms_7 e, ms_8 e, ms_9 e, ms_10 e, ms_11 e, ms_12 e]
          refine qi' ?_ (by repeat (first | exact z_sC.rf | exact hsc | refine z_sC.I ?_ (by decide) | refine z_sC.L ?_ (by decide))) hM'
          simp only [mv_thr, mv_sLs, mv_moved, e, mw_5, mw_6, mw_7, mw_8, mw_9, mw_10, mw_11, mw_12]
          unfold o_terms
          (repeat' split) <;> (first | rfl | (exfalso; omega))
        · try simp only [b2_0, Classical.not_not] at qc4
          try simp only [Int64.le_iff_toInt_le, Int64.lt_iff_toInt_lt, Int32.lt_iff_toInt_lt, Int32.le_iff_toInt_le, Int32.toInt_toInt64, Int64.reduceToInt, Int32.reduceToInt, Int.reduceNeg, Classical.not_not, i32e, l_add] at qc4
          refine cp0 (by omega) lk_X12_177 trivial (m_in l G _ _ _ _ _) (Nat.le_refl _) (Nat.le_refl _) ?_
          simp only [zr_cP_eq, zr_cP_ne, zr_call1, zr_i2l, zr_ifc, zr_iload, zr_lconst0, zr_ldc2, zr_nil, zr_cons, ↓reduceIte, Nat.reduceAdd, Nat.reduceEqDiff, Nat.reduceLeDiff, Nat.reduceMul, Nat.reduceSub, Int32.reduceOfInt, Int64.reduceOfInt, Int64.reduceOfNat, true_and, and_true, false_and, and_false, or_false, false_or, true_or, or_true, Int.reduceEq, reduceCtorEq, or_self, and_self, ne_eq, not_false_eq_true, not_true_eq_false, eq_self, Nat.le_refl, Nat.zero_le, zr_eI, zr_eL, zr_eR, zr_pI, zr_pL, zr_pR, zr_pO, zr_pV, zq_pA0, zq_pA, zr_get, zr_put_n, zr_put, zr_rem_n, zr_rem, zr_cat_i, zr_cat_l, zr_cat_q, zr_w_n, zr_w, zr_args_n, zr_args, zr_tl_s, zr_tl_n, zr_hIsI, zr_hLsL, zr_hRsR, zr_hIsL, zr_hIsR, zr_hLsI, zr_hLsR, zr_hRsI, zr_hRsL, zr_hNsI, zr_hNsL, zr_hNsR, zr_hZsI, zr_hZsL, zr_hZsR, b2_01, Classical.not_not, Int32.toInt_toInt64, Int64.reduceToInt, zc_1000, zc_100, zc_10, zc_9, zc_2, ci_f, hM, ms_5 e, ms_6 e, ms_7 e, ms_8 e, ms_9 e, ms_10 e, ms_11 e, ms_12 e]
          refine ⟨fun qc5 => ?_, fun qc5 => ?_⟩
          · try simp only [b2_0, Classical.not_not] at qc5
            try simp only [Int64.le_iff_toInt_le, Int64.lt_iff_toInt_lt, Int32.lt_iff_toInt_lt, Int32.le_iff_toInt_le, Int32.toInt_toInt64, Int64.reduceToInt, Int32.reduceToInt, Int.reduceNeg, Classical.not_not, i32e, l_add] at qc5
            refine st b_X12_terms_110 _ _ k_X12_terms_110 _ _ _ _ _ ?_
            simp only [b_X12_terms_110, zr_T, zr_bipush, zr_iret, zr_rt_a, zr_rt_i, zr_rt_l, zr_rt_n, zr_rt_z, zr_nil, zr_cons, ↓reduceIte, Nat.reduceAdd, Nat.reduceEqDiff, Nat.reduceLeDiff, Nat.reduceMul, Nat.reduceSub, Int32.reduceOfInt, Int64.reduceOfInt, Int64.reduceOfNat, true_and, and_true, false_and, and_false, or_false, false_or, true_or, or_true, Int.reduceEq, reduceCtorEq, or_self, and_self, ne_eq, not_false_eq_true, not_true_eq_false, eq_self, Nat.le_refl, Nat.zero_le, zr_eI, zr_eL, zr_eR, zr_pI, zr_pL, zr_pR, zr_pO, zr_pV, zq_pA0, zq_pA, zr_get, zr_put_n, zr_put, zr_rem_n, zr_rem, zr_cat_i, zr_cat_l, zr_cat_q, zr_w_n, zr_w, zr_args_n, zr_args, zr_tl_s, zr_tl_n, zr_hIsI, zr_hLsL, zr_hRsR, zr_hIsL, zr_hIsR, zr_hLsI, zr_hLsR, zr_hRsI, zr_hRsL, zr_hNsI, zr_hNsL, zr_hNsR, zr_hZsI, zr_hZsL, zr_hZsR, b2_01, Classical.not_not, Int32.toInt_toInt64, Int64.reduceToInt, zc_1000, zc_100, zc_10, zc_9, zc_2, ci_f, hM, ms_5 e, ms_6 e, ms_7 e, ms_8 e, ms_9 e, ms_10 e, ms_11 e, ms_12 e]
            refine qi' ?_ (by repeat (first | exact z_sC.rf | exact hsc | refine z_sC.I ?_ (by decide) | refine z_sC.L ?_ (by decide))) hM'
            simp only [mv_thr, mv_sLs, mv_moved, e, mw_5, mw_6, mw_7, mw_8, mw_9, mw_10, mw_11, mw_12]
            unfold o_terms
            (repeat' split) <;> (first | rfl | (exfalso; omega))
          · try simp only [b2_0, Classical.not_not] at qc5
            try simp only [Int64.le_iff_toInt_le, Int64.lt_iff_toInt_lt, Int32.lt_iff_toInt_lt, Int32.le_iff_toInt_le, Int32.toInt_toInt64, Int64.reduceToInt, Int32.reduceToInt, Int.reduceNeg, Classical.not_not, i32e, l_add] at qc5
            refine cp0 (by omega) lk_X12_177 trivial (m_in l G _ _ _ _ _) (Nat.le_refl _) (Nat.le_refl _) ?_
            simp only [zr_cP_eq, zr_cP_ne, zr_call1, zr_i2l, zr_ifc, zr_iload, zr_ldc2, zr_nil, zr_cons, ↓reduceIte, Nat.reduceAdd, Nat.reduceEqDiff, Nat.reduceLeDiff, Nat.reduceMul, Nat.reduceSub, Int32.reduceOfInt, Int64.reduceOfInt, Int64.reduceOfNat, true_and, and_true, false_and, and_false, or_false, false_or, true_or, or_true, Int.reduceEq, reduceCtorEq, or_self, and_self, ne_eq, not_false_eq_true, not_true_eq_false, eq_self, Nat.le_refl, Nat.zero_le, zr_eI, zr_eL, zr_eR, zr_pI, zr_pL, zr_pR, zr_pO, zr_pV, zq_pA0, zq_pA, zr_get, zr_put_n, zr_put, zr_rem_n, zr_rem, zr_cat_i, zr_cat_l, zr_cat_q, zr_w_n, zr_w, zr_args_n, zr_args, zr_tl_s, zr_tl_n, zr_hIsI, zr_hLsL, zr_hRsR, zr_hIsL, zr_hIsR, zr_hLsI, zr_hLsR, zr_hRsI, zr_hRsL, zr_hNsI, zr_hNsL, zr_hNsR, zr_hZsI, zr_hZsL, zr_hZsR, b2_01, Classical.not_not, Int32.toInt_toInt64, Int64.reduceToInt, zc_1000, zc_100, zc_10, zc_9, zc_2, ci_f, hM, ms_5 e, ms_6 e, ms_7 e, ms_8 e, ms_9 e, ms_10 e, ms_11 e, ms_12 e]
            refine ⟨fun qc6 => ?_, fun qc6 => ?_⟩
            · try simp only [b2_0, Classical.not_not] at qc6
              try simp only [Int64.le_iff_toInt_le, Int64.lt_iff_toInt_lt, Int32.lt_iff_toInt_lt, Int32.le_iff_toInt_le, Int32.toInt_toInt64, Int64.reduceToInt, Int32.reduceToInt, Int.reduceNeg, Classical.not_not, i32e, l_add] at qc6
              refine st b_X12_terms_110 _ _ k_X12_terms_110 _ _ _ _ _ ?_
              simp only [b_X12_terms_110, zr_T, zr_bipush, zr_iret, zr_rt_a, zr_rt_i, zr_rt_l, zr_rt_n, zr_rt_z, zr_nil, zr_cons, ↓reduceIte, Nat.reduceAdd, Nat.reduceEqDiff, Nat.reduceLeDiff, Nat.reduceMul, Nat.reduceSub, Int32.reduceOfInt, Int64.reduceOfInt, Int64.reduceOfNat, true_and, and_true, false_and, and_false, or_false, false_or, true_or, or_true, Int.reduceEq, reduceCtorEq, or_self, and_self, ne_eq, not_false_eq_true, not_true_eq_false, eq_self, Nat.le_refl, Nat.zero_le, zr_eI, zr_eL, zr_eR, zr_pI, zr_pL, zr_pR, zr_pO, zr_pV, zq_pA0, zq_pA, zr_get, zr_put_n, zr_put, zr_rem_n, zr_rem, zr_cat_i, zr_cat_l, zr_cat_q, zr_w_n, zr_w, zr_args_n, zr_args, zr_tl_s, zr_tl_n, zr_hIsI, zr_hLsL, zr_hRsR, zr_hIsL, zr_hIsR, zr_hLsI, zr_hLsR, zr_hRsI, zr_hRsL, zr_hNsI, zr_hNsL, zr_hNsR, zr_hZsI, zr_hZsL, zr_hZsR, b2_01, Classical.not_not, Int32.toInt_toInt64, Int64.reduceToInt, zc_1000, zc_100, zc_10, zc_9, zc_2, ci_f, hM, ms_5 e, ms_6 e, ms_7 e, ms_8 e, ms_9 e, ms_10 e, ms_11 e, ms_12 e]
              refine qi' ?_ (by repeat (first | exact z_sC.rf | exact hsc | refine z_sC.I ?_ (by decide) | refine z_sC.L ?_ (by decide))) hM'
              simp only [mv_thr, mv_sLs, mv_moved, e, mw_5, mw_6, mw_7, mw_8, mw_9, mw_10, mw_11, mw_12]
              unfold o_terms
              (repeat' split) <;> (first | rfl | (exfalso; omega))
            · try simp only [b2_0, Classical.not_not] at qc6
              try simp only [Int64.le_iff_toInt_le, Int64.lt_iff_toInt_lt, Int32.lt_iff_toInt_lt, Int32.le_iff_toInt_le, Int32.toInt_toInt64, Int64.reduceToInt, Int32.reduceToInt, Int.reduceNeg, Classical.not_not, i32e, l_add] at qc6
              refine cp0 (by omega) lk_X12_177 trivial (m_in l G _ _ _ _ _) (Nat.le_refl _) (Nat.le_refl _) ?_
              simp only [zr_cP_eq, zr_cP_ne, zr_call1, zr_i2l, zr_ifc, zr_iload, zr_ldc2, zr_nil, zr_cons, ↓reduceIte, Nat.reduceAdd, Nat.reduceEqDiff, Nat.reduceLeDiff, Nat.reduceMul, Nat.reduceSub, Int32.reduceOfInt, Int64.reduceOfInt, Int64.reduceOfNat, true_and, and_true, false_and, and_false, or_false, false_or, true_or, or_true, Int.reduceEq, reduceCtorEq, or_self, and_self, ne_eq, not_false_eq_true, not_true_eq_false, eq_self, Nat.le_refl, Nat.zero_le, zr_eI, zr_eL, zr_eR, zr_pI, zr_pL, zr_pR, zr_pO, zr_pV, zq_pA0, zq_pA, zr_get, zr_put_n, zr_put, zr_rem_n, zr_rem, zr_cat_i, zr_cat_l, zr_cat_q, zr_w_n, zr_w, zr_args_n, zr_args, zr_tl_s, zr_tl_n, zr_hIsI, zr_hLsL, zr_hRsR, zr_hIsL, zr_hIsR, zr_hLsI, zr_hLsR, zr_hRsI, zr_hRsL, zr_hNsI, zr_hNsL, zr_hNsR, zr_hZsI, zr_hZsL, zr_hZsR, b2_01, Classical.not_not, Int32.toInt_toInt64, Int64.reduceToInt, zc_1000, zc_100, zc_10, zc_9, zc_2, ci_f, hM, ms_5 e, ms_6 e, ms_7 e, ms_8 e, ms_9 e, ms_10 e, ms_11 e, ms_12 e]
              refine ⟨fun qc7 => ?_, fun qc7 => ?_⟩
              · try simp only [b2_0, Classical.not_not] at qc7
                try simp only [Int64.le_iff_toInt_le, Int64.lt_iff_toInt_lt, Int32.lt_iff_toInt_lt, Int32.le_iff_toInt_le, Int32.toInt_toInt64, Int64.reduceToInt, Int32.reduceToInt, Int.reduceNeg, Classical.not_not, i32e, l_add] at qc7
                refine st b_X12_terms_110 _ _ k_X12_terms_110 _ _ _ _ _ ?_
                simp only [b_X12_terms_110, zr_T, zr_bipush, zr_iret, zr_rt_a, zr_rt_i, zr_rt_l, zr_rt_n, zr_rt_z, zr_nil, zr_cons, ↓reduceIte, Nat.reduceAdd, Nat.reduceEqDiff, Nat.reduceLeDiff, Nat.reduceMul, Nat.reduceSub, Int32.reduceOfInt, Int64.reduceOfInt, Int64.reduceOfNat, true_and, and_true, false_and, and_false, or_false, false_or, true_or, or_true, Int.reduceEq, reduceCtorEq, or_self, and_self, ne_eq, not_false_eq_true, not_true_eq_false, eq_self, Nat.le_refl, Nat.zero_le, zr_eI, zr_eL, zr_eR, zr_pI, zr_pL, zr_pR, zr_pO, zr_pV, zq_pA0, zq_pA, zr_get, zr_put_n, zr_put, zr_rem_n, zr_rem, zr_cat_i, zr_cat_l, zr_cat_q, zr_w_n, zr_w, zr_args_n, zr_args, zr_tl_s, zr_tl_n, zr_hIsI, zr_hLsL, zr_hRsR, zr_hIsL, zr_hIsR, zr_hLsI, zr_hLsR, zr_hRsI, zr_hRsL, zr_hNsI, zr_hNsL, zr_hNsR, zr_hZsI, zr_hZsL, zr_hZsR, b2_01, Classical.not_not, Int32.toInt_toInt64, Int64.reduceToInt, zc_1000, zc_100, zc_10, zc_9, zc_2, ci_f, hM, ms_5 e, ms_6 e, ms_7 e, ms_8 e, ms_9 e, ms_10 e, ms_11 e, ms_12 e]
                refine qi' ?_ (by repeat (first | exact z_sC.rf | exact hsc | refine z_sC.I ?_ (by decide) | refine z_sC.L ?_ (by decide))) hM'
                simp only [mv_thr, mv_sLs, mv_moved, e, mw_5, mw_6, mw_7, mw_8, mw_9, mw_10, mw_11, mw_12]
                unfold o_terms
                (repeat' split) <;> (first | rfl | (exfalso; omega))
              · try simp only [b2_0, Classical.not_not] at qc7
                try simp only [Int64.le_iff_toInt_le, Int64.lt_iff_toInt_lt, Int32.lt_iff_toInt_lt, Int32.le_iff_toInt_le, Int32.toInt_toInt64, Int64.reduceToInt, Int32.reduceToInt, Int.reduceNeg, Classical.not_not, i32e, l_add] at qc7
                refine cp0 (by omega) lk_X12_177 trivial (m_in l G _ _ _ _ _) (Nat.le_refl _) (Nat.le_refl _) ?_
                simp only [zr_cP_ne, zr_ifc, zr_nil, zr_cons, ↓reduceIte, Nat.reduceAdd, Nat.reduceEqDiff, Nat.reduceLeDiff, Nat.reduceMul, Nat.reduceSub, Int32.reduceOfInt, Int64.reduceOfInt, Int64.reduceOfNat, true_and, and_true, false_and, and_false, or_false, false_or, true_or, or_true, Int.reduceEq, reduceCtorEq, or_self, and_self, ne_eq, not_false_eq_true, not_true_eq_false, eq_self, Nat.le_refl, Nat.zero_le, zr_eI, zr_eL, zr_eR, zr_pI, zr_pL, zr_pR, zr_pO, zr_pV, zq_pA0, zq_pA, zr_get, zr_put_n, zr_put, zr_rem_n, zr_rem, zr_cat_i, zr_cat_l, zr_cat_q, zr_w_n, zr_w, zr_args_n, zr_args, zr_tl_s, zr_tl_n, zr_hIsI, zr_hLsL, zr_hRsR, zr_hIsL, zr_hIsR, zr_hLsI, zr_hLsR, zr_hRsI, zr_hRsL, zr_hNsI, zr_hNsL, zr_hNsR, zr_hZsI, zr_hZsL, zr_hZsR, b2_01, Classical.not_not, Int32.toInt_toInt64, Int64.reduceToInt, zc_1000, zc_100, zc_10, zc_9, zc_2, ci_f, hM, ms_5 e, ms_6 e, ms_7 e, ms_8 e, ms_9 e, ms_10 e, ms_11 e, ms_12 e]
                refine ⟨fun qc8 => ?_, fun qc8 => ?_⟩
                · try simp only [b2_0, Classical.not_not] at qc8
                  try simp only [Int64.le_iff_toInt_le, Int64.lt_iff_toInt_lt, Int32.lt_iff_toInt_lt, Int32.le_iff_toInt_le, Int32.toInt_toInt64, Int64.reduceToInt, Int32.reduceToInt, Int.reduceNeg, Classical.not_not, i32e, l_add] at qc8
                  refine st b_X12_terms_113 _ _ k_X12_terms_113 _ _ _ _ _ ?_
                  simp only [b_X12_terms_113, zr_T, zr_aload_n0, zr_iconst, zr_iload, zr_iload_n1, zr_iload_n2, zr_iload_n3, zr_iret, zr_put0, zr_rt_a, zr_rt_i, zr_rt_l, zr_rt_n, zr_rt_z, zr_nil, zr_cons, ↓reduceIte, Nat.reduceAdd, Nat.reduceEqDiff, Nat.reduceLeDiff, Nat.reduceMul, Nat.reduceSub, Int32.reduceOfInt, Int64.reduceOfInt, Int64.reduceOfNat, true_and, and_true, false_and, and_false, or_false, false_or, true_or, or_true, Int.reduceEq, reduceCtorEq, or_self, and_self, ne_eq, not_false_eq_true, not_true_eq_false, eq_self, Nat.le_refl, Nat.zero_le, zr_eI, zr_eL, zr_eR, zr_pI, zr_pL, zr_pR, zr_pO, zr_pV, zq_pA0, zq_pA, zr_get, zr_put_n, zr_put, zr_rem_n, zr_rem, zr_cat_i, zr_cat_l, zr_cat_q, zr_w_n, zr_w, zr_args_n, zr_args, zr_tl_s, zr_tl_n, zr_hIsI, zr_hLsL, zr_hRsR, zr_hIsL, zr_hIsR, zr_hLsI, zr_hLsR, zr_hRsI, zr_hRsL, zr_hNsI, zr_hNsL, zr_hNsR, zr_hZsI, zr_hZsL, zr_hZsR, b2_01, Classical.not_not, Int32.toInt_toInt64, Int64.reduceToInt, zc_1000, zc_100, zc_10, zc_9, zc_2, ci_f, hM, ms_5 e, ms_6 e, ms_7 e, ms_8 e, ms_9 e, ms_10 e, ms_11 e, ms_12 e]
                  refine qi' ?_ (by repeat (first | exact z_sC.rf | exact hsc | refine z_sC.I ?_ (by decide) | refine z_sC.L ?_ (by decide))) hM'
                  simp only [mv_thr, mv_sLs, mv_moved, e, mw_5, mw_6, mw_7, mw_8, mw_9, mw_10, mw_11, mw_12]
                  unfold o_terms
                  (repeat' split) <;> (first | rfl | (exfalso; omega))
                · try simp only [b2_0, Classical.not_not] at qc8
                  try simp only [Int64.le_iff_toInt_le, Int64.lt_iff_toInt_lt, Int32.lt_iff_toInt_lt, Int32.le_iff_toInt_le, Int32.toInt_toInt64, Int64.reduceToInt, Int32.reduceToInt, Int.reduceNeg, Classical.not_not, i32e, l_add] at qc8
                  refine st b_X12_terms_110 _ _ k_X12_terms_110 _ _ _ _ _ ?_
                  simp only [b_X12_terms_110, zr_T, zr_bipush, zr_iret, zr_rt_a, zr_rt_i, zr_rt_l, zr_rt_n, zr_rt_z, zr_nil, zr_cons, ↓reduceIte, Nat.reduceAdd, Nat.reduceEqDiff, Nat.reduceLeDiff, Nat.reduceMul, Nat.reduceSub, Int32.reduceOfInt, Int64.reduceOfInt, Int64.reduceOfNat, true_and, and_true, false_and, and_false, or_false, false_or, true_or, or_true, Int.reduceEq, reduceCtorEq, or_self, and_self, ne_eq, not_false_eq_true, not_true_eq_false, eq_self, Nat.le_refl, Nat.zero_le, zr_eI, zr_eL, zr_eR, zr_pI, zr_pL, zr_pR, zr_pO, zr_pV, zq_pA0, zq_pA, zr_get, zr_put_n, zr_put, zr_rem_n, zr_rem, zr_cat_i, zr_cat_l, zr_cat_q, zr_w_n, zr_w, zr_args_n, zr_args, zr_tl_s, zr_tl_n, zr_hIsI, zr_hLsL, zr_hRsR, zr_hIsL, zr_hIsR, zr_hLsI, zr_hLsR, zr_hRsI, zr_hRsL, zr_hNsI, zr_hNsL, zr_hNsR, zr_hZsI, zr_hZsL, zr_hZsR, b2_01, Classical.not_not, Int32.toInt_toInt64, Int64.reduceToInt, zc_1000, zc_100, zc_10, zc_9, zc_2, ci_f, hM, ms_5 e, ms_6 e, ms_7 e, ms_8 e, ms_9 e, ms_10 e, ms_11 e, ms_12 e]
                  refine qi' ?_ (by repeat (first | exact z_sC.rf | exact hsc | refine z_sC.I ?_ (by decide) | refine z_sC.L ?_ (by decide))) hM'
                  simp only [mv_thr, mv_sLs, mv_moved, e, mw_5, mw_6, mw_7, mw_8, mw_9, mw_10, mw_11, mw_12]
                  unfold o_terms
                  (repeat' split) <;> (first | rfl | (exfalso; omega))
theorem m_kind (l : Launch) (G : z_G) (d : Nat) (hd : 3 ≤ d) (S : z_M) (h : z_H) (e : mv h = S) (hM : z_MR h) (inv : INV S) (a s f : Int32) : z_MT l G d yX12_kind cX12_kind 4 (some .int) [z_r 14 0, z_i a, z_i s, z_i f] h 0 0 (Qi h (o_kind S a s f)) := by
  have hM' := hM
  unfold z_MR at hM
  have huK : nK S = ci (mS S 15) := rfl
  have htK := inv.cK.t
  have hbK := inv.cK.2
  have hpK : (mS S 15 - 1).toInt = (ci (mS S 15) : Int) - 1 := by
    rw [sub32 (by rw [htK, show (1 : Int32).toInt = 1 from rfl]; omega) (by rw [htK, show (1 : Int32).toInt = 1 from rfl]; omega), htK]
    rfl
  refine z_mt2 14 false ⟨by decide, rfl, fun q => absurd q (by decide)⟩ (by show 4 ≤ 4; decide) (fun A st wk => ?_)
  refine st b_X12_kind_0 _ _ k_X12_kind_0 _ _ _ _ _ ?_
  simp only [b_X12_kind_0, zr_aload_n0, zr_cP_eq, zr_cP_ne, zr_call1, zr_i2l, zr_iconst, zr_ifc, zr_iload_n1, zr_iload_n2, zr_iload_n3, zr_lconst1, zr_ldc2, zr_put0, zr_nil, zr_cons, ↓reduceIte, Nat.reduceAdd, Nat.reduceEqDiff, Nat.reduceLeDiff, Nat.reduceMul, Nat.reduceSub, Int32.reduceOfInt, Int64.reduceOfInt, Int64.reduceOfNat, true_and, and_true, false_and, and_false, or_false, false_or, true_or, or_true, Int.reduceEq, reduceCtorEq, or_self, and_self, ne_eq, not_false_eq_true, not_true_eq_false, eq_self, Nat.le_refl, Nat.zero_le, zr_eI, zr_eL, zr_eR, zr_pI, zr_pL, zr_pR, zr_pO, zr_pV, zq_pA0, zq_pA, zr_get, zr_put_n, zr_put, zr_rem_n, zr_rem, zr_cat_i, zr_cat_l, zr_cat_q, zr_w_n, zr_w, zr_args_n, zr_args, zr_tl_s, zr_tl_n, zr_hIsI, zr_hLsL, zr_hRsR, zr_hIsL, zr_hIsR, zr_hLsI, zr_hLsR, zr_hRsI, zr_hRsL, zr_hNsI, zr_hNsL, zr_hNsR, zr_hZsI, zr_hZsL, zr_hZsR, b2_01, Classical.not_not, Int32.toInt_toInt64, Int64.reduceToInt, zc_1000, zc_100, zc_10, zc_9, zc_2, ci_f, hM, ms_15 e, mR_22, aLen_322, aCod_322, ma_22 e, mR_23, aLen_323, aCod_323, ma_23 e, mR_24, aLen_324, aCod_324, ma_24 e, inv.cK.s]
  refine cp0 (by omega) lk_X12_177 trivial (m_in l G _ _ _ _ _) (Nat.le_refl _) (Nat.le_refl _) ?_
  simp only [zr_cP_eq, zr_cP_ne, zr_call1, zr_i2l, zr_ifc, zr_iload_n1, zr_iload_n2, zr_iload_n3, zr_lconst1, zr_ldc2, zr_nil, zr_cons, ↓reduceIte, Nat.reduceAdd, Nat.reduceEqDiff, Nat.reduceLeDiff, Nat.reduceMul, Nat.reduceSub, Int32.reduceOfInt, Int64.reduceOfInt, Int64.reduceOfNat, true_and, and_true, false_and, and_false, or_false, false_or, true_or, or_true, Int.reduceEq, reduceCtorEq, or_self, and_self, ne_eq, not_false_eq_true, not_true_eq_false, eq_self, Nat.le_refl, Nat.zero_le, zr_eI, zr_eL, zr_eR, zr_pI, zr_pL, zr_pR, zr_pO, zr_pV, zq_pA0, zq_pA, zr_get, zr_put_n, zr_put, zr_rem_n, zr_rem, zr_cat_i, zr_cat_l, zr_cat_q, zr_w_n, zr_w, zr_args_n, zr_args, zr_tl_s, zr_tl_n, zr_hIsI, zr_hLsL, zr_hRsR, zr_hIsL, zr_hIsR, zr_hLsI, zr_hLsR, zr_hRsI, zr_hRsL, zr_hNsI, zr_hNsL, zr_hNsR, zr_hZsI, zr_hZsL, zr_hZsR, b2_01, Classical.not_not, Int32.toInt_toInt64, Int64.reduceToInt, zc_1000, zc_100, zc_10, zc_9, zc_2, ci_f, hM, ms_15 e, mR_22, aLen_322, aCod_322, ma_22 e, mR_23, aLen_323, aCod_323, ma_23 e, mR_24, aLen_324, aCod_324, ma_24 e, inv.cK.s]
  refine ⟨fun qc1 => ?_, fun qc1 => ?_⟩
  · try simp only [b2_0, Classical.not_not] at qc1
    try simp only [Int64.le_iff_toInt_le, Int64.lt_iff_toInt_lt, Int32.lt_iff_toInt_lt, Int32.le_iff_toInt_le, Int32.toInt_toInt64, Int64.reduceToInt, Int32.reduceToInt, Int.reduceNeg, Classical.not_not, i32e, l_add] at qc1
    refine st b_X12_kind_40 _ _ k_X12_kind_40 _ _ _ _ _ ?_
    simp only [b_X12_kind_40, zr_T, zr_bipush, zr_iret, zr_rt_a, zr_rt_i, zr_rt_l, zr_rt_n, zr_rt_z, zr_nil, zr_cons, ↓reduceIte, Nat.reduceAdd, Nat.reduceEqDiff, Nat.reduceLeDiff, Nat.reduceMul, Nat.reduceSub, Int32.reduceOfInt, Int64.reduceOfInt, Int64.reduceOfNat, true_and, and_true, false_and, and_false, or_false, false_or, true_or, or_true, Int.reduceEq, reduceCtorEq, or_self, and_self, ne_eq, not_false_eq_true, not_true_eq_false, eq_self, Nat.le_refl, Nat.zero_le, zr_eI, zr_eL, zr_eR, zr_pI, zr_pL, zr_pR, zr_pO, zr_pV, zq_pA0, zq_pA, zr_get, zr_put_n, zr_put, zr_rem_n, zr_rem, zr_cat_i, zr_cat_l, zr_cat_q, zr_w_n, zr_w, zr_args_n, zr_args, zr_tl_s, zr_tl_n, zr_hIsI, zr_hLsL, zr_hRsR, zr_hIsL, zr_hIsR, zr_hLsI, zr_hLsR, zr_hRsI, zr_hRsL, zr_hNsI, zr_hNsL, zr_hNsR, zr_hZsI, zr_hZsL, zr_hZsR, b2_01, Classical.not_not, Int32.toInt_toInt64, Int64.reduceToInt, zc_1000, zc_100, zc_10, zc_9, zc_2, ci_f, hM, ms_15 e, mR_22, aLen_322, aCod_322, ma_22 e, mR_23, aLen_323, aCod_323, ma_23 e, mR_24, aLen_324, aCod_324, ma_24 e, inv.cK.s]
    refine qi' ?_ (by repeat (first | exact z_sC.rf | exact hsc | refine z_sC.I ?_ (by decide) | refine z_sC.L ?_ (by decide))) hM'
    simp only [mv_thr, mv_sLs, mv_moved, e, mw_15, mx_22, mx_23, mx_24]
    unfold o_kind
    (repeat' split) <;> (first | rfl | (exfalso; omega))
  · try simp only [b2_0, Classical.not_not] at qc1
    try simp only [Int64.le_iff_toInt_le, Int64.lt_iff_toInt_lt, Int32.lt_iff_toInt_lt, Int32.le_iff_toInt_le, Int32.toInt_toInt64, Int64.reduceToInt, Int32.reduceToInt, Int.reduceNeg, Classical.not_not, i32e, l_add] at qc1
    refine cp0 (by omega) lk_X12_177 trivial (m_in l G _ _ _ _ _) (Nat.le_refl _) (Nat.le_refl _) ?_
    simp only [zr_cP_eq, zr_cP_ne, zr_call1, zr_i2l, zr_ifc, zr_iload_n3, zr_lconst1, zr_ldc2, zr_nil, zr_cons, ↓reduceIte, Nat.reduceAdd, Nat.reduceEqDiff, Nat.reduceLeDiff, Nat.reduceMul, Nat.reduceSub, Int32.reduceOfInt, Int64.reduceOfInt, Int64.reduceOfNat, true_and, and_true, false_and, and_false, or_false, false_or, true_or, or_true, Int.reduceEq, reduceCtorEq, or_self, and_self, ne_eq, not_false_eq_true, not_true_eq_false, eq_self, Nat.le_refl, Nat.zero_le, zr_eI, zr_eL, zr_eR, zr_pI, zr_pL, zr_pR, zr_pO, zr_pV, zq_pA0, zq_pA, zr_get, zr_put_n, zr_put, zr_rem_n, zr_rem, zr_cat_i, zr_cat_l, zr_cat_q, zr_w_n, zr_w, zr_args_n, zr_args, zr_tl_s, zr_tl_n, zr_hIsI, zr_hLsL, zr_hRsR, zr_hIsL, zr_hIsR, zr_hLsI, zr_hLsR, zr_hRsI, zr_hRsL, zr_hNsI, zr_hNsL, zr_hNsR, zr_hZsI, zr_hZsL, zr_hZsR, b2_01, Classical.not_not, Int32.toInt_toInt64, Int64.reduceToInt, zc_1000, zc_100, zc_10, zc_9, zc_2, ci_f, hM, ms_15 e, mR_22, aLen_322, aCod_322, ma_22 e, mR_23, aLen_323, aCod_323, ma_23 e, mR_24, aLen_324, aCod_324, ma_24 e, inv.cK.s]
    refine ⟨fun qc2 => ?_, fun qc2 => ?_⟩
    · try simp only [b2_0, Classical.not_not] at qc2
      try simp only [Int64.le_iff_toInt_le, Int64.lt_iff_toInt_lt, Int32.lt_iff_toInt_lt, Int32.le_iff_toInt_le, Int32.toInt_toInt64, Int64.reduceToInt, Int32.reduceToInt, Int.reduceNeg, Classical.not_not, i32e, l_add] at qc2
      refine st b_X12_kind_40 _ _ k_X12_kind_40 _ _ _ _ _ ?_
      simp only [b_X12_kind_40, zr_T, zr_bipush, zr_iret, zr_rt_a, zr_rt_i, zr_rt_l, zr_rt_n, zr_rt_z, zr_nil, zr_cons, ↓reduceIte, Nat.reduceAdd, Nat.reduceEqDiff, Nat.reduceLeDiff, Nat.reduceMul, Nat.reduceSub, Int32.reduceOfInt, Int64.reduceOfInt, Int64.reduceOfNat, true_and, and_true, false_and, and_false, or_false, false_or, true_or, or_true, Int.reduceEq, reduceCtorEq, or_self, and_self, ne_eq, not_false_eq_true, not_true_eq_false, eq_self, Nat.le_refl, Nat.zero_le, zr_eI, zr_eL, zr_eR, zr_pI, zr_pL, zr_pR, zr_pO, zr_pV, zq_pA0, zq_pA, zr_get, zr_put_n, zr_put, zr_rem_n, zr_rem, zr_cat_i, zr_cat_l, zr_cat_q, zr_w_n, zr_w, zr_args_n, zr_args, zr_tl_s, zr_tl_n, zr_hIsI, zr_hLsL, zr_hRsR, zr_hIsL, zr_hIsR, zr_hLsI, zr_hLsR, zr_hRsI, zr_hRsL, zr_hNsI, zr_hNsL, zr_hNsR, zr_hZsI, zr_hZsL, zr_hZsR, b2_01, Classical.not_not, Int32.toInt_toInt64, Int64.reduceToInt, zc_1000, zc_100, zc_10, zc_9, zc_2, ci_f, hM, ms_15 e, mR_22, aLen_322, aCod_322, ma_22 e, mR_23, aLen_323, aCod_323, ma_23 e, mR_24, aLen_324, aCod_324, ma_24 e, inv.cK.s]
      refine qi' ?_ (by repeat (first | exact z_sC.rf | exact hsc | refine z_sC.I ?_ (by decide) | refine z_sC.L ?_ (by decide))) hM'
      simp only [mv_thr, mv_sLs, mv_moved, e, mw_15, mx_22, mx_23, mx_24]
      unfold o_kind
      (repeat' split) <;> (first | rfl | (exfalso; omega))
    · try simp only [b2_0, Classical.not_not] at qc2
      try simp only [Int64.le_iff_toInt_le, Int64.lt_iff_toInt_lt, Int32.lt_iff_toInt_lt, Int32.le_iff_toInt_le, Int32.toInt_toInt64, Int64.reduceToInt, Int32.reduceToInt, Int.reduceNeg, Classical.not_not, i32e, l_add] at qc2
      refine cp0 (by omega) lk_X12_177 trivial (m_in l G _ _ _ _ _) (Nat.le_refl _) (Nat.le_refl _) ?_
      simp only [zr_cP_ne, zr_ifc, zr_nil, zr_cons, ↓reduceIte, Nat.reduceAdd, Nat.reduceEqDiff, Nat.reduceLeDiff, Nat.reduceMul, Nat.reduceSub, Int32.reduceOfInt, Int64.reduceOfInt, Int64.reduceOfNat, true_and, and_true, false_and, and_false, or_false, false_or, true_or, or_true, Int.reduceEq, reduceCtorEq, or_self, and_self, ne_eq, not_false_eq_true, not_true_eq_false, eq_self, Nat.le_refl, Nat.zero_le, zr_eI, zr_eL, zr_eR, zr_pI, zr_pL, zr_pR, zr_pO, zr_pV, zq_pA0, zq_pA, zr_get, zr_put_n, zr_put, zr_rem_n, zr_rem, zr_cat_i, zr_cat_l, zr_cat_q, zr_w_n, zr_w, zr_args_n, zr_args, zr_tl_s, zr_tl_n, zr_hIsI, zr_hLsL, zr_hRsR, zr_hIsL, zr_hIsR, zr_hLsI, zr_hLsR, zr_hRsI, zr_hRsL, zr_hNsI, zr_hNsL, zr_hNsR, zr_hZsI, zr_hZsL, zr_hZsR, b2_01, Classical.not_not, Int32.toInt_toInt64, Int64.reduceToInt, zc_1000, zc_100, zc_10, zc_9, zc_2, ci_f, hM, ms_15 e, mR_22, aLen_322, aCod_322, ma_22 e, mR_23, aLen_323, aCod_323, ma_23 e, mR_24, aLen_324, aCod_324, ma_24 e, inv.cK.s]
      refine ⟨fun qc3 => ?_, fun qc3 => ?_⟩
      · try simp only [b2_0, Classical.not_not] at qc3
        try simp only [Int64.le_iff_toInt_le, Int64.lt_iff_toInt_lt, Int32.lt_iff_toInt_lt, Int32.le_iff_toInt_le, Int32.toInt_toInt64, Int64.reduceToInt, Int32.reduceToInt, Int.reduceNeg, Classical.not_not, i32e, l_add] at qc3
        refine st b_X12_kind_43 _ _ k_X12_kind_43 _ _ _ _ _ ?_
        simp only [b_X12_kind_43, zr_T, zr_aload_n0, zr_bipush, zr_cP_ne, zr_get0, zr_icmp, zr_iret, zr_rt_a, zr_rt_i, zr_rt_l, zr_rt_n, zr_rt_z, zr_nil, zr_cons, ↓reduceIte, Nat.reduceAdd, Nat.reduceEqDiff, Nat.reduceLeDiff, Nat.reduceMul, Nat.reduceSub, Int32.reduceOfInt, Int64.reduceOfInt, Int64.reduceOfNat, true_and, and_true, false_and, and_false, or_false, false_or, true_or, or_true, Int.reduceEq, reduceCtorEq, or_self, and_self, ne_eq, not_false_eq_true, not_true_eq_false, eq_self, Nat.le_refl, Nat.zero_le, zr_eI, zr_eL, zr_eR, zr_pI, zr_pL, zr_pR, zr_pO, zr_pV, zq_pA0, zq_pA, zr_get, zr_put_n, zr_put, zr_rem_n, zr_rem, zr_cat_i, zr_cat_l, zr_cat_q, zr_w_n, zr_w, zr_args_n, zr_args, zr_tl_s, zr_tl_n, zr_hIsI, zr_hLsL, zr_hRsR, zr_hIsL, zr_hIsR, zr_hLsI, zr_hLsR, zr_hRsI, zr_hRsL, zr_hNsI, zr_hNsL, zr_hNsR, zr_hZsI, zr_hZsL, zr_hZsR, b2_01, Classical.not_not, Int32.toInt_toInt64, Int64.reduceToInt, zc_1000, zc_100, zc_10, zc_9, zc_2, ci_f, hM, ms_15 e, mR_22, aLen_322, aCod_322, ma_22 e, mR_23, aLen_323, aCod_323, ma_23 e, mR_24, aLen_324, aCod_324, ma_24 e, inv.cK.s]
        refine ⟨fun qc4 => ?_, fun qc4 => ?_⟩
        · try simp only [b2_0, Classical.not_not] at qc4
          try simp only [Int64.le_iff_toInt_le, Int64.lt_iff_toInt_lt, Int32.lt_iff_toInt_lt, Int32.le_iff_toInt_le, Int32.toInt_toInt64, Int64.reduceToInt, Int32.reduceToInt, Int.reduceNeg, Classical.not_not, i32e, l_add] at qc4
          refine st b_X12_kind_55 _ _ k_X12_kind_55 _ _ _ _ _ ?_
          simp only [b_X12_kind_55, zr_T, zr_aload_n0, zr_dup, zr_get0, zr_get2, zr_iadd, zr_iast, zr_iconst, zr_iload_n1, zr_iload_n2, zr_iload_n3, zr_iret, zr_isub, zr_put0, zr_rt_a, zr_rt_i, zr_rt_l, zr_rt_n, zr_rt_z, zr_nil, zr_cons, ↓reduceIte, Nat.reduceAdd, Nat.reduceEqDiff, Nat.reduceLeDiff, Nat.reduceMul, Nat.reduceSub, Int32.reduceOfInt, Int64.reduceOfInt, Int64.reduceOfNat, true_and, and_true, false_and, and_false, or_false, false_or, true_or, or_true, Int.reduceEq, reduceCtorEq, or_self, and_self, ne_eq, not_false_eq_true, not_true_eq_false, eq_self, Nat.le_refl, Nat.zero_le, zr_eI, zr_eL, zr_eR, zr_pI, zr_pL, zr_pR, zr_pO, zr_pV, zq_pA0, zq_pA, zr_get, zr_put_n, zr_put, zr_rem_n, zr_rem, zr_cat_i, zr_cat_l, zr_cat_q, zr_w_n, zr_w, zr_args_n, zr_args, zr_tl_s, zr_tl_n, zr_hIsI, zr_hLsL, zr_hRsR, zr_hIsL, zr_hIsR, zr_hLsI, zr_hLsR, zr_hRsI, zr_hRsL, zr_hNsI, zr_hNsL, zr_hNsR, zr_hZsI, zr_hZsL, zr_hZsR, b2_01, Classical.not_not, Int32.toInt_toInt64, Int64.reduceToInt, zc_1000, zc_100, zc_10, zc_9, zc_2, ci_f, hM, ms_15 e, mR_22, aLen_322, aCod_322, ma_22 e, mR_23, aLen_323, aCod_323, ma_23 e, mR_24, aLen_324, aCod_324, ma_24 e, inv.cK.s]
          refine ⟨by first | exact vpi (by omega) | with_reducible exact vp_in_nI (by omega) (by omega), ?_⟩
          refine ⟨by first | exact vpi (by omega) | with_reducible exact vp_in_nI (by omega) (by omega), ?_⟩
          refine ⟨by first | exact vpi (by omega) | with_reducible exact vp_in_nI (by omega) (by omega), ?_⟩
          rw [nI_pred]
          refine qi' ?_ (by repeat (first | exact z_sC.rf | exact hsc | refine z_sC.I ?_ (by decide) | refine z_sC.L ?_ (by decide))) hM'
          simp only [mv_thr, mv_sLs, mv_moved, e, mw_15, mx_22, mx_23, mx_24]
          unfold o_kind
          (repeat' split) <;> (first | rfl | (exfalso; omega))
        · try simp only [b2_0, Classical.not_not] at qc4
          try simp only [Int64.le_iff_toInt_le, Int64.lt_iff_toInt_lt, Int32.lt_iff_toInt_lt, Int32.le_iff_toInt_le, Int32.toInt_toInt64, Int64.reduceToInt, Int32.reduceToInt, Int.reduceNeg, Classical.not_not, i32e, l_add] at qc4
          refine qi' ?_ (by repeat (first | exact z_sC.rf | exact hsc | refine z_sC.I ?_ (by decide) | refine z_sC.L ?_ (by decide))) hM'
          simp only [mv_thr, mv_sLs, mv_moved, e, mw_15, mx_22, mx_23, mx_24]
          unfold o_kind
          (repeat' split) <;> (first | rfl | (exfalso; omega))
      · try simp only [b2_0, Classical.not_not] at qc3
        try simp only [Int64.le_iff_toInt_le, Int64.lt_iff_toInt_lt, Int32.lt_iff_toInt_lt, Int32.le_iff_toInt_le, Int32.toInt_toInt64, Int64.reduceToInt, Int32.reduceToInt, Int.reduceNeg, Classical.not_not, i32e, l_add] at qc3
        refine st b_X12_kind_40 _ _ k_X12_kind_40 _ _ _ _ _ ?_
        simp only [b_X12_kind_40, zr_T, zr_bipush, zr_iret, zr_rt_a, zr_rt_i, zr_rt_l, zr_rt_n, zr_rt_z, zr_nil, zr_cons, ↓reduceIte, Nat.reduceAdd, Nat.reduceEqDiff, Nat.reduceLeDiff, Nat.reduceMul, Nat.reduceSub, Int32.reduceOfInt, Int64.reduceOfInt, Int64.reduceOfNat, true_and, and_true, false_and, and_false, or_false, false_or, true_or, or_true, Int.reduceEq, reduceCtorEq, or_self, and_self, ne_eq, not_false_eq_true, not_true_eq_false, eq_self, Nat.le_refl, Nat.zero_le, zr_eI, zr_eL, zr_eR, zr_pI, zr_pL, zr_pR, zr_pO, zr_pV, zq_pA0, zq_pA, zr_get, zr_put_n, zr_put, zr_rem_n, zr_rem, zr_cat_i, zr_cat_l, zr_cat_q, zr_w_n, zr_w, zr_args_n, zr_args, zr_tl_s, zr_tl_n, zr_hIsI, zr_hLsL, zr_hRsR, zr_hIsL, zr_hIsR, zr_hLsI, zr_hLsR, zr_hRsI, zr_hRsL, zr_hNsI, zr_hNsL, zr_hNsR, zr_hZsI, zr_hZsL, zr_hZsR, b2_01, Classical.not_not, Int32.toInt_toInt64, Int64.reduceToInt, zc_1000, zc_100, zc_10, zc_9, zc_2, ci_f, hM, ms_15 e, mR_22, aLen_322, aCod_322, ma_22 e, mR_23, aLen_323, aCod_323, ma_23 e, mR_24, aLen_324, aCod_324, ma_24 e, inv.cK.s]
        refine qi' ?_ (by repeat (first | exact z_sC.rf | exact hsc | refine z_sC.I ?_ (by decide) | refine z_sC.L ?_ (by decide))) hM'
        simp only [mv_thr, mv_sLs, mv_moved, e, mw_15, mx_22, mx_23, mx_24]
        unfold o_kind
        (repeat' split) <;> (first | rfl | (exfalso; omega))
theorem m_account (l : Launch) (G : z_G) (d : Nat) (hd : 3 ≤ d) (S : z_M) (h : z_H) (e : mv h = S) (hM : z_MR h) (inv : INV S)  : z_MT l G d yX12_account cX12_account 1 (some .int) [z_r 14 0] h 0 0 (Qi h (o_account S)) := by
  have hM' := hM
  unfold z_MR at hM
  have huA : nA S = ci (mS S 16) := rfl
  have htA := inv.cA.t
  have hbA := inv.cA.2
  have hpA : (mS S 16 - 1).toInt = (ci (mS S 16) : Int) - 1 := by
    rw [sub32 (by rw [htA, show (1 : Int32).toInt = 1 from rfl]; omega) (by rw [htA, show (1 : Int32).toInt = 1 from rfl]; omega), htA]
    rfl
  refine z_mt2 14 false ⟨by decide, rfl, fun q => absurd q (by decide)⟩ (by show 1 ≤ 1; decide) (fun A st wk => ?_)
  refine st b_X12_account_0 _ _ k_X12_account_0 _ _ _ _ _ ?_
  simp only [b_X12_account_0, zr_T, zr_aload_n0, zr_bipush, zr_cP_ne, zr_get0, zr_icmp, zr_iconst, zr_iret, zr_put0, zr_rt_a, zr_rt_i, zr_rt_l, zr_rt_n, zr_rt_z, zr_nil, zr_cons, ↓reduceIte, Nat.reduceAdd, Nat.reduceEqDiff, Nat.reduceLeDiff, Nat.reduceMul, Nat.reduceSub, Int32.reduceOfInt, Int64.reduceOfInt, Int64.reduceOfNat, true_and, and_true, false_and, and_false, or_false, false_or, true_or, or_true, Int.reduceEq, reduceCtorEq, or_self, and_self, ne_eq, not_false_eq_true, not_true_eq_false, eq_self, Nat.le_refl, Nat.zero_le, zr_eI, zr_eL, zr_eR, zr_pI, zr_pL, zr_pR, zr_pO, zr_pV, zq_pA0, zq_pA, zr_get, zr_put_n, zr_put, zr_rem_n, zr_rem, zr_cat_i, zr_cat_l, zr_cat_q, zr_w_n, zr_w, zr_args_n, zr_args, zr_tl_s, zr_tl_n, zr_hIsI, zr_hLsL, zr_hRsR, zr_hIsL, zr_hIsR, zr_hLsI, zr_hLsR, zr_hRsI, zr_hRsL, zr_hNsI, zr_hNsL, zr_hNsR, zr_hZsI, zr_hZsL, zr_hZsR, b2_01, Classical.not_not, Int32.toInt_toInt64, Int64.reduceToInt, zc_1000, zc_100, zc_10, zc_9, zc_2, ci_f, hM, ms_16 e, inv.cA.s]
  refine ⟨fun qc1 => ?_, fun qc1 => ?_⟩
  · try simp only [b2_0, Classical.not_not] at qc1
    try simp only [Int64.le_iff_toInt_le, Int64.lt_iff_toInt_lt, Int32.lt_iff_toInt_lt, Int32.le_iff_toInt_le, Int32.toInt_toInt64, Int64.reduceToInt, Int32.reduceToInt, Int.reduceNeg, Classical.not_not, i32e, l_add] at qc1
    refine st b_X12_account_17 _ _ k_X12_account_17 _ _ _ _ _ ?_
    simp only [b_X12_account_17, zr_T, zr_aload_n0, zr_dup, zr_get0, zr_iadd, zr_iconst, zr_iret, zr_isub, zr_put0, zr_rt_a, zr_rt_i, zr_rt_l, zr_rt_n, zr_rt_z, zr_nil, zr_cons, ↓reduceIte, Nat.reduceAdd, Nat.reduceEqDiff, Nat.reduceLeDiff, Nat.reduceMul, Nat.reduceSub, Int32.reduceOfInt, Int64.reduceOfInt, Int64.reduceOfNat, true_and, and_true, false_and, and_false, or_false, false_or, true_or, or_true, Int.reduceEq, reduceCtorEq, or_self, and_self, ne_eq, not_false_eq_true, not_true_eq_false, eq_self, Nat.le_refl, Nat.zero_le, zr_eI, zr_eL, zr_eR, zr_pI, zr_pL, zr_pR, zr_pO, zr_pV, zq_pA0, zq_pA, zr_get, zr_put_n, zr_put, zr_rem_n, zr_rem, zr_cat_i, zr_cat_l, zr_cat_q, zr_w_n, zr_w, zr_args_n, zr_args, zr_tl_s, zr_tl_n, zr_hIsI, zr_hLsL, zr_hRsR, zr_hIsL, zr_hIsR, zr_hLsI, zr_hLsR, zr_hRsI, zr_hRsL, zr_hNsI, zr_hNsL, zr_hNsR, zr_hZsI, zr_hZsL, zr_hZsR, b2_01, Classical.not_not, Int32.toInt_toInt64, Int64.reduceToInt, zc_1000, zc_100, zc_10, zc_9, zc_2, ci_f, hM, ms_16 e, inv.cA.s]
    try rw [nI_pred]
    refine qi' ?_ (by repeat (first | exact z_sC.rf | exact hsc | refine z_sC.I ?_ (by decide) | refine z_sC.L ?_ (by decide))) hM'
    simp only [mv_thr, mv_sLs, mv_moved, e, mw_16]
    unfold o_account
    (repeat' split) <;> (first | rfl | (exfalso; omega))
  · try simp only [b2_0, Classical.not_not] at qc1
    try simp only [Int64.le_iff_toInt_le, Int64.lt_iff_toInt_lt, Int32.lt_iff_toInt_lt, Int32.le_iff_toInt_le, Int32.toInt_toInt64, Int64.reduceToInt, Int32.reduceToInt, Int.reduceNeg, Classical.not_not, i32e, l_add] at qc1
    try rw [nI_pred]
    refine qi' ?_ (by repeat (first | exact z_sC.rf | exact hsc | refine z_sC.I ?_ (by decide) | refine z_sC.L ?_ (by decide))) hM'
    simp only [mv_thr, mv_sLs, mv_moved, e, mw_16]
    unfold o_account
    (repeat' split) <;> (first | rfl | (exfalso; omega))
theorem m_attorney (l : Launch) (G : z_G) (d : Nat) (hd : 3 ≤ d) (S : z_M) (h : z_H) (e : mv h = S) (hM : z_MR h) (inv : INV S) (a p t : Int32) : z_MT l G d yX12_attorney cX12_attorney 4 (some .int) [z_r 14 0, z_i a, z_i p, z_i t] h 0 0 (Qi h (o_attorney S a p t)) := by
  have hM' := hM
  unfold z_MR at hM
  have huA : nA S = ci (mS S 16) := rfl
  have htA := inv.cA.t
  have hbA := inv.cA.2
  have hpA : (mS S 16 - 1).toInt = (ci (mS S 16) : Int) - 1 := by
    rw [sub32 (by rw [htA, show (1 : Int32).toInt = 1 from rfl]; omega) (by rw [htA, show (1 : Int32).toInt = 1 from rfl]; omega), htA]
    rfl
  refine z_mt2 14 false ⟨by decide, rfl, fun q => absurd q (by decide)⟩ (by show 4 ≤ 4; decide) (fun A st wk => ?_)
  refine st b_X12_attorney_0 _ _ k_X12_attorney_0 _ _ _ _ _ ?_
  simp only [b_X12_attorney_0, zr_aload_n0, zr_cP_eq, zr_cP_ne, zr_call0, zr_call1, zr_i2l, zr_iconst, zr_ifc, zr_iload_n1, zr_iload_n2, zr_iload_n3, zr_lconst0, zr_ldc2, zr_put0, zr_nil, zr_cons, ↓reduceIte, Nat.reduceAdd, Nat.reduceEqDiff, Nat.reduceLeDiff, Nat.reduceMul, Nat.reduceSub, Int32.reduceOfInt, Int64.reduceOfInt, Int64.reduceOfNat, true_and, and_true, false_and, and_false, or_false, false_or, true_or, or_true, Int.reduceEq, reduceCtorEq, or_self, and_self, ne_eq, not_false_eq_true, not_true_eq_false, eq_self, Nat.le_refl, Nat.zero_le, zr_eI, zr_eL, zr_eR, zr_pI, zr_pL, zr_pR, zr_pO, zr_pV, zq_pA0, zq_pA, zr_get, zr_put_n, zr_put, zr_rem_n, zr_rem, zr_cat_i, zr_cat_l, zr_cat_q, zr_w_n, zr_w, zr_args_n, zr_args, zr_tl_s, zr_tl_n, zr_hIsI, zr_hLsL, zr_hRsR, zr_hIsL, zr_hIsR, zr_hLsI, zr_hLsR, zr_hRsI, zr_hRsL, zr_hNsI, zr_hNsL, zr_hNsR, zr_hZsI, zr_hZsL, zr_hZsR, b2_01, Classical.not_not, Int32.toInt_toInt64, Int64.reduceToInt, zc_1000, zc_100, zc_10, zc_9, zc_2, ci_f, hM, mR_28, aLen_328, aCod_328, ma_28 e, mR_29, aLen_329, aCod_329, ma_29 e]
  refine cp0 (by omega) lk_X12_205 (rc_14 rfl) (m_isAccount l G _ (by omega) S _ (by simp only [mv_thr, e]) (z_MR.I hM') inv _) (Nat.le_refl _) (Nat.le_refl _) ?_
  simp only [zr_cP_eq, zr_cP_ne, zr_call1, zr_i2l, zr_ifc, zr_iload_n2, zr_iload_n3, zr_lconst0, zr_ldc2, zr_nil, zr_cons, ↓reduceIte, Nat.reduceAdd, Nat.reduceEqDiff, Nat.reduceLeDiff, Nat.reduceMul, Nat.reduceSub, Int32.reduceOfInt, Int64.reduceOfInt, Int64.reduceOfNat, true_and, and_true, false_and, and_false, or_false, false_or, true_or, or_true, Int.reduceEq, reduceCtorEq, or_self, and_self, ne_eq, not_false_eq_true, not_true_eq_false, eq_self, Nat.le_refl, Nat.zero_le, zr_eI, zr_eL, zr_eR, zr_pI, zr_pL, zr_pR, zr_pO, zr_pV, zq_pA0, zq_pA, zr_get, zr_put_n, zr_put, zr_rem_n, zr_rem, zr_cat_i, zr_cat_l, zr_cat_q, zr_w_n, zr_w, zr_args_n, zr_args, zr_tl_s, zr_tl_n, zr_hIsI, zr_hLsL, zr_hRsR, zr_hIsL, zr_hIsR, zr_hLsI, zr_hLsR, zr_hRsI, zr_hRsL, zr_hNsI, zr_hNsL, zr_hNsR, zr_hZsI, zr_hZsL, zr_hZsR, b2_01, Classical.not_not, Int32.toInt_toInt64, Int64.reduceToInt, zc_1000, zc_100, zc_10, zc_9, zc_2, ci_f, hM, mR_28, aLen_328, aCod_328, ma_28 e, mR_29, aLen_329, aCod_329, ma_29 e]
  refine ⟨fun qc1 => ?_, fun qc1 => ?_⟩
  · try simp only [b2_0, Classical.not_not] at qc1
    try simp only [Int64.le_iff_toInt_le, Int64.lt_iff_toInt_lt, Int32.lt_iff_toInt_lt, Int32.le_iff_toInt_le, Int32.toInt_toInt64, Int64.reduceToInt, Int32.reduceToInt, Int.reduceNeg, Classical.not_not, i32e, l_add] at qc1
    refine st b_X12_attorney_37 _ _ k_X12_attorney_37 _ _ _ _ _ ?_
    simp only [b_X12_attorney_37, zr_T, zr_bipush, zr_iret, zr_rt_a, zr_rt_i, zr_rt_l, zr_rt_n, zr_rt_z, zr_nil, zr_cons, ↓reduceIte, Nat.reduceAdd, Nat.reduceEqDiff, Nat.reduceLeDiff, Nat.reduceMul, Nat.reduceSub, Int32.reduceOfInt, Int64.reduceOfInt, Int64.reduceOfNat, true_and, and_true, false_and, and_false, or_false, false_or, true_or, or_true, Int.reduceEq, reduceCtorEq, or_self, and_self, ne_eq, not_false_eq_true, not_true_eq_false, eq_self, Nat.le_refl, Nat.zero_le, zr_eI, zr_eL, zr_eR, zr_pI, zr_pL, zr_pR, zr_pO, zr_pV, zq_pA0, zq_pA, zr_get, zr_put_n, zr_put, zr_rem_n, zr_rem, zr_cat_i, zr_cat_l, zr_cat_q, zr_w_n, zr_w, zr_args_n, zr_args, zr_tl_s, zr_tl_n, zr_hIsI, zr_hLsL, zr_hRsR, zr_hIsL, zr_hIsR, zr_hLsI, zr_hLsR, zr_hRsI, zr_hRsL, zr_hNsI, zr_hNsL, zr_hNsR, zr_hZsI, zr_hZsL, zr_hZsR, b2_01, Classical.not_not, Int32.toInt_toInt64, Int64.reduceToInt, zc_1000, zc_100, zc_10, zc_9, zc_2, ci_f, hM, mR_28, aLen_328, aCod_328, ma_28 e, mR_29, aLen_329, aCod_329, ma_29 e]
    refine qi' ?_ (by repeat (first | exact z_sC.rf | exact hsc | refine z_sC.I ?_ (by decide) | refine z_sC.L ?_ (by decide))) hM'
    simp only [mv_thr, mv_sLs, mv_moved, e, mx_28, mx_29]
    unfold o_attorney
    (repeat' split) <;> (first | rfl | (exfalso; omega))
  · try simp only [b2_0, Classical.not_not] at qc1
    try simp only [Int64.le_iff_toInt_le, Int64.lt_iff_toInt_lt, Int32.lt_iff_toInt_lt, Int32.le_iff_toInt_le, Int32.toInt_toInt64, Int64.reduceToInt, Int32.reduceToInt, Int.reduceNeg, Classical.not_not, i32e, l_add] at qc1
    refine cp0 (by omega) lk_X12_177 trivial (m_in l G _ _ _ _ _) (Nat.le_refl _) (Nat.le_refl _) ?_
    simp only [zr_cP_eq, zr_cP_ne, zr_call1, zr_i2l, zr_ifc, zr_iload_n3, zr_lconst0, zr_ldc2, zr_nil, zr_cons, ↓reduceIte, Nat.reduceAdd, Nat.reduceEqDiff, Nat.reduceLeDiff, Nat.reduceMul, Nat.reduceSub, Int32.reduceOfInt, Int64.reduceOfInt, Int64.reduceOfNat, true_and, and_true, false_and, and_false, or_false, false_or, true_or, or_true, Int.reduceEq, reduceCtorEq, or_self, and_self, ne_eq, not_false_eq_true, not_true_eq_false, eq_self, Nat.le_refl, Nat.zero_le, zr_eI, zr_eL, zr_eR, zr_pI, zr_pL, zr_pR, zr_pO, zr_pV, zq_pA0, zq_pA, zr_get, zr_put_n, zr_put, zr_rem_n, zr_rem, zr_cat_i, zr_cat_l, zr_cat_q, zr_w_n, zr_w, zr_args_n, zr_args, zr_tl_s, zr_tl_n, zr_hIsI, zr_hLsL, zr_hRsR, zr_hIsL, zr_hIsR, zr_hLsI, zr_hLsR, zr_hRsI, zr_hRsL, zr_hNsI, zr_hNsL, zr_hNsR, zr_hZsI, zr_hZsL, zr_hZsR, b2_01, Classical.not_not, Int32.toInt_toInt64, Int64.reduceToInt, zc_1000, zc_100, zc_10, zc_9, zc_2, ci_f, hM, mR_28, aLen_328, aCod_328, ma_28 e, mR_29, aLen_329, aCod_329, ma_29 e]
    refine ⟨fun qc2 => ?_, fun qc2 => ?_⟩
    · try simp only [b2_0, Classical.not_not] at qc2
      try simp only [Int64.le_iff_toInt_le, Int64.lt_iff_toInt_lt, Int32.lt_iff_toInt_lt, Int32.le_iff_toInt_le, Int32.toInt_toInt64, Int64.reduceToInt, Int32.reduceToInt, Int.reduceNeg, Classical.not_not, i32e, l_add] at qc2
      refine st b_X12_attorney_37 _ _ k_X12_attorney_37 _ _ _ _ _ ?_
      simp only [b_X12_attorney_37, zr_T, zr_bipush, zr_iret, zr_rt_a, zr_rt_i, zr_rt_l, zr_rt_n, zr_rt_z, zr_nil, zr_cons, ↓reduceIte, Nat.reduceAdd, Nat.reduceEqDiff, Nat.reduceLeDiff, Nat.reduceMul, Nat.reduceSub, Int32.reduceOfInt, Int64.reduceOfInt, Int64.reduceOfNat, true_and, and_true, false_and, and_false, or_false, false_or, true_or, or_true, Int.reduceEq, reduceCtorEq, or_self, and_self, ne_eq, not_false_eq_true, not_true_eq_false, eq_self, Nat.le_refl, Nat.zero_le, zr_eI, zr_eL, zr_eR, zr_pI, zr_pL, zr_pR, zr_pO, zr_pV, zq_pA0, zq_pA, zr_get, zr_put_n, zr_put, zr_rem_n, zr_rem, zr_cat_i, zr_cat_l, zr_cat_q, zr_w_n, zr_w, zr_args_n, zr_args, zr_tl_s, zr_tl_n, zr_hIsI, zr_hLsL, zr_hRsR, zr_hIsL, zr_hIsR, zr_hLsI, zr_hLsR, zr_hRsI, zr_hRsL, zr_hNsI, zr_hNsL, zr_hNsR, zr_hZsI, zr_hZsL, zr_hZsR, b2_01, Classical.not_not, Int32.toInt_toInt64, Int64.reduceToInt, zc_1000, zc_100, zc_10, zc_9, zc_2, ci_f, hM, mR_28, aLen_328, aCod_328, ma_28 e, mR_29, aLen_329, aCod_329, ma_29 e]
      refine qi' ?_ (by repeat (first | exact z_sC.rf | exact hsc | refine z_sC.I ?_ (by decide) | refine z_sC.L ?_ (by decide))) hM'
      simp only [mv_thr, mv_sLs, mv_moved, e, mx_28, mx_29]
      unfold o_attorney
      (repeat' split) <;> (first | rfl | (exfalso; omega))
    · try simp only [b2_0, Classical.not_not] at qc2
      try simp only [Int64.le_iff_toInt_le, Int64.lt_iff_toInt_lt, Int32.lt_iff_toInt_lt, Int32.le_iff_toInt_le, Int32.toInt_toInt64, Int64.reduceToInt, Int32.reduceToInt, Int.reduceNeg, Classical.not_not, i32e, l_add] at qc2
      refine cp0 (by omega) lk_X12_177 trivial (m_in l G _ _ _ _ _) (Nat.le_refl _) (Nat.le_refl _) ?_
      simp only [zr_cP_ne, zr_ifc, zr_nil, zr_cons, ↓reduceIte, Nat.reduceAdd, Nat.reduceEqDiff, Nat.reduceLeDiff, Nat.reduceMul, Nat.reduceSub, Int32.reduceOfInt, Int64.reduceOfInt, Int64.reduceOfNat, true_and, and_true, false_and, and_false, or_false, false_or, true_or, or_true, Int.reduceEq, reduceCtorEq, or_self, and_self, ne_eq, not_false_eq_true, not_true_eq_false, eq_self, Nat.le_refl, Nat.zero_le, zr_eI, zr_eL, zr_eR, zr_pI, zr_pL, zr_pR, zr_pO, zr_pV, zq_pA0, zq_pA, zr_get, zr_put_n, zr_put, zr_rem_n, zr_rem, zr_cat_i, zr_cat_l, zr_cat_q, zr_w_n, zr_w, zr_args_n, zr_args, zr_tl_s, zr_tl_n, zr_hIsI, zr_hLsL, zr_hRsR, zr_hIsL, zr_hIsR, zr_hLsI, zr_hLsR, zr_hRsI, zr_hRsL, zr_hNsI, zr_hNsL, zr_hNsR, zr_hZsI, zr_hZsL, zr_hZsR, b2_01, Classical.not_not, Int32.toInt_toInt64, Int64.reduceToInt, zc_1000, zc_100, zc_10, zc_9, zc_2, ci_f, hM, mR_28, aLen_328, aCod_328, ma_28 e, mR_29, aLen_329, aCod_329, ma_29 e]
      refine ⟨fun qc3 => ?_, fun qc3 => ?_⟩
      · try simp only [b2_0, Classical.not_not] at qc3
        try simp only [Int64.le_iff_toInt_le, Int64.lt_iff_toInt_lt, Int32.lt_iff_toInt_lt, Int32.le_iff_toInt_le, Int32.toInt_toInt64, Int64.reduceToInt, Int32.reduceToInt, Int.reduceNeg, Classical.not_not, i32e, l_add] at qc3
        refine st b_X12_attorney_40 _ _ k_X12_attorney_40 _ _ _ _ _ ?_
        simp only [b_X12_attorney_40, zr_T, zr_aload_n0, zr_get2, zr_iast, zr_iconst, zr_iload_n1, zr_iload_n2, zr_iload_n3, zr_iret, zr_rt_a, zr_rt_i, zr_rt_l, zr_rt_n, zr_rt_z, zr_nil, zr_cons, ↓reduceIte, Nat.reduceAdd, Nat.reduceEqDiff, Nat.reduceLeDiff, Nat.reduceMul, Nat.reduceSub, Int32.reduceOfInt, Int64.reduceOfInt, Int64.reduceOfNat, true_and, and_true, false_and, and_false, or_false, false_or, true_or, or_true, Int.reduceEq, reduceCtorEq, or_self, and_self, ne_eq, not_false_eq_true, not_true_eq_false, eq_self, Nat.le_refl, Nat.zero_le, zr_eI, zr_eL, zr_eR, zr_pI, zr_pL, zr_pR, zr_pO, zr_pV, zq_pA0, zq_pA, zr_get, zr_put_n, zr_put, zr_rem_n, zr_rem, zr_cat_i, zr_cat_l, zr_cat_q, zr_w_n, zr_w, zr_args_n, zr_args, zr_tl_s, zr_tl_n, zr_hIsI, zr_hLsL, zr_hRsR, zr_hIsL, zr_hIsR, zr_hLsI, zr_hLsR, zr_hRsI, zr_hRsL, zr_hNsI, zr_hNsL, zr_hNsR, zr_hZsI, zr_hZsL, zr_hZsR, b2_01, Classical.not_not, Int32.toInt_toInt64, Int64.reduceToInt, zc_1000, zc_100, zc_10, zc_9, zc_2, ci_f, hM, mR_28, aLen_328, aCod_328, ma_28 e, mR_29, aLen_329, aCod_329, ma_29 e]
        refine ⟨by first | exact vpi (by omega) | with_reducible exact vp_in_nI (by omega) (by omega), ?_⟩
        refine ⟨by first | exact vpi (by omega) | with_reducible exact vp_in_nI (by omega) (by omega), ?_⟩
        refine qi' ?_ (by repeat (first | exact z_sC.rf | exact hsc | refine z_sC.I ?_ (by decide) | refine z_sC.L ?_ (by decide))) hM'
        simp only [mv_thr, mv_sLs, mv_moved, e, mx_28, mx_29]
        unfold o_attorney
        (repeat' split) <;> (first | rfl | (exfalso; omega))
      · try simp only [b2_0, Classical.not_not] at qc3
        try simp only [Int64.le_iff_toInt_le, Int64.lt_iff_toInt_lt, Int32.lt_iff_toInt_lt, Int32.le_iff_toInt_le, Int32.toInt_toInt64, Int64.reduceToInt, Int32.reduceToInt, Int.reduceNeg, Classical.not_not, i32e, l_add] at qc3
        refine st b_X12_attorney_37 _ _ k_X12_attorney_37 _ _ _ _ _ ?_
        simp only [b_X12_attorney_37, zr_T, zr_bipush, zr_iret, zr_rt_a, zr_rt_i, zr_rt_l, zr_rt_n, zr_rt_z, zr_nil, zr_cons, ↓reduceIte, Nat.reduceAdd, Nat.reduceEqDiff, Nat.reduceLeDiff, Nat.reduceMul, Nat.reduceSub, Int32.reduceOfInt, Int64.reduceOfInt, Int64.reduceOfNat, true_and, and_true, false_and, and_false, or_false, false_or, true_or, or_true, Int.reduceEq, reduceCtorEq, or_self, and_self, ne_eq, not_false_eq_true, not_true_eq_false, eq_self, Nat.le_refl, Nat.zero_le, zr_eI, zr_eL, zr_eR, zr_pI, zr_pL, zr_pR, zr_pO, zr_pV, zq_pA0, zq_pA, zr_get, zr_put_n, zr_put, zr_rem_n, zr_rem, zr_cat_i, zr_cat_l, zr_cat_q, zr_w_n, zr_w, zr_args_n, zr_args, zr_tl_s, zr_tl_n, zr_hIsI, zr_hLsL, zr_hRsR, zr_hIsL, zr_hIsR, zr_hLsI, zr_hLsR, zr_hRsI, zr_hRsL, zr_hNsI, zr_hNsL, zr_hNsR, zr_hZsI, zr_hZsL, zr_hZsR, b2_01, Classical.not_not, Int32.toInt_toInt64, Int64.reduceToInt, zc_1000, zc_100, zc_10, zc_9, zc_2, ci_f, hM, mR_28, aLen_328, aCod_328, ma_28 e, mR_29, aLen_329, aCod_329, ma_29 e]
        refine qi' ?_ (by repeat (first | exact z_sC.rf | exact hsc | refine z_sC.I ?_ (by decide) | refine z_sC.L ?_ (by decide))) hM'
        simp only [mv_thr, mv_sLs, mv_moved, e, mx_28, mx_29]
        unfold o_attorney
        (repeat' split) <;> (first | rfl | (exfalso; omega))
theorem m_room (l : Launch) (G : z_G) (d : Nat) (S : z_M) (h : z_H) (e : mv h = S) (hM : z_MR h) (inv : INV S) : z_MT l G d yX12_room cX12_room 3 (some .int) [z_r 14 0] h 0 0 (fun r h' => r = some (z_i (nI (o_rm S))) ∧ h' = h) := by
  have hM' := hM
  unfold z_MR at hM
  have huO : nO S = ci (mS S 18) := rfl
  have htO := inv.cO.t
  have hbO := inv.cO.2
  have hpO : (mS S 18 - 1).toInt = (ci (mS S 18) : Int) - 1 := by
    rw [sub32 (by rw [htO, show (1 : Int32).toInt = 1 from rfl]; omega) (by rw [htO, show (1 : Int32).toInt = 1 from rfl]; omega), htO]
    rfl
  have huL : nL S = ci (mS S 19) := rfl
  have htL := inv.cL.t
  have hbL := inv.cL.2
  have hpL : (mS S 19 - 1).toInt = (ci (mS S 19) : Int) - 1 := by
    rw [sub32 (by rw [htL, show (1 : Int32).toInt = 1 from rfl]; omega) (by rw [htL, show (1 : Int32).toInt = 1 from rfl]; omega), htL]
    rfl
  have rm0 : 2000 - mS S 19 = nI (2000 - nL S - 3 * o_wt (mA S 42) 0) := by
    rw [show (2000 : Int32) = nI 2000 from rfl, inv.cL.1, nI_sub (by omega)]
    rfl
  refine z_mt2 14 false ⟨by decide, rfl, fun q => absurd q (by decide)⟩ (by show 1 ≤ 3; decide) (fun A st wk => ?_)
  refine st b_X12_room_0 _ _ k_X12_room_0 _ _ _ _ _ ?_
  simp only [b_X12_room_0, zr_aload_n0, zr_get0, zr_iconst, zr_istore_n1, zr_istore_n2, zr_isub, zr_sipush, zr_nil, zr_cons, ↓reduceIte, Nat.reduceAdd, Nat.reduceEqDiff, Nat.reduceLeDiff, Nat.reduceMul, Nat.reduceSub, Int32.reduceOfInt, Int64.reduceOfInt, Int64.reduceOfNat, true_and, and_true, false_and, and_false, or_false, false_or, true_or, or_true, Int.reduceEq, reduceCtorEq, or_self, and_self, ne_eq, not_false_eq_true, not_true_eq_false, eq_self, Nat.le_refl, Nat.zero_le, zr_eI, zr_eL, zr_eR, zr_pI, zr_pL, zr_pR, zr_pO, zr_pV, zq_pA0, zq_pA, zr_get, zr_put_n, zr_put, zr_rem_n, zr_rem, zr_cat_i, zr_cat_l, zr_cat_q, zr_w_n, zr_w, zr_args_n, zr_args, zr_tl_s, zr_tl_n, zr_hIsI, zr_hLsL, zr_hRsR, zr_hIsL, zr_hIsR, zr_hLsI, zr_hLsR, zr_hRsI, zr_hRsL, zr_hNsI, zr_hNsL, zr_hNsR, zr_hZsI, zr_hZsL, zr_hZsR, b2_01, Classical.not_not, Int32.toInt_toInt64, Int64.reduceToInt, zc_1000, zc_100, zc_10, zc_9, zc_2, ci_f, hM, ms_18 e, ms_19 e, mR_42, aLen_342, aCod_342, ma_42 e, rm0]
  refine (show ∀ i, i ≤ nO S → A 11 [(0, z_r 14 0), (1, z_i (nI (2000 - nL S - 3 * o_wt (mA S 42) i))), (2, z_i (nI i))] [] h 0 0 from z_loop (fun i hi ih => ?_)) 0 (Nat.zero_le _)
  have ti := toIntS (show i < 2000000000 by omega)
  have ki := nI_clampS (show i < 2000000000 by omega)
  have w1 := o_wt_le (w := mA S 42) hi
  have w2 := inv.rm
  refine st b_X12_room_11 _ _ k_X12_room_11 _ _ _ _ _ ?_
  simp only [b_X12_room_11, zr_aload_n0, zr_cP_ge, zr_cP_ne, zr_get0, zr_get2, zr_goto, zr_iald, zr_icmp, zr_iconst, zr_ifc, zr_iload_n1, zr_iload_n2, zr_nil, zr_cons, ↓reduceIte, Nat.reduceAdd, Nat.reduceEqDiff, Nat.reduceLeDiff, Nat.reduceMul, Nat.reduceSub, Int32.reduceOfInt, Int64.reduceOfInt, Int64.reduceOfNat, true_and, and_true, false_and, and_false, or_false, false_or, true_or, or_true, Int.reduceEq, reduceCtorEq, or_self, and_self, ne_eq, not_false_eq_true, not_true_eq_false, eq_self, Nat.le_refl, Nat.zero_le, zr_eI, zr_eL, zr_eR, zr_pI, zr_pL, zr_pR, zr_pO, zr_pV, zq_pA0, zq_pA, zr_get, zr_put_n, zr_put, zr_rem_n, zr_rem, zr_cat_i, zr_cat_l, zr_cat_q, zr_w_n, zr_w, zr_args_n, zr_args, zr_tl_s, zr_tl_n, zr_hIsI, zr_hLsL, zr_hRsR, zr_hIsL, zr_hIsR, zr_hLsI, zr_hLsR, zr_hRsI, zr_hRsL, zr_hNsI, zr_hNsL, zr_hNsR, zr_hZsI, zr_hZsL, zr_hZsR, b2_01, Classical.not_not, Int32.toInt_toInt64, Int64.reduceToInt, zc_1000, zc_100, zc_10, zc_9, zc_2, ci_f, hM, ms_18 e, ms_19 e, mR_42, aLen_342, aCod_342, ma_42 e, rm0, ki]
  refine ⟨fun qc21 => ?_, fun qc21 => ?_⟩
  · try simp only [b2_0, Classical.not_not] at qc21
    try simp only [Int64.le_iff_toInt_le, Int64.lt_iff_toInt_lt, Int32.lt_iff_toInt_lt, Int32.le_iff_toInt_le, Int32.toInt_toInt64, Int64.reduceToInt, Int32.reduceToInt, Int.reduceNeg, Classical.not_not, i32e, l_add] at qc21
    refine st b_X12_room_42 _ _ k_X12_room_42 _ _ _ _ _ ?_
    simp only [b_X12_room_42, zr_T, zr_iload_n1, zr_iret, zr_rt_a, zr_rt_i, zr_rt_l, zr_rt_n, zr_rt_z, zr_nil, zr_cons, ↓reduceIte, Nat.reduceAdd, Nat.reduceEqDiff, Nat.reduceLeDiff, Nat.reduceMul, Nat.reduceSub, Int32.reduceOfInt, Int64.reduceOfInt, Int64.reduceOfNat, true_and, and_true, false_and, and_false, or_false, false_or, true_or, or_true, Int.reduceEq, reduceCtorEq, or_self, and_self, ne_eq, not_false_eq_true, not_true_eq_false, eq_self, Nat.le_refl, Nat.zero_le, zr_eI, zr_eL, zr_eR, zr_pI, zr_pL, zr_pR, zr_pO, zr_pV, zq_pA0, zq_pA, zr_get, zr_put_n, zr_put, zr_rem_n, zr_rem, zr_cat_i, zr_cat_l, zr_cat_q, zr_w_n, zr_w, zr_args_n, zr_args, zr_tl_s, zr_tl_n, zr_hIsI, zr_hLsL, zr_hRsR, zr_hIsL, zr_hIsR, zr_hLsI, zr_hLsR, zr_hRsI, zr_hRsL, zr_hNsI, zr_hNsL, zr_hNsR, zr_hZsI, zr_hZsL, zr_hZsR, b2_01, Classical.not_not, Int32.toInt_toInt64, Int64.reduceToInt, zc_1000, zc_100, zc_10, zc_9, zc_2, ci_f, hM, ms_18 e, ms_19 e, mR_42, aLen_342, aCod_342, ma_42 e, rm0, ki]
    have ei : i = nO S := by omega
    subst ei
    rfl
  · try simp only [b2_0, Classical.not_not] at qc21
    try simp only [Int64.le_iff_toInt_le, Int64.lt_iff_toInt_lt, Int32.lt_iff_toInt_lt, Int32.le_iff_toInt_le, Int32.toInt_toInt64, Int64.reduceToInt, Int32.reduceToInt, Int.reduceNeg, Classical.not_not, i32e, l_add] at qc21
    refine ⟨by first | exact vpi (by omega) | with_reducible exact vp_in_nI (by omega) (by omega), ?_⟩
    refine ⟨fun qc22 => ?_, fun qc22 => ?_⟩
    · try simp only [b2_0, Classical.not_not] at qc22
      try simp only [Int64.le_iff_toInt_le, Int64.lt_iff_toInt_lt, Int32.lt_iff_toInt_lt, Int32.le_iff_toInt_le, Int32.toInt_toInt64, Int64.reduceToInt, Int32.reduceToInt, Int.reduceNeg, Classical.not_not, i32e, l_add] at qc22
      refine st b_X12_room_33 _ _ k_X12_room_33 _ _ _ _ _ ?_
      simp only [b_X12_room_33, zr_iconst, zr_nil, zr_cons, ↓reduceIte, Nat.reduceAdd, Nat.reduceEqDiff, Nat.reduceLeDiff, Nat.reduceMul, Nat.reduceSub, Int32.reduceOfInt, Int64.reduceOfInt, Int64.reduceOfNat, true_and, and_true, false_and, and_false, or_false, false_or, true_or, or_true, Int.reduceEq, reduceCtorEq, or_self, and_self, ne_eq, not_false_eq_true, not_true_eq_false, eq_self, Nat.le_refl, Nat.zero_le, zr_eI, zr_eL, zr_eR, zr_pI, zr_pL, zr_pR, zr_pO, zr_pV, zq_pA0, zq_pA, zr_get, zr_put_n, zr_put, zr_rem_n, zr_rem, zr_cat_i, zr_cat_l, zr_cat_q, zr_w_n, zr_w, zr_args_n, zr_args, zr_tl_s, zr_tl_n, zr_hIsI, zr_hLsL, zr_hRsR, zr_hIsL, zr_hIsR, zr_hLsI, zr_hLsR, zr_hRsI, zr_hRsL, zr_hNsI, zr_hNsL, zr_hNsR, zr_hZsI, zr_hZsL, zr_hZsR, b2_01, Classical.not_not, Int32.toInt_toInt64, Int64.reduceToInt, zc_1000, zc_100, zc_10, zc_9, zc_2, ci_f, hM, ms_18 e, ms_19 e, mR_42, aLen_342, aCod_342, ma_42 e, rm0, ki]
      refine st b_X12_room_34 _ _ k_X12_room_34 _ _ _ _ _ ?_
      simp only [b_X12_room_34, zr_goto, zr_iinc, zr_istore_n1, zr_isub, zr_nil, zr_cons, ↓reduceIte, Nat.reduceAdd, Nat.reduceEqDiff, Nat.reduceLeDiff, Nat.reduceMul, Nat.reduceSub, Int32.reduceOfInt, Int64.reduceOfInt, Int64.reduceOfNat, true_and, and_true, false_and, and_false, or_false, false_or, true_or, or_true, Int.reduceEq, reduceCtorEq, or_self, and_self, ne_eq, not_false_eq_true, not_true_eq_false, eq_self, Nat.le_refl, Nat.zero_le, zr_eI, zr_eL, zr_eR, zr_pI, zr_pL, zr_pR, zr_pO, zr_pV, zq_pA0, zq_pA, zr_get, zr_put_n, zr_put, zr_rem_n, zr_rem, zr_cat_i, zr_cat_l, zr_cat_q, zr_w_n, zr_w, zr_args_n, zr_args, zr_tl_s, zr_tl_n, zr_hIsI, zr_hLsL, zr_hRsR, zr_hIsL, zr_hIsR, zr_hLsI, zr_hLsR, zr_hRsI, zr_hRsL, zr_hNsI, zr_hNsL, zr_hNsR, zr_hZsI, zr_hZsL, zr_hZsR, b2_01, Classical.not_not, Int32.toInt_toInt64, Int64.reduceToInt, zc_1000, zc_100, zc_10, zc_9, zc_2, ci_f, hM, ms_18 e, ms_19 e, mR_42, aLen_342, aCod_342, ma_42 e, rm0, ki]
      first
        | (exfalso; omega)
        | (have ih' := ih (by omega)
           have w3 := o_wt_le (w := mA S 42) (show i + 1 ≤ nO S by omega)
           have e1 : o_wt (mA S 42) (i + 1) = o_wt (mA S 42) i + 0 := by
             show o_wt _ i + (if _ then 1 else 0) = _
             rw [if_neg (by omega)]
           rw [e1] at ih' w3
           rw [nI_1, show nI (2000 - nL S - 3 * o_wt (mA S 42) i) - 0 = nI (2000 - nL S - 3 * (o_wt (mA S 42) i + 0)) from by
             rw [show (0 : Int32) = nI 0 from rfl, nI_sub (by omega)]
             exact congrArg nI (by omega)]
           exact ih')
        | (have ih' := ih (by omega)
           have w3 := o_wt_le (w := mA S 42) (show i + 1 ≤ nO S by omega)
           have e1 : o_wt (mA S 42) (i + 1) = o_wt (mA S 42) i + 1 := by
             show o_wt _ i + (if _ then 1 else 0) = _
             rw [if_pos (by omega)]
           rw [e1] at ih' w3
           rw [nI_1, show nI (2000 - nL S - 3 * o_wt (mA S 42) i) - 3 = nI (2000 - nL S - 3 * (o_wt (mA S 42) i + 1)) from by
             rw [show (3 : Int32) = nI 3 from rfl, nI_sub (by omega)]
             exact congrArg nI (by omega)]
           exact ih')
    · try simp only [b2_0, Classical.not_not] at qc22
      try simp only [Int64.le_iff_toInt_le, Int64.lt_iff_toInt_lt, Int32.lt_iff_toInt_lt, Int32.le_iff_toInt_le, Int32.toInt_toInt64, Int64.reduceToInt, Int32.reduceToInt, Int.reduceNeg, Classical.not_not, i32e, l_add] at qc22
      refine st b_X12_room_34 _ _ k_X12_room_34 _ _ _ _ _ ?_
      simp only [b_X12_room_34, zr_goto, zr_iinc, zr_istore_n1, zr_isub, zr_nil, zr_cons, ↓reduceIte, Nat.reduceAdd, Nat.reduceEqDiff, Nat.reduceLeDiff, Nat.reduceMul, Nat.reduceSub, Int32.reduceOfInt, Int64.reduceOfInt, Int64.reduceOfNat, true_and, and_true, false_and, and_false, or_false, false_or, true_or, or_true, Int.reduceEq, reduceCtorEq, or_self, and_self, ne_eq, not_false_eq_true, not_true_eq_false, eq_self, Nat.le_refl, Nat.zero_le, zr_eI, zr_eL, zr_eR, zr_pI, zr_pL, zr_pR, zr_pO, zr_pV, zq_pA0, zq_pA, zr_get, zr_put_n, zr_put, zr_rem_n, zr_rem, zr_cat_i, zr_cat_l, zr_cat_q, zr_w_n, zr_w, zr_args_n, zr_args, zr_tl_s, zr_tl_n, zr_hIsI, zr_hLsL, zr_hRsR, zr_hIsL, zr_hIsR, zr_hLsI, zr_hLsR, zr_hRsI, zr_hRsL, zr_hNsI, zr_hNsL, zr_hNsR, zr_hZsI, zr_hZsL, zr_hZsR, b2_01, Classical.not_not, Int32.toInt_toInt64, Int64.reduceToInt, zc_1000, zc_100, zc_10, zc_9, zc_2, ci_f, hM, ms_18 e, ms_19 e, mR_42, aLen_342, aCod_342, ma_42 e, rm0, ki]
      first
        | (exfalso; omega)
        | (have ih' := ih (by omega)
           have w3 := o_wt_le (w := mA S 42) (show i + 1 ≤ nO S by omega)
           have e1 : o_wt (mA S 42) (i + 1) = o_wt (mA S 42) i + 0 := by
             show o_wt _ i + (if _ then 1 else 0) = _
             rw [if_neg (by omega)]
           rw [e1] at ih' w3
           rw [nI_1, show nI (2000 - nL S - 3 * o_wt (mA S 42) i) - 0 = nI (2000 - nL S - 3 * (o_wt (mA S 42) i + 0)) from by
             rw [show (0 : Int32) = nI 0 from rfl, nI_sub (by omega)]
             exact congrArg nI (by omega)]
           exact ih')
        | (have ih' := ih (by omega)
           have w3 := o_wt_le (w := mA S 42) (show i + 1 ≤ nO S by omega)
           have e1 : o_wt (mA S 42) (i + 1) = o_wt (mA S 42) i + 1 := by
             show o_wt _ i + (if _ then 1 else 0) = _
             rw [if_pos (by omega)]
           rw [e1] at ih' w3
           rw [nI_1, show nI (2000 - nL S - 3 * o_wt (mA S 42) i) - 3 = nI (2000 - nL S - 3 * (o_wt (mA S 42) i + 1)) from by
             rw [show (3 : Int32) = nI 3 from rfl, nI_sub (by omega)]
             exact congrArg nI (by omega)]
           exact ih')
theorem m_folioOf (l : Launch) (G : z_G) (d : Nat) (S : z_M) (h : z_H) (e : mv h = S) (hM : z_MR h) (inv : INV S) (a : Int32) : z_MT l G d yX12_folioOf cX12_folioOf 3 (some .int) [z_r 14 0, z_i a] h 0 0 (fun r h' => r = some (z_i (o_fol (mA S 55) a (nF S))) ∧ h' = h) := by
  have hM' := hM
  unfold z_MR at hM
  have huF : nF S = ci (mS S 20) := rfl
  have htF := inv.cF.t
  have hbF := inv.cF.2
  have hpF : (mS S 20 - 1).toInt = (ci (mS S 20) : Int) - 1 := by
    rw [sub32 (by rw [htF, show (1 : Int32).toInt = 1 from rfl]; omega) (by rw [htF, show (1 : Int32).toInt = 1 from rfl]; omega), htF]
    rfl
  have fF : mS S 20 = nI (nF S) := inv.cF.1
  refine z_mt2 14 false ⟨by decide, rfl, fun q => absurd q (by decide)⟩ (by show 2 ≤ 3; decide) (fun A st wk => ?_)
  refine st b_X12_folioOf_0 _ _ k_X12_folioOf_0 _ _ _ _ _ ?_
  simp only [b_X12_folioOf_0, zr_aload_n0, zr_get0, zr_iconst, zr_istore_n2, zr_isub, zr_nil, zr_cons, ↓reduceIte, Nat.reduceAdd, Nat.reduceEqDiff, Nat.reduceLeDiff, Nat.reduceMul, Nat.reduceSub, Int32.reduceOfInt, Int64.reduceOfInt, Int64.reduceOfNat, true_and, and_true, false_and, and_false, or_false, false_or, true_or, or_true, Int.reduceEq, reduceCtorEq, or_self, and_self, ne_eq, not_false_eq_true, not_true_eq_false, eq_self, Nat.le_refl, Nat.zero_le, zr_eI, zr_eL, zr_eR, zr_pI, zr_pL, zr_pR, zr_pO, zr_pV, zq_pA0, zq_pA, zr_get, zr_put_n, zr_put, zr_rem_n, zr_rem, zr_cat_i, zr_cat_l, zr_cat_q, zr_w_n, zr_w, zr_args_n, zr_args, zr_tl_s, zr_tl_n, zr_hIsI, zr_hLsL, zr_hRsR, zr_hIsL, zr_hIsR, zr_hLsI, zr_hLsR, zr_hRsI, zr_hRsL, zr_hNsI, zr_hNsL, zr_hNsR, zr_hZsI, zr_hZsL, zr_hZsR, b2_01, Classical.not_not, Int32.toInt_toInt64, Int64.reduceToInt, zc_1000, zc_100, zc_10, zc_9, zc_2, ci_f, hM, ms_20 e, mR_55, aLen_355, aCod_355, ma_55 e, fF]
  refine (show ∀ k, k ≤ nF S → o_fol (mA S 55) a (nF S) = o_fol (mA S 55) a k → A 7 [(0, z_r 14 0), (1, z_i a), (2, z_i (nI k - 1))] [] h 0 0 from ?_) (nF S) (Nat.le_refl _) rfl
  intro k
  induction k with
  | zero =>
    intro _ e5
    have tz : (nI 0 - 1).toInt = -1 := rfl
    refine st b_X12_folioOf_7 _ _ k_X12_folioOf_7 _ _ _ _ _ ?_
    simp only [b_X12_folioOf_7, zr_aload_n0, zr_cP_eq, zr_cP_lt, zr_get2, zr_goto, zr_iald, zr_icmp, zr_ifc, zr_iinc, zr_iload_n1, zr_iload_n2, zr_nil, zr_cons, ↓reduceIte, Nat.reduceAdd, Nat.reduceEqDiff, Nat.reduceLeDiff, Nat.reduceMul, Nat.reduceSub, Int32.reduceOfInt, Int64.reduceOfInt, Int64.reduceOfNat, true_and, and_true, false_and, and_false, or_false, false_or, true_or, or_true, Int.reduceEq, reduceCtorEq, or_self, and_self, ne_eq, not_false_eq_true, not_true_eq_false, eq_self, Nat.le_refl, Nat.zero_le, zr_eI, zr_eL, zr_eR, zr_pI, zr_pL, zr_pR, zr_pO, zr_pV, zq_pA0, zq_pA, zr_get, zr_put_n, zr_put, zr_rem_n, zr_rem, zr_cat_i, zr_cat_l, zr_cat_q, zr_w_n, zr_w, zr_args_n, zr_args, zr_tl_s, zr_tl_n, zr_hIsI, zr_hLsL, zr_hRsR, zr_hIsL, zr_hIsR, zr_hLsI, zr_hLsR, zr_hRsI, zr_hRsL, zr_hNsI, zr_hNsL, zr_hNsR, zr_hZsI, zr_hZsL, zr_hZsR, b2_01, Classical.not_not, Int32.toInt_toInt64, Int64.reduceToInt, zc_1000, zc_100, zc_10, zc_9, zc_2, ci_f, hM, ms_20 e, mR_55, aLen_355, aCod_355, ma_55 e, fF]
    refine ⟨fun qc31 => ?_, fun qc31 => ?_⟩
    · try simp only [b2_0, Classical.not_not] at qc31
      try simp only [Int64.le_iff_toInt_le, Int64.lt_iff_toInt_lt, Int32.lt_iff_toInt_lt, Int32.le_iff_toInt_le, Int32.toInt_toInt64, Int64.reduceToInt, Int32.reduceToInt, Int.reduceNeg, Classical.not_not, i32e, l_add, tz] at qc31
      refine st b_X12_folioOf_27 _ _ k_X12_folioOf_27 _ _ _ _ _ ?_
      simp only [b_X12_folioOf_27, zr_T, zr_iload_n2, zr_iret, zr_rt_a, zr_rt_i, zr_rt_l, zr_rt_n, zr_rt_z, zr_nil, zr_cons, ↓reduceIte, Nat.reduceAdd, Nat.reduceEqDiff, Nat.reduceLeDiff, Nat.reduceMul, Nat.reduceSub, Int32.reduceOfInt, Int64.reduceOfInt, Int64.reduceOfNat, true_and, and_true, false_and, and_false, or_false, false_or, true_or, or_true, Int.reduceEq, reduceCtorEq, or_self, and_self, ne_eq, not_false_eq_true, not_true_eq_false, eq_self, Nat.le_refl, Nat.zero_le, zr_eI, zr_eL, zr_eR, zr_pI, zr_pL, zr_pR, zr_pO, zr_pV, zq_pA0, zq_pA, zr_get, zr_put_n, zr_put, zr_rem_n, zr_rem, zr_cat_i, zr_cat_l, zr_cat_q, zr_w_n, zr_w, zr_args_n, zr_args, zr_tl_s, zr_tl_n, zr_hIsI, zr_hLsL, zr_hRsR, zr_hIsL, zr_hIsR, zr_hLsI, zr_hLsR, zr_hRsI, zr_hRsL, zr_hNsI, zr_hNsL, zr_hNsR, zr_hZsI, zr_hZsL, zr_hZsR, b2_01, Classical.not_not, Int32.toInt_toInt64, Int64.reduceToInt, zc_1000, zc_100, zc_10, zc_9, zc_2, ci_f, hM, ms_20 e, mR_55, aLen_355, aCod_355, ma_55 e, fF]
      rw [e5]
      rfl
    · try simp only [b2_0, Classical.not_not] at qc31
      try simp only [Int64.le_iff_toInt_le, Int64.lt_iff_toInt_lt, Int32.lt_iff_toInt_lt, Int32.le_iff_toInt_le, Int32.toInt_toInt64, Int64.reduceToInt, Int32.reduceToInt, Int.reduceNeg, Classical.not_not, i32e, l_add, tz] at qc31
      exfalso; omega
  | succ k ih =>
    intro hk e5
    have ti := toIntS (show k < 2000000000 by omega)
    have ki := nI_clampS (show k < 2000000000 by omega)
    rw [nI_pred]
    refine st b_X12_folioOf_7 _ _ k_X12_folioOf_7 _ _ _ _ _ ?_
    simp only [b_X12_folioOf_7, zr_aload_n0, zr_cP_eq, zr_cP_lt, zr_get2, zr_goto, zr_iald, zr_icmp, zr_ifc, zr_iinc, zr_iload_n1, zr_iload_n2, zr_nil, zr_cons, ↓reduceIte, Nat.reduceAdd, Nat.reduceEqDiff, Nat.reduceLeDiff, Nat.reduceMul, Nat.reduceSub, Int32.reduceOfInt, Int64.reduceOfInt, Int64.reduceOfNat, true_and, and_true, false_and, and_false, or_false, false_or, true_or, or_true, Int.reduceEq, reduceCtorEq, or_self, and_self, ne_eq, not_false_eq_true, not_true_eq_false, eq_self, Nat.le_refl, Nat.zero_le, zr_eI, zr_eL, zr_eR, zr_pI, zr_pL, zr_pR, zr_pO, zr_pV, zq_pA0, zq_pA, zr_get, zr_put_n, zr_put, zr_rem_n, zr_rem, zr_cat_i, zr_cat_l, zr_cat_q, zr_w_n, zr_w, zr_args_n, zr_args, zr_tl_s, zr_tl_n, zr_hIsI, zr_hLsL, zr_hRsR, zr_hIsL, zr_hIsR, zr_hLsI, zr_hLsR, zr_hRsI, zr_hRsL, zr_hNsI, zr_hNsL, zr_hNsR, zr_hZsI, zr_hZsL, zr_hZsR, b2_01, Classical.not_not, Int32.toInt_toInt64, Int64.reduceToInt, zc_1000, zc_100, zc_10, zc_9, zc_2, ci_f, hM, ms_20 e, mR_55, aLen_355, aCod_355, ma_55 e, fF, nI_pred, ki]
    refine ⟨fun qc41 => ?_, fun qc41 => ?_⟩
    · try simp only [b2_0, Classical.not_not] at qc41
      try simp only [Int64.le_iff_toInt_le, Int64.lt_iff_toInt_lt, Int32.lt_iff_toInt_lt, Int32.le_iff_toInt_le, Int32.toInt_toInt64, Int64.reduceToInt, Int32.reduceToInt, Int.reduceNeg, Classical.not_not, i32e, l_add, ti] at qc41
      exfalso; omega
    · try simp only [b2_0, Classical.not_not] at qc41
      try simp only [Int64.le_iff_toInt_le, Int64.lt_iff_toInt_lt, Int32.lt_iff_toInt_lt, Int32.le_iff_toInt_le, Int32.toInt_toInt64, Int64.reduceToInt, Int32.reduceToInt, Int.reduceNeg, Classical.not_not, i32e, l_add, ti] at qc41
      refine ⟨by first | exact vpi (by omega) | with_reducible exact vp_in_nI (by omega) (by omega), ?_⟩
      refine ⟨fun qc42 => ?_, fun qc42 => ?_⟩
      · try simp only [b2_0, Classical.not_not] at qc42
        try simp only [Int64.le_iff_toInt_le, Int64.lt_iff_toInt_lt, Int32.lt_iff_toInt_lt, Int32.le_iff_toInt_le, Int32.toInt_toInt64, Int64.reduceToInt, Int32.reduceToInt, Int.reduceNeg, Classical.not_not, i32e, l_add, ti] at qc42
        refine st b_X12_folioOf_27 _ _ k_X12_folioOf_27 _ _ _ _ _ ?_
        simp only [b_X12_folioOf_27, zr_T, zr_iload_n2, zr_iret, zr_rt_a, zr_rt_i, zr_rt_l, zr_rt_n, zr_rt_z, zr_nil, zr_cons, ↓reduceIte, Nat.reduceAdd, Nat.reduceEqDiff, Nat.reduceLeDiff, Nat.reduceMul, Nat.reduceSub, Int32.reduceOfInt, Int64.reduceOfInt, Int64.reduceOfNat, true_and, and_true, false_and, and_false, or_false, false_or, true_or, or_true, Int.reduceEq, reduceCtorEq, or_self, and_self, ne_eq, not_false_eq_true, not_true_eq_false, eq_self, Nat.le_refl, Nat.zero_le, zr_eI, zr_eL, zr_eR, zr_pI, zr_pL, zr_pR, zr_pO, zr_pV, zq_pA0, zq_pA, zr_get, zr_put_n, zr_put, zr_rem_n, zr_rem, zr_cat_i, zr_cat_l, zr_cat_q, zr_w_n, zr_w, zr_args_n, zr_args, zr_tl_s, zr_tl_n, zr_hIsI, zr_hLsL, zr_hRsR, zr_hIsL, zr_hIsR, zr_hLsI, zr_hLsR, zr_hRsI, zr_hRsL, zr_hNsI, zr_hNsL, zr_hNsR, zr_hZsI, zr_hZsL, zr_hZsR, b2_01, Classical.not_not, Int32.toInt_toInt64, Int64.reduceToInt, zc_1000, zc_100, zc_10, zc_9, zc_2, ci_f, hM, ms_20 e, mR_55, aLen_355, aCod_355, ma_55 e, fF, nI_pred, ki]
        rw [e5]
        show _ = some (z_i (if _ then nI k else _))
        rw [if_pos (by omega)]
      · try simp only [b2_0, Classical.not_not] at qc42
        try simp only [Int64.le_iff_toInt_le, Int64.lt_iff_toInt_lt, Int32.lt_iff_toInt_lt, Int32.le_iff_toInt_le, Int32.toInt_toInt64, Int64.reduceToInt, Int32.reduceToInt, Int.reduceNeg, Classical.not_not, i32e, l_add, ti] at qc42
        rw [nI_dec]
        refine ih (by omega) ?_
        rw [e5]
        show (if _ then nI k else _) = _
        rw [if_neg (by omega)]
