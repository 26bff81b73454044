/-! the model's methods: what is only read -/
theorem o_nf_le {w : Nat → Int32} {a : Int32} {i n : Nat} (h : i ≤ n) : o_nf w a i ≤ o_nf w a n := by
  induction n with
  | zero => rw [Nat.le_zero.mp h]; exact Nat.le_refl _
  | succ n ih =>
    by_cases e : i = n + 1
    · rw [e]; exact Nat.le_refl _
    · have := ih (by omega)
      show _ ≤ o_nf w a n + _
      omega
theorem o_nf_b {w : Nat → Int32} {a : Int32} (n : Nat) : o_nf w a n ≤ n := by
  induction n with
  | zero => exact Nat.le_refl _
  | succ n ih =>
    show o_nf w a n + (if _ then 1 else 0) ≤ _
    split <;> omega
theorem o_kf_miss {w : Nat → Int32} {a : Int32} {k n : Nat} (h : o_nf w a n ≤ k) : o_kf w a k n = -1 := by
  induction n with
  | zero => rfl
  | succ n ih =>
    have h1 : o_nf w a n + (if (w n).toInt = a.toInt then 1 else 0) ≤ k := h
    show (if (w n).toInt = a.toInt ∧ o_nf w a n = k then nI n else o_kf w a k n) = -1
    split at h1
    · rw [if_neg (by omega)]
      exact ih (by omega)
    · rw [if_neg (by omega)]
      exact ih (by omega)
theorem o_kf_hit {w : Nat → Int32} {a : Int32} {k n i : Nat} (hi : i < n) (h1 : (w i).toInt = a.toInt) (h2 : o_nf w a i = k) : o_kf w a k n = nI i := by
  induction n with
  | zero => omega
  | succ n ih =>
    show (if (w n).toInt = a.toInt ∧ o_nf w a n = k then nI n else o_kf w a k n) = _
    by_cases e : i = n
    · subst e
      rw [if_pos ⟨h1, h2⟩]
    · have h3 : o_nf w a (i + 1) ≤ o_nf w a n := o_nf_le (by omega)
      have h4 : o_nf w a (i + 1) = o_nf w a i + 1 := by
        show o_nf w a i + (if _ then 1 else 0) = _
        rw [if_pos h1]
      rw [if_neg (by omega)]
      exact ih (by omega)
theorem o_wt_b {w : Nat → Int32} (n : Nat) : o_wt w n ≤ n := by
  induction n with
  | zero => exact Nat.le_refl _
  | succ n ih =>
    show o_wt w n + (if _ then 1 else 0) ≤ _
    split <;> omega
theorem l_nI1 {n : Nat} (h : n < 2000000000) : (nI n).toInt64 + 1 = (nI (n + 1)).toInt64 := by
  rw [← Int64.toInt_inj, Int32.toInt_toInt64, nI_toInt (by omega), add64 (by rw [Int32.toInt_toInt64, nI_toInt (by omega), show (1 : Int64).toInt = 1 from rfl]; omega) (by rw [Int32.toInt_toInt64, nI_toInt (by omega), show (1 : Int64).toInt = 1 from rfl]; omega), Int32.toInt_toInt64, nI_toInt (by omega)]
  rfl
theorem m_balance (l : Launch) (G : z_G) (d : Nat) (hd : 3 ≤ d) (S : z_M) (h : z_H) (e : mv h = S) (hM : z_MR h) (inv : INV S) (a : Int32) : z_MT l G d yX12_balance cX12_balance 2 (some .long) [z_r 14 0, z_i a] h 0 0 (Ql h (o_balance S a, S)) := by
  have hM' := hM
  unfold z_MR at hM
  have huA : nA S = ci (mS S 16) := rfl
  have htA := inv.cA.t
  have hbA := inv.cA.2
  have hpA : (mS S 16 - 1).toInt = (ci (mS S 16) : Int) - 1 := by
    rw [sub32 (by rw [htA, show (1 : Int32).toInt = 1 from rfl]; omega) (by rw [htA, show (1 : Int32).toInt = 1 from rfl]; omega), htA]
    rfl
  refine z_mt2 14 false ⟨by decide, rfl, fun q => absurd q (by decide)⟩ (by show 2 ≤ 2; decide) (fun A st wk => ?_)
  refine st b_X12_balance_0 _ _ k_X12_balance_0 _ _ _ _ _ ?_
  simp only [b_X12_balance_0, zr_aload_n0, zr_cP_eq, zr_call0, zr_get2, zr_goto, zr_iconst, zr_ifc, zr_iload_n1, zr_lald, zr_put0, zr_nil, zr_cons, ↓reduceIte, Nat.reduceAdd, Nat.reduceEqDiff, Nat.reduceLeDiff, Nat.reduceMul, Nat.reduceSub, Int32.reduceOfInt, Int64.reduceOfInt, Int64.reduceOfNat, true_and, and_true, false_and, and_false, or_false, false_or, true_or, or_true, Int.reduceEq, reduceCtorEq, or_self, and_self, ne_eq, not_false_eq_true, not_true_eq_false, eq_self, Nat.le_refl, Nat.zero_le, zr_eI, zr_eL, zr_eR, zr_pI, zr_pL, zr_pR, zr_pO, zr_pV, zq_pA0, zq_pA, zr_get, zr_put_n, zr_put, zr_rem_n, zr_rem, zr_cat_i, zr_cat_l, zr_cat_q, zr_w_n, zr_w, zr_args_n, zr_args, zr_tl_s, zr_tl_n, zr_hIsI, zr_hLsL, zr_hRsR, zr_hIsL, zr_hIsR, zr_hLsI, zr_hLsR, zr_hRsI, zr_hRsL, zr_hNsI, zr_hNsL, zr_hNsR, zr_hZsI, zr_hZsL, zr_hZsR, b2_01, Classical.not_not, Int32.toInt_toInt64, Int64.reduceToInt, zc_1000, zc_100, zc_10, zc_9, zc_2, ci_f, hM, mR_27, aLen_327, aCod_327, mb_27 e]
  refine cp0 (by omega) lk_X12_205 (rc_14 rfl) (m_isAccount l G _ (by omega) S _ (by simp only [mv_thr, e]) (z_MR.I hM') inv _) (Nat.le_refl _) (Nat.le_refl _) ?_
  simp only [zr_aload_n0, zr_cP_eq, zr_get2, zr_goto, zr_ifc, zr_iload_n1, zr_lald, zr_nil, zr_cons, ↓reduceIte, Nat.reduceAdd, Nat.reduceEqDiff, Nat.reduceLeDiff, Nat.reduceMul, Nat.reduceSub, Int32.reduceOfInt, Int64.reduceOfInt, Int64.reduceOfNat, true_and, and_true, false_and, and_false, or_false, false_or, true_or, or_true, Int.reduceEq, reduceCtorEq, or_self, and_self, ne_eq, not_false_eq_true, not_true_eq_false, eq_self, Nat.le_refl, Nat.zero_le, zr_eI, zr_eL, zr_eR, zr_pI, zr_pL, zr_pR, zr_pO, zr_pV, zq_pA0, zq_pA, zr_get, zr_put_n, zr_put, zr_rem_n, zr_rem, zr_cat_i, zr_cat_l, zr_cat_q, zr_w_n, zr_w, zr_args_n, zr_args, zr_tl_s, zr_tl_n, zr_hIsI, zr_hLsL, zr_hRsR, zr_hIsL, zr_hIsR, zr_hLsI, zr_hLsR, zr_hRsI, zr_hRsL, zr_hNsI, zr_hNsL, zr_hNsR, zr_hZsI, zr_hZsL, zr_hZsR, b2_01, Classical.not_not, Int32.toInt_toInt64, Int64.reduceToInt, zc_1000, zc_100, zc_10, zc_9, zc_2, ci_f, hM, mR_27, aLen_327, aCod_327, mb_27 e]
  refine ⟨fun qc1 => ?_, fun qc1 => ?_⟩
  · try simp only [b2_0, Classical.not_not] at qc1
    try simp only [Int64.le_iff_toInt_le, Int64.lt_iff_toInt_lt, Int32.lt_iff_toInt_lt, Int32.le_iff_toInt_le, Int32.toInt_toInt64, Int64.reduceToInt, Int32.reduceToInt, Int.reduceNeg, Classical.not_not, i32e, l_add] at qc1
    refine st b_X12_balance_22 _ _ k_X12_balance_22 _ _ _ _ _ ?_
    simp only [b_X12_balance_22, zr_lconst0, zr_nil, zr_cons, ↓reduceIte, Nat.reduceAdd, Nat.reduceEqDiff, Nat.reduceLeDiff, Nat.reduceMul, Nat.reduceSub, Int32.reduceOfInt, Int64.reduceOfInt, Int64.reduceOfNat, true_and, and_true, false_and, and_false, or_false, false_or, true_or, or_true, Int.reduceEq, reduceCtorEq, or_self, and_self, ne_eq, not_false_eq_true, not_true_eq_false, eq_self, Nat.le_refl, Nat.zero_le, zr_eI, zr_eL, zr_eR, zr_pI, zr_pL, zr_pR, zr_pO, zr_pV, zq_pA0, zq_pA, zr_get, zr_put_n, zr_put, zr_rem_n, zr_rem, zr_cat_i, zr_cat_l, zr_cat_q, zr_w_n, zr_w, zr_args_n, zr_args, zr_tl_s, zr_tl_n, zr_hIsI, zr_hLsL, zr_hRsR, zr_hIsL, zr_hIsR, zr_hLsI, zr_hLsR, zr_hRsI, zr_hRsL, zr_hNsI, zr_hNsL, zr_hNsR, zr_hZsI, zr_hZsL, zr_hZsR, b2_01, Classical.not_not, Int32.toInt_toInt64, Int64.reduceToInt, zc_1000, zc_100, zc_10, zc_9, zc_2, ci_f, hM, mR_27, aLen_327, aCod_327, mb_27 e]
    refine st b_X12_balance_23 _ _ k_X12_balance_23 _ _ _ _ _ ?_
    simp only [b_X12_balance_23, zr_T, zr_lret, zr_rt_a, zr_rt_i, zr_rt_l, zr_rt_n, zr_rt_z, zr_nil, zr_cons, ↓reduceIte, Nat.reduceAdd, Nat.reduceEqDiff, Nat.reduceLeDiff, Nat.reduceMul, Nat.reduceSub, Int32.reduceOfInt, Int64.reduceOfInt, Int64.reduceOfNat, true_and, and_true, false_and, and_false, or_false, false_or, true_or, or_true, Int.reduceEq, reduceCtorEq, or_self, and_self, ne_eq, not_false_eq_true, not_true_eq_false, eq_self, Nat.le_refl, Nat.zero_le, zr_eI, zr_eL, zr_eR, zr_pI, zr_pL, zr_pR, zr_pO, zr_pV, zq_pA0, zq_pA, zr_get, zr_put_n, zr_put, zr_rem_n, zr_rem, zr_cat_i, zr_cat_l, zr_cat_q, zr_w_n, zr_w, zr_args_n, zr_args, zr_tl_s, zr_tl_n, zr_hIsI, zr_hLsL, zr_hRsR, zr_hIsL, zr_hIsR, zr_hLsI, zr_hLsR, zr_hRsI, zr_hRsL, zr_hNsI, zr_hNsL, zr_hNsR, zr_hZsI, zr_hZsL, zr_hZsR, b2_01, Classical.not_not, Int32.toInt_toInt64, Int64.reduceToInt, zc_1000, zc_100, zc_10, zc_9, zc_2, ci_f, hM, mR_27, aLen_327, aCod_327, mb_27 e]
    refine ql' ?_ (by repeat (first | exact z_sC.rf | exact hsc | refine z_sC.I ?_ (by decide) | refine z_sC.L ?_ (by decide))) hM'
    simp only [mv_thr, e]
    unfold o_balance
    (repeat' split) <;> (first | rfl | (exfalso; omega))
  · try simp only [b2_0, Classical.not_not] at qc1
    try simp only [Int64.le_iff_toInt_le, Int64.lt_iff_toInt_lt, Int32.lt_iff_toInt_lt, Int32.le_iff_toInt_le, Int32.toInt_toInt64, Int64.reduceToInt, Int32.reduceToInt, Int.reduceNeg, Classical.not_not, i32e, l_add] at qc1
    refine ⟨by first | exact vpi (by omega) | with_reducible exact vp_in_nI (by omega) (by omega), ?_⟩
    refine st b_X12_balance_23 _ _ k_X12_balance_23 _ _ _ _ _ ?_
    simp only [b_X12_balance_23, zr_T, zr_lret, zr_rt_a, zr_rt_i, zr_rt_l, zr_rt_n, zr_rt_z, zr_nil, zr_cons, ↓reduceIte, Nat.reduceAdd, Nat.reduceEqDiff, Nat.reduceLeDiff, Nat.reduceMul, Nat.reduceSub, Int32.reduceOfInt, Int64.reduceOfInt, Int64.reduceOfNat, true_and, and_true, false_and, and_false, or_false, false_or, true_or, or_true, Int.reduceEq, reduceCtorEq, or_self, and_self, ne_eq, not_false_eq_true, not_true_eq_false, eq_self, Nat.le_refl, Nat.zero_le, zr_eI, zr_eL, zr_eR, zr_pI, zr_pL, zr_pR, zr_pO, zr_pV, zq_pA0, zq_pA, zr_get, zr_put_n, zr_put, zr_rem_n, zr_rem, zr_cat_i, zr_cat_l, zr_cat_q, zr_w_n, zr_w, zr_args_n, zr_args, zr_tl_s, zr_tl_n, zr_hIsI, zr_hLsL, zr_hRsR, zr_hIsL, zr_hIsR, zr_hLsI, zr_hLsR, zr_hRsI, zr_hRsL, zr_hNsI, zr_hNsL, zr_hNsR, zr_hZsI, zr_hZsL, zr_hZsR, b2_01, Classical.not_not, Int32.toInt_toInt64, Int64.reduceToInt, zc_1000, zc_100, zc_10, zc_9, zc_2, ci_f, hM, mR_27, aLen_327, aCod_327, mb_27 e]
    refine ql' ?_ (by repeat (first | exact z_sC.rf | exact hsc | refine z_sC.I ?_ (by decide) | refine z_sC.L ?_ (by decide))) hM'
    simp only [mv_thr, e]
    unfold o_balance
    (repeat' split) <;> (first | rfl | (exfalso; omega))
theorem m_lineSum (l : Launch) (G : z_G) (d : Nat) (hd : 3 ≤ d) (S : z_M) (h : z_H) (e : mv h = S) (hM : z_MR h) (inv : INV S) (a : Int32) : z_MT l G d yX12_lineSum cX12_lineSum 2 (some .long) [z_r 14 0, z_i a] h 0 0 (Ql h (o_lineSum S a, S)) := by
  have hM' := hM
  unfold z_MR at hM
  have huL : nL S = ci (mS S 19) := rfl
  have htL := inv.cL.t
  have hbL := inv.cL.2
  have hpL : (mS S 19 - 1).toInt = (ci (mS S 19) : Int) - 1 := by
    rw [sub32 (by rw [htL, show (1 : Int32).toInt = 1 from rfl]; omega) (by rw [htL, show (1 : Int32).toInt = 1 from rfl]; omega), htL]
    rfl
  refine z_mt2 14 false ⟨by decide, rfl, fun q => absurd q (by decide)⟩ (by show 2 ≤ 2; decide) (fun A st wk => ?_)
  refine st b_X12_lineSum_0 _ _ k_X12_lineSum_0 _ _ _ _ _ ?_
  simp only [b_X12_lineSum_0, zr_aload_n0, zr_cP_eq, zr_call1, zr_get0, zr_get2, zr_goto, zr_i2l, zr_iconst, zr_ifc, zr_iload_n1, zr_isub, zr_lald, zr_lconst0, zr_put0, zr_nil, zr_cons, ↓reduceIte, Nat.reduceAdd, Nat.reduceEqDiff, Nat.reduceLeDiff, Nat.reduceMul, Nat.reduceSub, Int32.reduceOfInt, Int64.reduceOfInt, Int64.reduceOfNat, true_and, and_true, false_and, and_false, or_false, false_or, true_or, or_true, Int.reduceEq, reduceCtorEq, or_self, and_self, ne_eq, not_false_eq_true, not_true_eq_false, eq_self, Nat.le_refl, Nat.zero_le, zr_eI, zr_eL, zr_eR, zr_pI, zr_pL, zr_pR, zr_pO, zr_pV, zq_pA0, zq_pA, zr_get, zr_put_n, zr_put, zr_rem_n, zr_rem, zr_cat_i, zr_cat_l, zr_cat_q, zr_w_n, zr_w, zr_args_n, zr_args, zr_tl_s, zr_tl_n, zr_hIsI, zr_hLsL, zr_hRsR, zr_hIsL, zr_hIsR, zr_hLsI, zr_hLsR, zr_hRsI, zr_hRsL, zr_hNsI, zr_hNsL, zr_hNsR, zr_hZsI, zr_hZsL, zr_hZsR, b2_01, Classical.not_not, Int32.toInt_toInt64, Int64.reduceToInt, zc_1000, zc_100, zc_10, zc_9, zc_2, ci_f, hM, ms_19 e, mR_54, aLen_354, aCod_354, mb_54 e, hpL]
  refine cp0 (by omega) lk_X12_177 trivial (m_in l G _ _ _ _ _) (Nat.le_refl _) (Nat.le_refl _) ?_
  simp only [zr_aload_n0, zr_cP_eq, zr_get2, zr_goto, zr_ifc, zr_iload_n1, zr_lald, zr_nil, zr_cons, ↓reduceIte, Nat.reduceAdd, Nat.reduceEqDiff, Nat.reduceLeDiff, Nat.reduceMul, Nat.reduceSub, Int32.reduceOfInt, Int64.reduceOfInt, Int64.reduceOfNat, true_and, and_true, false_and, and_false, or_false, false_or, true_or, or_true, Int.reduceEq, reduceCtorEq, or_self, and_self, ne_eq, not_false_eq_true, not_true_eq_false, eq_self, Nat.le_refl, Nat.zero_le, zr_eI, zr_eL, zr_eR, zr_pI, zr_pL, zr_pR, zr_pO, zr_pV, zq_pA0, zq_pA, zr_get, zr_put_n, zr_put, zr_rem_n, zr_rem, zr_cat_i, zr_cat_l, zr_cat_q, zr_w_n, zr_w, zr_args_n, zr_args, zr_tl_s, zr_tl_n, zr_hIsI, zr_hLsL, zr_hRsR, zr_hIsL, zr_hIsR, zr_hLsI, zr_hLsR, zr_hRsI, zr_hRsL, zr_hNsI, zr_hNsL, zr_hNsR, zr_hZsI, zr_hZsL, zr_hZsR, b2_01, Classical.not_not, Int32.toInt_toInt64, Int64.reduceToInt, zc_1000, zc_100, zc_10, zc_9, zc_2, ci_f, hM, ms_19 e, mR_54, aLen_354, aCod_354, mb_54 e, hpL]
  refine ⟨fun qc1 => ?_, fun qc1 => ?_⟩
  · try simp only [b2_0, Classical.not_not] at qc1
    try simp only [Int64.le_iff_toInt_le, Int64.lt_iff_toInt_lt, Int32.lt_iff_toInt_lt, Int32.le_iff_toInt_le, Int32.toInt_toInt64, Int64.reduceToInt, Int32.reduceToInt, Int.reduceNeg, Classical.not_not, i32e, l_add] at qc1
    refine st b_X12_lineSum_30 _ _ k_X12_lineSum_30 _ _ _ _ _ ?_
    simp only [b_X12_lineSum_30, zr_lconst0, zr_nil, zr_cons, ↓reduceIte, Nat.reduceAdd, Nat.reduceEqDiff, Nat.reduceLeDiff, Nat.reduceMul, Nat.reduceSub, Int32.reduceOfInt, Int64.reduceOfInt, Int64.reduceOfNat, true_and, and_true, false_and, and_false, or_false, false_or, true_or, or_true, Int.reduceEq, reduceCtorEq, or_self, and_self, ne_eq, not_false_eq_true, not_true_eq_false, eq_self, Nat.le_refl, Nat.zero_le, zr_eI, zr_eL, zr_eR, zr_pI, zr_pL, zr_pR, zr_pO, zr_pV, zq_pA0, zq_pA, zr_get, zr_put_n, zr_put, zr_rem_n, zr_rem, zr_cat_i, zr_cat_l, zr_cat_q, zr_w_n, zr_w, zr_args_n, zr_args, zr_tl_s, zr_tl_n, zr_hIsI, zr_hLsL, zr_hRsR, zr_hIsL, zr_hIsR, zr_hLsI, zr_hLsR, zr_hRsI, zr_hRsL, zr_hNsI, zr_hNsL, zr_hNsR, zr_hZsI, zr_hZsL, zr_hZsR, b2_01, Classical.not_not, Int32.toInt_toInt64, Int64.reduceToInt, zc_1000, zc_100, zc_10, zc_9, zc_2, ci_f, hM, ms_19 e, mR_54, aLen_354, aCod_354, mb_54 e, hpL]
    refine st b_X12_lineSum_31 _ _ k_X12_lineSum_31 _ _ _ _ _ ?_
    simp only [b_X12_lineSum_31, zr_T, zr_lret, zr_rt_a, zr_rt_i, zr_rt_l, zr_rt_n, zr_rt_z, zr_nil, zr_cons, ↓reduceIte, Nat.reduceAdd, Nat.reduceEqDiff, Nat.reduceLeDiff, Nat.reduceMul, Nat.reduceSub, Int32.reduceOfInt, Int64.reduceOfInt, Int64.reduceOfNat, true_and, and_true, false_and, and_false, or_false, false_or, true_or, or_true, Int.reduceEq, reduceCtorEq, or_self, and_self, ne_eq, not_false_eq_true, not_true_eq_false, eq_self, Nat.le_refl, Nat.zero_le, zr_eI, zr_eL, zr_eR, zr_pI, zr_pL, zr_pR, zr_pO, zr_pV, zq_pA0, zq_pA, zr_get, zr_put_n, zr_put, zr_rem_n, zr_rem, zr_cat_i, zr_cat_l, zr_cat_q, zr_w_n, zr_w, zr_args_n, zr_args, zr_tl_s, zr_tl_n, zr_hIsI, zr_hLsL, zr_hRsR, zr_hIsL, zr_hIsR, zr_hLsI, zr_hLsR, zr_hRsI, zr_hRsL, zr_hNsI, zr_hNsL, zr_hNsR, zr_hZsI, zr_hZsL, zr_hZsR, b2_01, Classical.not_not, Int32.toInt_toInt64, Int64.reduceToInt, zc_1000, zc_100, zc_10, zc_9, zc_2, ci_f, hM, ms_19 e, mR_54, aLen_354, aCod_354, mb_54 e, hpL]
    refine ql' ?_ (by repeat (first | exact z_sC.rf | exact hsc | refine z_sC.I ?_ (by decide) | refine z_sC.L ?_ (by decide))) hM'
    simp only [mv_thr, e]
    unfold o_lineSum
    (repeat' split) <;> (first | rfl | (exfalso; omega))
  · try simp only [b2_0, Classical.not_not] at qc1
    try simp only [Int64.le_iff_toInt_le, Int64.lt_iff_toInt_lt, Int32.lt_iff_toInt_lt, Int32.le_iff_toInt_le, Int32.toInt_toInt64, Int64.reduceToInt, Int32.reduceToInt, Int.reduceNeg, Classical.not_not, i32e, l_add] at qc1
    refine ⟨by first | exact vpi (by omega) | with_reducible exact vp_in_nI (by omega) (by omega), ?_⟩
    refine st b_X12_lineSum_31 _ _ k_X12_lineSum_31 _ _ _ _ _ ?_
    simp only [b_X12_lineSum_31, zr_T, zr_lret, zr_rt_a, zr_rt_i, zr_rt_l, zr_rt_n, zr_rt_z, zr_nil, zr_cons, ↓reduceIte, Nat.reduceAdd, Nat.reduceEqDiff, Nat.reduceLeDiff, Nat.reduceMul, Nat.reduceSub, Int32.reduceOfInt, Int64.reduceOfInt, Int64.reduceOfNat, true_and, and_true, false_and, and_false, or_false, false_or, true_or, or_true, Int.reduceEq, reduceCtorEq, or_self, and_self, ne_eq, not_false_eq_true, not_true_eq_false, eq_self, Nat.le_refl, Nat.zero_le, zr_eI, zr_eL, zr_eR, zr_pI, zr_pL, zr_pR, zr_pO, zr_pV, zq_pA0, zq_pA, zr_get, zr_put_n, zr_put, zr_rem_n, zr_rem, zr_cat_i, zr_cat_l, zr_cat_q, zr_w_n, zr_w, zr_args_n, zr_args, zr_tl_s, zr_tl_n, zr_hIsI, zr_hLsL, zr_hRsR, zr_hIsL, zr_hIsR, zr_hLsI, zr_hLsR, zr_hRsI, zr_hRsL, zr_hNsI, zr_hNsL, zr_hNsR, zr_hZsI, zr_hZsL, zr_hZsR, b2_01, Classical.not_not, Int32.toInt_toInt64, Int64.reduceToInt, zc_1000, zc_100, zc_10, zc_9, zc_2, ci_f, hM, ms_19 e, mR_54, aLen_354, aCod_354, mb_54 e, hpL]
    refine ql' ?_ (by repeat (first | exact z_sC.rf | exact hsc | refine z_sC.I ?_ (by decide) | refine z_sC.L ?_ (by decide))) hM'
    simp only [mv_thr, e]
    unfold o_lineSum
    (repeat' split) <;> (first | rfl | (exfalso; omega))
theorem m_book (l : Launch) (G : z_G) (d : Nat) (hd : 3 ≤ d) (S : z_M) (h : z_H) (e : mv h = S) (hM : z_MR h) (inv : INV S) (a : Int32) : z_MT l G d yX12_book cX12_book 2 (some .long) [z_r 14 0, z_i a] h 0 0 (Ql h (o_book S a, S)) := by
  have hM' := hM
  unfold z_MR at hM
  have huR : nR S = ci (mS S 17) := rfl
  have htR := inv.cR.t
  have hbR := inv.cR.2
  have hpR : (mS S 17 - 1).toInt = (ci (mS S 17) : Int) - 1 := by
    rw [sub32 (by rw [htR, show (1 : Int32).toInt = 1 from rfl]; omega) (by rw [htR, show (1 : Int32).toInt = 1 from rfl]; omega), htR]
    rfl
  refine z_mt2 14 false ⟨by decide, rfl, fun q => absurd q (by decide)⟩ (by show 2 ≤ 2; decide) (fun A st wk => ?_)
  refine st b_X12_book_0 _ _ k_X12_book_0 _ _ _ _ _ ?_
  simp only [b_X12_book_0, zr_aload_n0, zr_cP_eq, zr_call1, zr_get0, zr_get2, zr_goto, zr_i2l, zr_iconst, zr_ifc, zr_iload_n1, zr_isub, zr_lald, zr_lconst0, zr_put0, zr_nil, zr_cons, ↓reduceIte, Nat.reduceAdd, Nat.reduceEqDiff, Nat.reduceLeDiff, Nat.reduceMul, Nat.reduceSub, Int32.reduceOfInt, Int64.reduceOfInt, Int64.reduceOfNat, true_and, and_true, false_and, and_false, or_false, false_or, true_or, or_true, Int.reduceEq, reduceCtorEq, or_self, and_self, ne_eq, not_false_eq_true, not_true_eq_false, eq_self, Nat.le_refl, Nat.zero_le, zr_eI, zr_eL, zr_eR, zr_pI, zr_pL, zr_pR, zr_pO, zr_pV, zq_pA0, zq_pA, zr_get, zr_put_n, zr_put, zr_rem_n, zr_rem, zr_cat_i, zr_cat_l, zr_cat_q, zr_w_n, zr_w, zr_args_n, zr_args, zr_tl_s, zr_tl_n, zr_hIsI, zr_hLsL, zr_hRsR, zr_hIsL, zr_hIsR, zr_hLsI, zr_hLsR, zr_hRsI, zr_hRsL, zr_hNsI, zr_hNsL, zr_hNsR, zr_hZsI, zr_hZsL, zr_hZsR, b2_01, Classical.not_not, Int32.toInt_toInt64, Int64.reduceToInt, zc_1000, zc_100, zc_10, zc_9, zc_2, ci_f, hM, ms_17 e, mR_36, aLen_336, aCod_336, mb_36 e, hpR]
  refine cp0 (by omega) lk_X12_177 trivial (m_in l G _ _ _ _ _) (Nat.le_refl _) (Nat.le_refl _) ?_
  simp only [zr_aload_n0, zr_cP_eq, zr_get2, zr_goto, zr_ifc, zr_iload_n1, zr_lald, zr_nil, zr_cons, ↓reduceIte, Nat.reduceAdd, Nat.reduceEqDiff, Nat.reduceLeDiff, Nat.reduceMul, Nat.reduceSub, Int32.reduceOfInt, Int64.reduceOfInt, Int64.reduceOfNat, true_and, and_true, false_and, and_false, or_false, false_or, true_or, or_true, Int.reduceEq, reduceCtorEq, or_self, and_self, ne_eq, not_false_eq_true, not_true_eq_false, eq_self, Nat.le_refl, Nat.zero_le, zr_eI, zr_eL, zr_eR, zr_pI, zr_pL, zr_pR, zr_pO, zr_pV, zq_pA0, zq_pA, zr_get, zr_put_n, zr_put, zr_rem_n, zr_rem, zr_cat_i, zr_cat_l, zr_cat_q, zr_w_n, zr_w, zr_args_n, zr_args, zr_tl_s, zr_tl_n, zr_hIsI, zr_hLsL, zr_hRsR, zr_hIsL, zr_hIsR, zr_hLsI, zr_hLsR, zr_hRsI, zr_hRsL, zr_hNsI, zr_hNsL, zr_hNsR, zr_hZsI, zr_hZsL, zr_hZsR, b2_01, Classical.not_not, Int32.toInt_toInt64, Int64.reduceToInt, zc_1000, zc_100, zc_10, zc_9, zc_2, ci_f, hM, ms_17 e, mR_36, aLen_336, aCod_336, mb_36 e, hpR]
  refine ⟨fun qc1 => ?_, fun qc1 => ?_⟩
  · try simp only [b2_0, Classical.not_not] at qc1
    try simp only [Int64.le_iff_toInt_le, Int64.lt_iff_toInt_lt, Int32.lt_iff_toInt_lt, Int32.le_iff_toInt_le, Int32.toInt_toInt64, Int64.reduceToInt, Int32.reduceToInt, Int.reduceNeg, Classical.not_not, i32e, l_add] at qc1
    refine st b_X12_book_30 _ _ k_X12_book_30 _ _ _ _ _ ?_
    simp only [b_X12_book_30, zr_lconst0, zr_nil, zr_cons, ↓reduceIte, Nat.reduceAdd, Nat.reduceEqDiff, Nat.reduceLeDiff, Nat.reduceMul, Nat.reduceSub, Int32.reduceOfInt, Int64.reduceOfInt, Int64.reduceOfNat, true_and, and_true, false_and, and_false, or_false, false_or, true_or, or_true, Int.reduceEq, reduceCtorEq, or_self, and_self, ne_eq, not_false_eq_true, not_true_eq_false, eq_self, Nat.le_refl, Nat.zero_le, zr_eI, zr_eL, zr_eR, zr_pI, zr_pL, zr_pR, zr_pO, zr_pV, zq_pA0, zq_pA, zr_get, zr_put_n, zr_put, zr_rem_n, zr_rem, zr_cat_i, zr_cat_l, zr_cat_q, zr_w_n, zr_w, zr_args_n, zr_args, zr_tl_s, zr_tl_n, zr_hIsI, zr_hLsL, zr_hRsR, zr_hIsL, zr_hIsR, zr_hLsI, zr_hLsR, zr_hRsI, zr_hRsL, zr_hNsI, zr_hNsL, zr_hNsR, zr_hZsI, zr_hZsL, zr_hZsR, b2_01, Classical.not_not, Int32.toInt_toInt64, Int64.reduceToInt, zc_1000, zc_100, zc_10, zc_9, zc_2, ci_f, hM, ms_17 e, mR_36, aLen_336, aCod_336, mb_36 e, hpR]
    refine st b_X12_book_31 _ _ k_X12_book_31 _ _ _ _ _ ?_
    simp only [b_X12_book_31, zr_T, zr_lret, zr_rt_a, zr_rt_i, zr_rt_l, zr_rt_n, zr_rt_z, zr_nil, zr_cons, ↓reduceIte, Nat.reduceAdd, Nat.reduceEqDiff, Nat.reduceLeDiff, Nat.reduceMul, Nat.reduceSub, Int32.reduceOfInt, Int64.reduceOfInt, Int64.reduceOfNat, true_and, and_true, false_and, and_false, or_false, false_or, true_or, or_true, Int.reduceEq, reduceCtorEq, or_self, and_self, ne_eq, not_false_eq_true, not_true_eq_false, eq_self, Nat.le_refl, Nat.zero_le, zr_eI, zr_eL, zr_eR, zr_pI, zr_pL, zr_pR, zr_pO, zr_pV, zq_pA0, zq_pA, zr_get, zr_put_n, zr_put, zr_rem_n, zr_rem, zr_cat_i, zr_cat_l, zr_cat_q, zr_w_n, zr_w, zr_args_n, zr_args, zr_tl_s, zr_tl_n, zr_hIsI, zr_hLsL, zr_hRsR, zr_hIsL, zr_hIsR, zr_hLsI, zr_hLsR, zr_hRsI, zr_hRsL, zr_hNsI, zr_hNsL, zr_hNsR, zr_hZsI, zr_hZsL, zr_hZsR, b2_01, Classical.not_not, Int32.toInt_toInt64, Int64.reduceToInt, zc_1000, zc_100, zc_10, zc_9, zc_2, ci_f, hM, ms_17 e, mR_36, aLen_336, aCod_336, mb_36 e, hpR]
    refine ql' ?_ (by repeat (first | exact z_sC.rf | exact hsc | refine z_sC.I ?_ (by decide) | refine z_sC.L ?_ (by decide))) hM'
    simp only [mv_thr, e]
    unfold o_book
    (repeat' split) <;> (first | rfl | (exfalso; omega))
  · try simp only [b2_0, Classical.not_not] at qc1
    try simp only [Int64.le_iff_toInt_le, Int64.lt_iff_toInt_lt, Int32.lt_iff_toInt_lt, Int32.le_iff_toInt_le, Int32.toInt_toInt64, Int64.reduceToInt, Int32.reduceToInt, Int.reduceNeg, Classical.not_not, i32e, l_add] at qc1
    refine ⟨by first | exact vpi (by omega) | with_reducible exact vp_in_nI (by omega) (by omega), ?_⟩
    refine st b_X12_book_31 _ _ k_X12_book_31 _ _ _ _ _ ?_
    simp only [b_X12_book_31, zr_T, zr_lret, zr_rt_a, zr_rt_i, zr_rt_l, zr_rt_n, zr_rt_z, zr_nil, zr_cons, ↓reduceIte, Nat.reduceAdd, Nat.reduceEqDiff, Nat.reduceLeDiff, Nat.reduceMul, Nat.reduceSub, Int32.reduceOfInt, Int64.reduceOfInt, Int64.reduceOfNat, true_and, and_true, false_and, and_false, or_false, false_or, true_or, or_true, Int.reduceEq, reduceCtorEq, or_self, and_self, ne_eq, not_false_eq_true, not_true_eq_false, eq_self, Nat.le_refl, Nat.zero_le, zr_eI, zr_eL, zr_eR, zr_pI, zr_pL, zr_pR, zr_pO, zr_pV, zq_pA0, zq_pA, zr_get, zr_put_n, zr_put, zr_rem_n, zr_rem, zr_cat_i, zr_cat_l, zr_cat_q, zr_w_n, zr_w, zr_args_n, zr_args, zr_tl_s, zr_tl_n, zr_hIsI, zr_hLsL, zr_hRsR, zr_hIsL, zr_hIsR, zr_hLsI, zr_hLsR, zr_hRsI, zr_hRsL, zr_hNsI, zr_hNsL, zr_hNsR, zr_hZsI, zr_hZsL, zr_hZsR, b2_01, Classical.not_not, Int32.toInt_toInt64, Int64.reduceToInt, zc_1000, zc_100, zc_10, zc_9, zc_2, ci_f, hM, ms_17 e, mR_36, aLen_336, aCod_336, mb_36 e, hpR]
    refine ql' ?_ (by repeat (first | exact z_sC.rf | exact hsc | refine z_sC.I ?_ (by decide) | refine z_sC.L ?_ (by decide))) hM'
    simp only [mv_thr, e]
    unfold o_book
    (repeat' split) <;> (first | rfl | (exfalso; omega))
theorem m_line (l : Launch) (G : z_G) (d : Nat) (hd : 3 ≤ d) (S : z_M) (h : z_H) (e : mv h = S) (hM : z_MR h) (inv : INV S) (a what : Int32) : z_MT l G d yX12_line cX12_line 3 (some .int) [z_r 14 0, z_i a, z_i what] h 0 0 (Qi h (o_line S a what, S)) := by
  have hM' := hM
  unfold z_MR at hM
  have huL : nL S = ci (mS S 19) := rfl
  have htL := inv.cL.t
  have hbL := inv.cL.2
  have hpL : (mS S 19 - 1).toInt = (ci (mS S 19) : Int) - 1 := by
    rw [sub32 (by rw [htL, show (1 : Int32).toInt = 1 from rfl]; omega) (by rw [htL, show (1 : Int32).toInt = 1 from rfl]; omega), htL]
    rfl
  refine z_mt2 14 false ⟨by decide, rfl, fun q => absurd q (by decide)⟩ (by show 3 ≤ 3; decide) (fun A st wk => ?_)
  refine st b_X12_line_0 _ _ k_X12_line_0 _ _ _ _ _ ?_
  simp only [b_X12_line_0, zr_T, zr_aload_n0, zr_bipush, zr_cP_ne, zr_call1, zr_get0, zr_i2l, zr_iconst, zr_ifc, zr_iload_n1, zr_iret, zr_isub, zr_lconst0, zr_put0, zr_rt_a, zr_rt_i, zr_rt_l, zr_rt_n, zr_rt_z, zr_nil, zr_cons, ↓reduceIte, Nat.reduceAdd, Nat.reduceEqDiff, Nat.reduceLeDiff, Nat.reduceMul, Nat.reduceSub, Int32.reduceOfInt, Int64.reduceOfInt, Int64.reduceOfNat, true_and, and_true, false_and, and_false, or_false, false_or, true_or, or_true, Int.reduceEq, reduceCtorEq, or_self, and_self, ne_eq, not_false_eq_true, not_true_eq_false, eq_self, Nat.le_refl, Nat.zero_le, zr_eI, zr_eL, zr_eR, zr_pI, zr_pL, zr_pR, zr_pO, zr_pV, zq_pA0, zq_pA, zr_get, zr_put_n, zr_put, zr_rem_n, zr_rem, zr_cat_i, zr_cat_l, zr_cat_q, zr_w_n, zr_w, zr_args_n, zr_args, zr_tl_s, zr_tl_n, zr_hIsI, zr_hLsL, zr_hRsR, zr_hIsL, zr_hIsR, zr_hLsI, zr_hLsR, zr_hRsI, zr_hRsL, zr_hNsI, zr_hNsL, zr_hNsR, zr_hZsI, zr_hZsL, zr_hZsR, b2_01, Classical.not_not, Int32.toInt_toInt64, Int64.reduceToInt, zc_1000, zc_100, zc_10, zc_9, zc_2, ci_f, hM, ms_19 e, mR_49, aLen_349, aCod_349, ma_49 e, mR_50, aLen_350, aCod_350, ma_50 e, mR_51, aLen_351, aCod_351, ma_51 e, mR_52, aLen_352, aCod_352, ma_52 e, mR_53, aLen_353, aCod_353, ma_53 e, hpL]
  refine cp0 (by omega) lk_X12_177 trivial (m_in l G _ _ _ _ _) (Nat.le_refl _) (Nat.le_refl _) ?_
  simp only [zr_T, zr_bipush, zr_cP_ne, zr_ifc, zr_iret, zr_rt_a, zr_rt_i, zr_rt_l, zr_rt_n, zr_rt_z, zr_nil, zr_cons, ↓reduceIte, Nat.reduceAdd, Nat.reduceEqDiff, Nat.reduceLeDiff, Nat.reduceMul, Nat.reduceSub, Int32.reduceOfInt, Int64.reduceOfInt, Int64.reduceOfNat, true_and, and_true, false_and, and_false, or_false, false_or, true_or, or_true, Int.reduceEq, reduceCtorEq, or_self, and_self, ne_eq, not_false_eq_true, not_true_eq_false, eq_self, Nat.le_refl, Nat.zero_le, zr_eI, zr_eL, zr_eR, zr_pI, zr_pL, zr_pR, zr_pO, zr_pV, zq_pA0, zq_pA, zr_get, zr_put_n, zr_put, zr_rem_n, zr_rem, zr_cat_i, zr_cat_l, zr_cat_q, zr_w_n, zr_w, zr_args_n, zr_args, zr_tl_s, zr_tl_n, zr_hIsI, zr_hLsL, zr_hRsR, zr_hIsL, zr_hIsR, zr_hLsI, zr_hLsR, zr_hRsI, zr_hRsL, zr_hNsI, zr_hNsL, zr_hNsR, zr_hZsI, zr_hZsL, zr_hZsR, b2_01, Classical.not_not, Int32.toInt_toInt64, Int64.reduceToInt, zc_1000, zc_100, zc_10, zc_9, zc_2, ci_f, hM, ms_19 e, mR_49, aLen_349, aCod_349, ma_49 e, mR_50, aLen_350, aCod_350, ma_50 e, mR_51, aLen_351, aCod_351, ma_51 e, mR_52, aLen_352, aCod_352, ma_52 e, mR_53, aLen_353, aCod_353, ma_53 e, hpL]
  refine ⟨fun qc1 => ?_, fun qc1 => ?_⟩
  · try simp only [b2_0, Classical.not_not] at qc1
    try simp only [Int64.le_iff_toInt_le, Int64.lt_iff_toInt_lt, Int32.lt_iff_toInt_lt, Int32.le_iff_toInt_le, Int32.toInt_toInt64, Int64.reduceToInt, Int32.reduceToInt, Int.reduceNeg, Classical.not_not, i32e, l_add] at qc1
    refine st b_X12_line_24 _ _ k_X12_line_24 _ _ _ _ _ ?_
    simp only [b_X12_line_24, zr_iload_n2, zr_tsw, zr_nil, zr_cons, ↓reduceIte, Nat.reduceAdd, Nat.reduceEqDiff, Nat.reduceLeDiff, Nat.reduceMul, Nat.reduceSub, Int32.reduceOfInt, Int64.reduceOfInt, Int64.reduceOfNat, true_and, and_true, false_and, and_false, or_false, false_or, true_or, or_true, Int.reduceEq, reduceCtorEq, or_self, and_self, ne_eq, not_false_eq_true, not_true_eq_false, eq_self, Nat.le_refl, Nat.zero_le, zr_eI, zr_eL, zr_eR, zr_pI, zr_pL, zr_pR, zr_pO, zr_pV, zq_pA0, zq_pA, zr_get, zr_put_n, zr_put, zr_rem_n, zr_rem, zr_cat_i, zr_cat_l, zr_cat_q, zr_w_n, zr_w, zr_args_n, zr_args, zr_tl_s, zr_tl_n, zr_hIsI, zr_hLsL, zr_hRsR, zr_hIsL, zr_hIsR, zr_hLsI, zr_hLsR, zr_hRsI, zr_hRsL, zr_hNsI, zr_hNsL, zr_hNsR, zr_hZsI, zr_hZsL, zr_hZsR, b2_01, Classical.not_not, Int32.toInt_toInt64, Int64.reduceToInt, zc_1000, zc_100, zc_10, zc_9, zc_2, ci_f, hM, ms_19 e, mR_49, aLen_349, aCod_349, ma_49 e, mR_50, aLen_350, aCod_350, ma_50 e, mR_51, aLen_351, aCod_351, ma_51 e, mR_52, aLen_352, aCod_352, ma_52 e, mR_53, aLen_353, aCod_353, ma_53 e, hpL]
    by_cases qt2 : (what).toInt = 0
    · refine z_swA 60 0 qt2 rfl ?_
      refine st b_X12_line_60 _ _ k_X12_line_60 _ _ _ _ _ ?_
      simp only [b_X12_line_60, zr_T, zr_aload_n0, zr_get2, zr_iald, zr_iload_n1, zr_iret, zr_rt_a, zr_rt_i, zr_rt_l, zr_rt_n, zr_rt_z, zr_nil, zr_cons, ↓reduceIte, Nat.reduceAdd, Nat.reduceEqDiff, Nat.reduceLeDiff, Nat.reduceMul, Nat.reduceSub, Int32.reduceOfInt, Int64.reduceOfInt, Int64.reduceOfNat, true_and, and_true, false_and, and_false, or_false, false_or, true_or, or_true, Int.reduceEq, reduceCtorEq, or_self, and_self, ne_eq, not_false_eq_true, not_true_eq_false, eq_self, Nat.le_refl, Nat.zero_le, zr_eI, zr_eL, zr_eR, zr_pI, zr_pL, zr_pR, zr_pO, zr_pV, zq_pA0, zq_pA, zr_get, zr_put_n, zr_put, zr_rem_n, zr_rem, zr_cat_i, zr_cat_l, zr_cat_q, zr_w_n, zr_w, zr_args_n, zr_args, zr_tl_s, zr_tl_n, zr_hIsI, zr_hLsL, zr_hRsR, zr_hIsL, zr_hIsR, zr_hLsI, zr_hLsR, zr_hRsI, zr_hRsL, zr_hNsI, zr_hNsL, zr_hNsR, zr_hZsI, zr_hZsL, zr_hZsR, b2_01, Classical.not_not, Int32.toInt_toInt64, Int64.reduceToInt, zc_1000, zc_100, zc_10, zc_9, zc_2, ci_f, hM, ms_19 e, mR_49, aLen_349, aCod_349, ma_49 e, mR_50, aLen_350, aCod_350, ma_50 e, mR_51, aLen_351, aCod_351, ma_51 e, mR_52, aLen_352, aCod_352, ma_52 e, mR_53, aLen_353, aCod_353, ma_53 e, hpL]
      refine ⟨by first | exact vpi (by omega) | with_reducible exact vp_in_nI (by omega) (by omega), ?_⟩
      refine qi' ?_ (by repeat (first | exact z_sC.rf | exact hsc | refine z_sC.I ?_ (by decide) | refine z_sC.L ?_ (by decide))) hM'
      simp only [mv_thr, e]
      unfold o_line
      (repeat' split) <;> (first | rfl | (exfalso; omega))
    · by_cases qt3 : (what).toInt = 1
      · refine z_swA 67 1 qt3 rfl ?_
        refine st b_X12_line_67 _ _ k_X12_line_67 _ _ _ _ _ ?_
        simp only [b_X12_line_67, zr_T, zr_aload_n0, zr_get2, zr_iald, zr_iload_n1, zr_iret, zr_rt_a, zr_rt_i, zr_rt_l, zr_rt_n, zr_rt_z, zr_nil, zr_cons, ↓reduceIte, Nat.reduceAdd, Nat.reduceEqDiff, Nat.reduceLeDiff, Nat.reduceMul, Nat.reduceSub, Int32.reduceOfInt, Int64.reduceOfInt, Int64.reduceOfNat, true_and, and_true, false_and, and_false, or_false, false_or, true_or, or_true, Int.reduceEq, reduceCtorEq, or_self, and_self, ne_eq, not_false_eq_true, not_true_eq_false, eq_self, Nat.le_refl, Nat.zero_le, zr_eI, zr_eL, zr_eR, zr_pI, zr_pL, zr_pR, zr_pO, zr_pV, zq_pA0, zq_pA, zr_get, zr_put_n, zr_put, zr_rem_n, zr_rem, zr_cat_i, zr_cat_l, zr_cat_q, zr_w_n, zr_w, zr_args_n, zr_args, zr_tl_s, zr_tl_n, zr_hIsI, zr_hLsL, zr_hRsR, zr_hIsL, zr_hIsR, zr_hLsI, zr_hLsR, zr_hRsI, zr_hRsL, zr_hNsI, zr_hNsL, zr_hNsR, zr_hZsI, zr_hZsL, zr_hZsR, b2_01, Classical.not_not, Int32.toInt_toInt64, Int64.reduceToInt, zc_1000, zc_100, zc_10, zc_9, zc_2, ci_f, hM, ms_19 e, mR_49, aLen_349, aCod_349, ma_49 e, mR_50, aLen_350, aCod_350, ma_50 e, mR_51, aLen_351, aCod_351, ma_51 e, mR_52, aLen_352, aCod_352, ma_52 e, mR_53, aLen_353, aCod_353, ma_53 e, hpL]
        refine ⟨by first | exact vpi (by omega) | with_reducible exact vp_in_nI (by omega) (by omega), ?_⟩
        refine qi' ?_ (by repeat (first | exact z_sC.rf | exact hsc | refine z_sC.I ?_ (by decide) | refine z_sC.L ?_ (by decide))) hM'
        simp only [mv_thr, e]
        unfold o_line
        (repeat' split) <;> (first | rfl | (exfalso; omega))
      · by_cases qt4 : (what).toInt = 2
        · refine z_swA 74 2 qt4 rfl ?_
          refine st b_X12_line_74 _ _ k_X12_line_74 _ _ _ _ _ ?_
          simp only [b_X12_line_74, zr_T, zr_aload_n0, zr_get2, zr_iald, zr_iload_n1, zr_iret, zr_rt_a, zr_rt_i, zr_rt_l, zr_rt_n, zr_rt_z, zr_nil, zr_cons, ↓reduceIte, Nat.reduceAdd, Nat.reduceEqDiff, Nat.reduceLeDiff, Nat.reduceMul, Nat.reduceSub, Int32.reduceOfInt, Int64.reduceOfInt, Int64.reduceOfNat, true_and, and_true, false_and, and_false, or_false, false_or, true_or, or_true, Int.reduceEq, reduceCtorEq, or_self, and_self, ne_eq, not_false_eq_true, not_true_eq_false, eq_self, Nat.le_refl, Nat.zero_le, zr_eI, zr_eL, zr_eR, zr_pI, zr_pL, zr_pR, zr_pO, zr_pV, zq_pA0, zq_pA, zr_get, zr_put_n, zr_put, zr_rem_n, zr_rem, zr_cat_i, zr_cat_l, zr_cat_q, zr_w_n, zr_w, zr_args_n, zr_args, zr_tl_s, zr_tl_n, zr_hIsI, zr_hLsL, zr_hRsR, zr_hIsL, zr_hIsR, zr_hLsI, zr_hLsR, zr_hRsI, zr_hRsL, zr_hNsI, zr_hNsL, zr_hNsR, zr_hZsI, zr_hZsL, zr_hZsR, b2_01, Classical.not_not, Int32.toInt_toInt64, Int64.reduceToInt, zc_1000, zc_100, zc_10, zc_9, zc_2, ci_f, hM, ms_19 e, mR_49, aLen_349, aCod_349, ma_49 e, mR_50, aLen_350, aCod_350, ma_50 e, mR_51, aLen_351, aCod_351, ma_51 e, mR_52, aLen_352, aCod_352, ma_52 e, mR_53, aLen_353, aCod_353, ma_53 e, hpL]
          refine ⟨by first | exact vpi (by omega) | with_reducible exact vp_in_nI (by omega) (by omega), ?_⟩
          refine qi' ?_ (by repeat (first | exact z_sC.rf | exact hsc | refine z_sC.I ?_ (by decide) | refine z_sC.L ?_ (by decide))) hM'
          simp only [mv_thr, e]
          unfold o_line
          (repeat' split) <;> (first | rfl | (exfalso; omega))
        · by_cases qt5 : (what).toInt = 3
          · refine z_swA 81 3 qt5 rfl ?_
            refine st b_X12_line_81 _ _ k_X12_line_81 _ _ _ _ _ ?_
            simp only [b_X12_line_81, zr_T, zr_aload_n0, zr_get2, zr_iald, zr_iload_n1, zr_iret, zr_rt_a, zr_rt_i, zr_rt_l, zr_rt_n, zr_rt_z, zr_nil, zr_cons, ↓reduceIte, Nat.reduceAdd, Nat.reduceEqDiff, Nat.reduceLeDiff, Nat.reduceMul, Nat.reduceSub, Int32.reduceOfInt, Int64.reduceOfInt, Int64.reduceOfNat, true_and, and_true, false_and, and_false, or_false, false_or, true_or, or_true, Int.reduceEq, reduceCtorEq, or_self, and_self, ne_eq, not_false_eq_true, not_true_eq_false, eq_self, Nat.le_refl, Nat.zero_le, zr_eI, zr_eL, zr_eR, zr_pI, zr_pL, zr_pR, zr_pO, zr_pV, zq_pA0, zq_pA, zr_get, zr_put_n, zr_put, zr_rem_n, zr_rem, zr_cat_i, zr_cat_l, zr_cat_q, zr_w_n, zr_w, zr_args_n, zr_args, zr_tl_s, zr_tl_n, zr_hIsI, zr_hLsL, zr_hRsR, zr_hIsL, zr_hIsR, zr_hLsI, zr_hLsR, zr_hRsI, zr_hRsL, zr_hNsI, zr_hNsL, zr_hNsR, zr_hZsI, zr_hZsL, zr_hZsR, b2_01, Classical.not_not, Int32.toInt_toInt64, Int64.reduceToInt, zc_1000, zc_100, zc_10, zc_9, zc_2, ci_f, hM, ms_19 e, mR_49, aLen_349, aCod_349, ma_49 e, mR_50, aLen_350, aCod_350, ma_50 e, mR_51, aLen_351, aCod_351, ma_51 e, mR_52, aLen_352, aCod_352, ma_52 e, mR_53, aLen_353, aCod_353, ma_53 e, hpL]
            refine ⟨by first | exact vpi (by omega) | with_reducible exact vp_in_nI (by omega) (by omega), ?_⟩
            refine qi' ?_ (by repeat (first | exact z_sC.rf | exact hsc | refine z_sC.I ?_ (by decide) | refine z_sC.L ?_ (by decide))) hM'
            simp only [mv_thr, e]
            unfold o_line
            (repeat' split) <;> (first | rfl | (exfalso; omega))
          · by_cases qt6 : (what).toInt = 4
            · refine z_swA 88 4 qt6 rfl ?_
              refine st b_X12_line_88 _ _ k_X12_line_88 _ _ _ _ _ ?_
              simp only [b_X12_line_88, zr_T, zr_aload_n0, zr_get2, zr_iald, zr_iload_n1, zr_iret, zr_rt_a, zr_rt_i, zr_rt_l, zr_rt_n, zr_rt_z, zr_nil, zr_cons, ↓reduceIte, Nat.reduceAdd, Nat.reduceEqDiff, Nat.reduceLeDiff, Nat.reduceMul, Nat.reduceSub, Int32.reduceOfInt, Int64.reduceOfInt, Int64.reduceOfNat, true_and, and_true, false_and, and_false, or_false, false_or, true_or, or_true, Int.reduceEq, reduceCtorEq, or_self, and_self, ne_eq, not_false_eq_true, not_true_eq_false, eq_self, Nat.le_refl, Nat.zero_le, zr_eI, zr_eL, zr_eR, zr_pI, zr_pL, zr_pR, zr_pO, zr_pV, zq_pA0, zq_pA, zr_get, zr_put_n, zr_put, zr_rem_n, zr_rem, zr_cat_i, zr_cat_l, zr_cat_q, zr_w_n, zr_w, zr_args_n, zr_args, zr_tl_s, zr_tl_n, zr_hIsI, zr_hLsL, zr_hRsR, zr_hIsL, zr_hIsR, zr_hLsI, zr_hLsR, zr_hRsI, zr_hRsL, zr_hNsI, zr_hNsL, zr_hNsR, zr_hZsI, zr_hZsL, zr_hZsR, b2_01, Classical.not_not, Int32.toInt_toInt64, Int64.reduceToInt, zc_1000, zc_100, zc_10, zc_9, zc_2, ci_f, hM, ms_19 e, mR_49, aLen_349, aCod_349, ma_49 e, mR_50, aLen_350, aCod_350, ma_50 e, mR_51, aLen_351, aCod_351, ma_51 e, mR_52, aLen_352, aCod_352, ma_52 e, mR_53, aLen_353, aCod_353, ma_53 e, hpL]
              refine ⟨by first | exact vpi (by omega) | with_reducible exact vp_in_nI (by omega) (by omega), ?_⟩
              refine qi' ?_ (by repeat (first | exact z_sC.rf | exact hsc | refine z_sC.I ?_ (by decide) | refine z_sC.L ?_ (by decide))) hM'
              simp only [mv_thr, e]
              unfold o_line
              (repeat' split) <;> (first | rfl | (exfalso; omega))
            · refine z_swD 95 (by omega) rfl ?_
              refine st b_X12_line_95 _ _ k_X12_line_95 _ _ _ _ _ ?_
              simp only [b_X12_line_95, zr_T, zr_bipush, zr_iret, zr_rt_a, zr_rt_i, zr_rt_l, zr_rt_n, zr_rt_z, zr_nil, zr_cons, ↓reduceIte, Nat.reduceAdd, Nat.reduceEqDiff, Nat.reduceLeDiff, Nat.reduceMul, Nat.reduceSub, Int32.reduceOfInt, Int64.reduceOfInt, Int64.reduceOfNat, true_and, and_true, false_and, and_false, or_false, false_or, true_or, or_true, Int.reduceEq, reduceCtorEq, or_self, and_self, ne_eq, not_false_eq_true, not_true_eq_false, eq_self, Nat.le_refl, Nat.zero_le, zr_eI, zr_eL, zr_eR, zr_pI, zr_pL, zr_pR, zr_pO, zr_pV, zq_pA0, zq_pA, zr_get, zr_put_n, zr_put, zr_rem_n, zr_rem, zr_cat_i, zr_cat_l, zr_cat_q, zr_w_n, zr_w, zr_args_n, zr_args, zr_tl_s, zr_tl_n, zr_hIsI, zr_hLsL, zr_hRsR, zr_hIsL, zr_hIsR, zr_hLsI, zr_hLsR, zr_hRsI, zr_hRsL, zr_hNsI, zr_hNsL, zr_hNsR, zr_hZsI, zr_hZsL, zr_hZsR, b2_01, Classical.not_not, Int32.toInt_toInt64, Int64.reduceToInt, zc_1000, zc_100, zc_10, zc_9, zc_2, ci_f, hM, ms_19 e, mR_49, aLen_349, aCod_349, ma_49 e, mR_50, aLen_350, aCod_350, ma_50 e, mR_51, aLen_351, aCod_351, ma_51 e, mR_52, aLen_352, aCod_352, ma_52 e, mR_53, aLen_353, aCod_353, ma_53 e, hpL]
              refine qi' ?_ (by repeat (first | exact z_sC.rf | exact hsc | refine z_sC.I ?_ (by decide) | refine z_sC.L ?_ (by decide))) hM'
              simp only [mv_thr, e]
              unfold o_line
              (repeat' split) <;> (first | rfl | (exfalso; omega))
  · try simp only [b2_0, Classical.not_not] at qc1
    try simp only [Int64.le_iff_toInt_le, Int64.lt_iff_toInt_lt, Int32.lt_iff_toInt_lt, Int32.le_iff_toInt_le, Int32.toInt_toInt64, Int64.reduceToInt, Int32.reduceToInt, Int.reduceNeg, Classical.not_not, i32e, l_add] at qc1
    refine qi' ?_ (by repeat (first | exact z_sC.rf | exact hsc | refine z_sC.I ?_ (by decide) | refine z_sC.L ?_ (by decide))) hM'
    simp only [mv_thr, e]
    unfold o_line
    (repeat' split) <;> (first | rfl | (exfalso; omega))
theorem m_orderOf (l : Launch) (G : z_G) (d : Nat) (hd : 3 ≤ d) (S : z_M) (h : z_H) (e : mv h = S) (hM : z_MR h) (inv : INV S) (a what : Int32) : z_MT l G d yX12_orderOf cX12_orderOf 3 (some .int) [z_r 14 0, z_i a, z_i what] h 0 0 (Qi h (o_orderOf S a what, S)) := by
  have hM' := hM
  unfold z_MR at hM
  have huO : nO S = ci (mS S 18) := rfl
  have htO := inv.cO.t
  have hbO := inv.cO.2
  have hpO : (mS S 18 - 1).toInt = (ci (mS S 18) : Int) - 1 := by
    rw [sub32 (by rw [htO, show (1 : Int32).toInt = 1 from rfl]; omega) (by rw [htO, show (1 : Int32).toInt = 1 from rfl]; omega), htO]
    rfl
  refine z_mt2 14 false ⟨by decide, rfl, fun q => absurd q (by decide)⟩ (by show 3 ≤ 3; decide) (fun A st wk => ?_)
  refine st b_X12_orderOf_0 _ _ k_X12_orderOf_0 _ _ _ _ _ ?_
  simp only [b_X12_orderOf_0, zr_T, zr_aload_n0, zr_bipush, zr_cP_ne, zr_call1, zr_get0, zr_i2l, zr_iconst, zr_ifc, zr_iload_n1, zr_iret, zr_isub, zr_lconst0, zr_put0, zr_rt_a, zr_rt_i, zr_rt_l, zr_rt_n, zr_rt_z, zr_nil, zr_cons, ↓reduceIte, Nat.reduceAdd, Nat.reduceEqDiff, Nat.reduceLeDiff, Nat.reduceMul, Nat.reduceSub, Int32.reduceOfInt, Int64.reduceOfInt, Int64.reduceOfNat, true_and, and_true, false_and, and_false, or_false, false_or, true_or, or_true, Int.reduceEq, reduceCtorEq, or_self, and_self, ne_eq, not_false_eq_true, not_true_eq_false, eq_self, Nat.le_refl, Nat.zero_le, zr_eI, zr_eL, zr_eR, zr_pI, zr_pL, zr_pR, zr_pO, zr_pV, zq_pA0, zq_pA, zr_get, zr_put_n, zr_put, zr_rem_n, zr_rem, zr_cat_i, zr_cat_l, zr_cat_q, zr_w_n, zr_w, zr_args_n, zr_args, zr_tl_s, zr_tl_n, zr_hIsI, zr_hLsL, zr_hRsR, zr_hIsL, zr_hIsR, zr_hLsI, zr_hLsR, zr_hRsI, zr_hRsL, zr_hNsI, zr_hNsL, zr_hNsR, zr_hZsI, zr_hZsL, zr_hZsR, b2_01, Classical.not_not, Int32.toInt_toInt64, Int64.reduceToInt, zc_1000, zc_100, zc_10, zc_9, zc_2, ci_f, hM, ms_18 e, mR_37, aLen_337, aCod_337, ma_37 e, mR_38, aLen_338, aCod_338, ma_38 e, mR_39, aLen_339, aCod_339, ma_39 e, mR_40, aLen_340, aCod_340, ma_40 e, mR_42, aLen_342, aCod_342, ma_42 e, mR_43, aLen_343, aCod_343, ma_43 e, mR_48, aLen_348, aCod_348, ma_48 e, hpO]
  refine cp0 (by omega) lk_X12_177 trivial (m_in l G _ _ _ _ _) (Nat.le_refl _) (Nat.le_refl _) ?_
  simp only [zr_T, zr_bipush, zr_cP_ne, zr_ifc, zr_iret, zr_rt_a, zr_rt_i, zr_rt_l, zr_rt_n, zr_rt_z, zr_nil, zr_cons, ↓reduceIte, Nat.reduceAdd, Nat.reduceEqDiff, Nat.reduceLeDiff, Nat.reduceMul, Nat.reduceSub, Int32.reduceOfInt, Int64.reduceOfInt, Int64.reduceOfNat, true_and, and_true, false_and, and_false, or_false, false_or, true_or, or_true, Int.reduceEq, reduceCtorEq, or_self, and_self, ne_eq, not_false_eq_true, not_true_eq_false, eq_self, Nat.le_refl, Nat.zero_le, zr_eI, zr_eL, zr_eR, zr_pI, zr_pL, zr_pR, zr_pO, zr_pV, zq_pA0, zq_pA, zr_get, zr_put_n, zr_put, zr_rem_n, zr_rem, zr_cat_i, zr_cat_l, zr_cat_q, zr_w_n, zr_w, zr_args_n, zr_args, zr_tl_s, zr_tl_n, zr_hIsI, zr_hLsL, zr_hRsR, zr_hIsL, zr_hIsR, zr_hLsI, zr_hLsR, zr_hRsI, zr_hRsL, zr_hNsI, zr_hNsL, zr_hNsR, zr_hZsI, zr_hZsL, zr_hZsR, b2_01, Classical.not_not, Int32.toInt_toInt64, Int64.reduceToInt, zc_1000, zc_100, zc_10, zc_9, zc_2, ci_f, hM, ms_18 e, mR_37, aLen_337, aCod_337, ma_37 e, mR_38, aLen_338, aCod_338, ma_38 e, mR_39, aLen_339, aCod_339, ma_39 e, mR_40, aLen_340, aCod_340, ma_40 e, mR_42, aLen_342, aCod_342, ma_42 e, mR_43, aLen_343, aCod_343, ma_43 e, mR_48, aLen_348, aCod_348, ma_48 e, hpO]
  refine ⟨fun qc1 => ?_, fun qc1 => ?_⟩
  · try simp only [b2_0, Classical.not_not] at qc1
    try simp only [Int64.le_iff_toInt_le, Int64.lt_iff_toInt_lt, Int32.lt_iff_toInt_lt, Int32.le_iff_toInt_le, Int32.toInt_toInt64, Int64.reduceToInt, Int32.reduceToInt, Int.reduceNeg, Classical.not_not, i32e, l_add] at qc1
    refine st b_X12_orderOf_24 _ _ k_X12_orderOf_24 _ _ _ _ _ ?_
    simp only [b_X12_orderOf_24, zr_iload_n2, zr_tsw, zr_nil, zr_cons, ↓reduceIte, Nat.reduceAdd, Nat.reduceEqDiff, Nat.reduceLeDiff, Nat.reduceMul, Nat.reduceSub, Int32.reduceOfInt, Int64.reduceOfInt, Int64.reduceOfNat, true_and, and_true, false_and, and_false, or_false, false_or, true_or, or_true, Int.reduceEq, reduceCtorEq, or_self, and_self, ne_eq, not_false_eq_true, not_true_eq_false, eq_self, Nat.le_refl, Nat.zero_le, zr_eI, zr_eL, zr_eR, zr_pI, zr_pL, zr_pR, zr_pO, zr_pV, zq_pA0, zq_pA, zr_get, zr_put_n, zr_put, zr_rem_n, zr_rem, zr_cat_i, zr_cat_l, zr_cat_q, zr_w_n, zr_w, zr_args_n, zr_args, zr_tl_s, zr_tl_n, zr_hIsI, zr_hLsL, zr_hRsR, zr_hIsL, zr_hIsR, zr_hLsI, zr_hLsR, zr_hRsI, zr_hRsL, zr_hNsI, zr_hNsL, zr_hNsR, zr_hZsI, zr_hZsL, zr_hZsR, b2_01, Classical.not_not, Int32.toInt_toInt64, Int64.reduceToInt, zc_1000, zc_100, zc_10, zc_9, zc_2, ci_f, hM, ms_18 e, mR_37, aLen_337, aCod_337, ma_37 e, mR_38, aLen_338, aCod_338, ma_38 e, mR_39, aLen_339, aCod_339, ma_39 e, mR_40, aLen_340, aCod_340, ma_40 e, mR_42, aLen_342, aCod_342, ma_42 e, mR_43, aLen_343, aCod_343, ma_43 e, mR_48, aLen_348, aCod_348, ma_48 e, hpO]
    by_cases qt2 : (what).toInt = 0
    · refine z_swA 68 0 qt2 rfl ?_
      refine st b_X12_orderOf_68 _ _ k_X12_orderOf_68 _ _ _ _ _ ?_
      simp only [b_X12_orderOf_68, zr_T, zr_aload_n0, zr_get2, zr_iald, zr_iload_n1, zr_iret, zr_rt_a, zr_rt_i, zr_rt_l, zr_rt_n, zr_rt_z, zr_nil, zr_cons, ↓reduceIte, Nat.reduceAdd, Nat.reduceEqDiff, Nat.reduceLeDiff, Nat.reduceMul, Nat.reduceSub, Int32.reduceOfInt, Int64.reduceOfInt, Int64.reduceOfNat, true_and, and_true, false_and, and_false, or_false, false_or, true_or, or_true, Int.reduceEq, reduceCtorEq, or_self, and_self, ne_eq, not_false_eq_true, not_true_eq_false, eq_self, Nat.le_refl, Nat.zero_le, zr_eI, zr_eL, zr_eR, zr_pI, zr_pL, zr_pR, zr_pO, zr_pV, zq_pA0, zq_pA, zr_get, zr_put_n, zr_put, zr_rem_n, zr_rem, zr_cat_i, zr_cat_l, zr_cat_q, zr_w_n, zr_w, zr_args_n, zr_args, zr_tl_s, zr_tl_n, zr_hIsI, zr_hLsL, zr_hRsR, zr_hIsL, zr_hIsR, zr_hLsI, zr_hLsR, zr_hRsI, zr_hRsL, zr_hNsI, zr_hNsL, zr_hNsR, zr_hZsI, zr_hZsL, zr_hZsR, b2_01, Classical.not_not, Int32.toInt_toInt64, Int64.reduceToInt, zc_1000, zc_100, zc_10, zc_9, zc_2, ci_f, hM, ms_18 e, mR_37, aLen_337, aCod_337, ma_37 e, mR_38, aLen_338, aCod_338, ma_38 e, mR_39, aLen_339, aCod_339, ma_39 e, mR_40, aLen_340, aCod_340, ma_40 e, mR_42, aLen_342, aCod_342, ma_42 e, mR_43, aLen_343, aCod_343, ma_43 e, mR_48, aLen_348, aCod_348, ma_48 e, hpO]
      refine ⟨by first | exact vpi (by omega) | with_reducible exact vp_in_nI (by omega) (by omega), ?_⟩
      refine qi' ?_ (by repeat (first | exact z_sC.rf | exact hsc | refine z_sC.I ?_ (by decide) | refine z_sC.L ?_ (by decide))) hM'
      simp only [mv_thr, e]
      unfold o_orderOf
      (repeat' split) <;> (first | rfl | (exfalso; omega))
    · by_cases qt3 : (what).toInt = 1
      · refine z_swA 75 1 qt3 rfl ?_
        refine st b_X12_orderOf_75 _ _ k_X12_orderOf_75 _ _ _ _ _ ?_
        simp only [b_X12_orderOf_75, zr_T, zr_aload_n0, zr_get2, zr_iald, zr_iload_n1, zr_iret, zr_rt_a, zr_rt_i, zr_rt_l, zr_rt_n, zr_rt_z, zr_nil, zr_cons, ↓reduceIte, Nat.reduceAdd, Nat.reduceEqDiff, Nat.reduceLeDiff, Nat.reduceMul, Nat.reduceSub, Int32.reduceOfInt, Int64.reduceOfInt, Int64.reduceOfNat, true_and, and_true, false_and, and_false, or_false, false_or, true_or, or_true, Int.reduceEq, reduceCtorEq, or_self, and_self, ne_eq, not_false_eq_true, not_true_eq_false, eq_self, Nat.le_refl, Nat.zero_le, zr_eI, zr_eL, zr_eR, zr_pI, zr_pL, zr_pR, zr_pO, zr_pV, zq_pA0, zq_pA, zr_get, zr_put_n, zr_put, zr_rem_n, zr_rem, zr_cat_i, zr_cat_l, zr_cat_q, zr_w_n, zr_w, zr_args_n, zr_args, zr_tl_s, zr_tl_n, zr_hIsI, zr_hLsL, zr_hRsR, zr_hIsL, zr_hIsR, zr_hLsI, zr_hLsR, zr_hRsI, zr_hRsL, zr_hNsI, zr_hNsL, zr_hNsR, zr_hZsI, zr_hZsL, zr_hZsR, b2_01, Classical.not_not, Int32.toInt_toInt64, Int64.reduceToInt, zc_1000, zc_100, zc_10, zc_9, zc_2, ci_f, hM, ms_18 e, mR_37, aLen_337, aCod_337, ma_37 e, mR_38, aLen_338, aCod_338, ma_38 e, mR_39, aLen_339, aCod_339, ma_39 e, mR_40, aLen_340, aCod_340, ma_40 e, mR_42, aLen_342, aCod_342, ma_42 e, mR_43, aLen_343, aCod_343, ma_43 e, mR_48, aLen_348, aCod_348, ma_48 e, hpO]
        refine ⟨by first | exact vpi (by omega) | with_reducible exact vp_in_nI (by omega) (by omega), ?_⟩
        refine qi' ?_ (by repeat (first | exact z_sC.rf | exact hsc | refine z_sC.I ?_ (by decide) | refine z_sC.L ?_ (by decide))) hM'
        simp only [mv_thr, e]
        unfold o_orderOf
        (repeat' split) <;> (first | rfl | (exfalso; omega))
      · by_cases qt4 : (what).toInt = 2
        · refine z_swA 82 2 qt4 rfl ?_
          refine st b_X12_orderOf_82 _ _ k_X12_orderOf_82 _ _ _ _ _ ?_
          simp only [b_X12_orderOf_82, zr_T, zr_aload_n0, zr_get2, zr_iald, zr_iload_n1, zr_iret, zr_rt_a, zr_rt_i, zr_rt_l, zr_rt_n, zr_rt_z, zr_nil, zr_cons, ↓reduceIte, Nat.reduceAdd, Nat.reduceEqDiff, Nat.reduceLeDiff, Nat.reduceMul, Nat.reduceSub, Int32.reduceOfInt, Int64.reduceOfInt, Int64.reduceOfNat, true_and, and_true, false_and, and_false, or_false, false_or, true_or, or_true, Int.reduceEq, reduceCtorEq, or_self, and_self, ne_eq, not_false_eq_true, not_true_eq_false, eq_self, Nat.le_refl, Nat.zero_le, zr_eI, zr_eL, zr_eR, zr_pI, zr_pL, zr_pR, zr_pO, zr_pV, zq_pA0, zq_pA, zr_get, zr_put_n, zr_put, zr_rem_n, zr_rem, zr_cat_i, zr_cat_l, zr_cat_q, zr_w_n, zr_w, zr_args_n, zr_args, zr_tl_s, zr_tl_n, zr_hIsI, zr_hLsL, zr_hRsR, zr_hIsL, zr_hIsR, zr_hLsI, zr_hLsR, zr_hRsI, zr_hRsL, zr_hNsI, zr_hNsL, zr_hNsR, zr_hZsI, zr_hZsL, zr_hZsR, b2_01, Classical.not_not, Int32.toInt_toInt64, Int64.reduceToInt, zc_1000, zc_100, zc_10, zc_9, zc_2, ci_f, hM, ms_18 e, mR_37, aLen_337, aCod_337, ma_37 e, mR_38, aLen_338, aCod_338, ma_38 e, mR_39, aLen_339, aCod_339, ma_39 e, mR_40, aLen_340, aCod_340, ma_40 e, mR_42, aLen_342, aCod_342, ma_42 e, mR_43, aLen_343, aCod_343, ma_43 e, mR_48, aLen_348, aCod_348, ma_48 e, hpO]
          refine ⟨by first | exact vpi (by omega) | with_reducible exact vp_in_nI (by omega) (by omega), ?_⟩
          refine qi' ?_ (by repeat (first | exact z_sC.rf | exact hsc | refine z_sC.I ?_ (by decide) | refine z_sC.L ?_ (by decide))) hM'
          simp only [mv_thr, e]
          unfold o_orderOf
          (repeat' split) <;> (first | rfl | (exfalso; omega))
        · by_cases qt5 : (what).toInt = 3
          · refine z_swA 89 3 qt5 rfl ?_
            refine st b_X12_orderOf_89 _ _ k_X12_orderOf_89 _ _ _ _ _ ?_
            simp only [b_X12_orderOf_89, zr_T, zr_aload_n0, zr_get2, zr_iald, zr_iload_n1, zr_iret, zr_rt_a, zr_rt_i, zr_rt_l, zr_rt_n, zr_rt_z, zr_nil, zr_cons, ↓reduceIte, Nat.reduceAdd, Nat.reduceEqDiff, Nat.reduceLeDiff, Nat.reduceMul, Nat.reduceSub, Int32.reduceOfInt, Int64.reduceOfInt, Int64.reduceOfNat, true_and, and_true, false_and, and_false, or_false, false_or, true_or, or_true, Int.reduceEq, reduceCtorEq, or_self, and_self, ne_eq, not_false_eq_true, not_true_eq_false, eq_self, Nat.le_refl, Nat.zero_le, zr_eI, zr_eL, zr_eR, zr_pI, zr_pL, zr_pR, zr_pO, zr_pV, zq_pA0, zq_pA, zr_get, zr_put_n, zr_put, zr_rem_n, zr_rem, zr_cat_i, zr_cat_l, zr_cat_q, zr_w_n, zr_w, zr_args_n, zr_args, zr_tl_s, zr_tl_n, zr_hIsI, zr_hLsL, zr_hRsR, zr_hIsL, zr_hIsR, zr_hLsI, zr_hLsR, zr_hRsI, zr_hRsL, zr_hNsI, zr_hNsL, zr_hNsR, zr_hZsI, zr_hZsL, zr_hZsR, b2_01, Classical.not_not, Int32.toInt_toInt64, Int64.reduceToInt, zc_1000, zc_100, zc_10, zc_9, zc_2, ci_f, hM, ms_18 e, mR_37, aLen_337, aCod_337, ma_37 e, mR_38, aLen_338, aCod_338, ma_38 e, mR_39, aLen_339, aCod_339, ma_39 e, mR_40, aLen_340, aCod_340, ma_40 e, mR_42, aLen_342, aCod_342, ma_42 e, mR_43, aLen_343, aCod_343, ma_43 e, mR_48, aLen_348, aCod_348, ma_48 e, hpO]
            refine ⟨by first | exact vpi (by omega) | with_reducible exact vp_in_nI (by omega) (by omega), ?_⟩
            refine qi' ?_ (by repeat (first | exact z_sC.rf | exact hsc | refine z_sC.I ?_ (by decide) | refine z_sC.L ?_ (by decide))) hM'
            simp only [mv_thr, e]
            unfold o_orderOf
            (repeat' split) <;> (first | rfl | (exfalso; omega))
          · by_cases qt6 : (what).toInt = 4
            · refine z_swA 96 4 qt6 rfl ?_
              refine st b_X12_orderOf_96 _ _ k_X12_orderOf_96 _ _ _ _ _ ?_
              simp only [b_X12_orderOf_96, zr_T, zr_aload_n0, zr_get2, zr_iald, zr_iload_n1, zr_iret, zr_rt_a, zr_rt_i, zr_rt_l, zr_rt_n, zr_rt_z, zr_nil, zr_cons, ↓reduceIte, Nat.reduceAdd, Nat.reduceEqDiff, Nat.reduceLeDiff, Nat.reduceMul, Nat.reduceSub, Int32.reduceOfInt, Int64.reduceOfInt, Int64.reduceOfNat, true_and, and_true, false_and, and_false, or_false, false_or, true_or, or_true, Int.reduceEq, reduceCtorEq, or_self, and_self, ne_eq, not_false_eq_true, not_true_eq_false, eq_self, Nat.le_refl, Nat.zero_le, zr_eI, zr_eL, zr_eR, zr_pI, zr_pL, zr_pR, zr_pO, zr_pV, zq_pA0, zq_pA, zr_get, zr_put_n, zr_put, zr_rem_n, zr_rem, zr_cat_i, zr_cat_l, zr_cat_q, zr_w_n, zr_w, zr_args_n, zr_args, zr_tl_s, zr_tl_n, zr_hIsI, zr_hLsL, zr_hRsR, zr_hIsL, zr_hIsR, zr_hLsI, zr_hLsR, zr_hRsI, zr_hRsL, zr_hNsI, zr_hNsL, zr_hNsR, zr_hZsI, zr_hZsL, zr_hZsR, b2_01, Classical.not_not, Int32.toInt_toInt64, Int64.reduceToInt, zc_1000, zc_100, zc_10, zc_9, zc_2, ci_f, hM, ms_18 e, mR_37, aLen_337, aCod_337, ma_37 e, mR_38, aLen_338, aCod_338, ma_38 e, mR_39, aLen_339, aCod_339, ma_39 e, mR_40, aLen_340, aCod_340, ma_40 e, mR_42, aLen_342, aCod_342, ma_42 e, mR_43, aLen_343, aCod_343, ma_43 e, mR_48, aLen_348, aCod_348, ma_48 e, hpO]
              refine ⟨by first | exact vpi (by omega) | with_reducible exact vp_in_nI (by omega) (by omega), ?_⟩
              refine qi' ?_ (by repeat (first | exact z_sC.rf | exact hsc | refine z_sC.I ?_ (by decide) | refine z_sC.L ?_ (by decide))) hM'
              simp only [mv_thr, e]
              unfold o_orderOf
              (repeat' split) <;> (first | rfl | (exfalso; omega))
            · by_cases qt7 : (what).toInt = 5
              · refine z_swA 103 5 qt7 rfl ?_
                refine st b_X12_orderOf_103 _ _ k_X12_orderOf_103 _ _ _ _ _ ?_
                simp only [b_X12_orderOf_103, zr_T, zr_aload_n0, zr_get2, zr_iald, zr_iload_n1, zr_iret, zr_rt_a, zr_rt_i, zr_rt_l, zr_rt_n, zr_rt_z, zr_nil, zr_cons, ↓reduceIte, Nat.reduceAdd, Nat.reduceEqDiff, Nat.reduceLeDiff, Nat.reduceMul, Nat.reduceSub, Int32.reduceOfInt, Int64.reduceOfInt, Int64.reduceOfNat, true_and, and_true, false_and, and_false, or_false, false_or, true_or, or_true, Int.reduceEq, reduceCtorEq, or_self, and_self, ne_eq, not_false_eq_true, not_true_eq_false, eq_self, Nat.le_refl, Nat.zero_le, zr_eI, zr_eL, zr_eR, zr_pI, zr_pL, zr_pR, zr_pO, zr_pV, zq_pA0, zq_pA, zr_get, zr_put_n, zr_put, zr_rem_n, zr_rem, zr_cat_i, zr_cat_l, zr_cat_q, zr_w_n, zr_w, zr_args_n, zr_args, zr_tl_s, zr_tl_n, zr_hIsI, zr_hLsL, zr_hRsR, zr_hIsL, zr_hIsR, zr_hLsI, zr_hLsR, zr_hRsI, zr_hRsL, zr_hNsI, zr_hNsL, zr_hNsR, zr_hZsI, zr_hZsL, zr_hZsR, b2_01, Classical.not_not, Int32.toInt_toInt64, Int64.reduceToInt, zc_1000, zc_100, zc_10, zc_9, zc_2, ci_f, hM, ms_18 e, mR_37, aLen_337, aCod_337, ma_37 e, mR_38, aLen_338, aCod_338, ma_38 e, mR_39, aLen_339, aCod_339, ma_39 e, mR_40, aLen_340, aCod_340, ma_40 e, mR_42, aLen_342, aCod_342, ma_42 e, mR_43, aLen_343, aCod_343, ma_43 e, mR_48, aLen_348, aCod_348, ma_48 e, hpO]
                refine ⟨by first | exact vpi (by omega) | with_reducible exact vp_in_nI (by omega) (by omega), ?_⟩
                refine qi' ?_ (by repeat (first | exact z_sC.rf | exact hsc | refine z_sC.I ?_ (by decide) | refine z_sC.L ?_ (by decide))) hM'
                simp only [mv_thr, e]
                unfold o_orderOf
                (repeat' split) <;> (first | rfl | (exfalso; omega))
              · by_cases qt8 : (what).toInt = 6
                · refine z_swA 110 6 qt8 rfl ?_
                  refine st b_X12_orderOf_110 _ _ k_X12_orderOf_110 _ _ _ _ _ ?_
                  simp only [b_X12_orderOf_110, zr_aload_n0, zr_bald, zr_cP_eq, zr_get2, zr_goto, zr_iconst, zr_ifc, zr_iload_n1, zr_nil, zr_cons, ↓reduceIte, Nat.reduceAdd, Nat.reduceEqDiff, Nat.reduceLeDiff, Nat.reduceMul, Nat.reduceSub, Int32.reduceOfInt, Int64.reduceOfInt, Int64.reduceOfNat, true_and, and_true, false_and, and_false, or_false, false_or, true_or, or_true, Int.reduceEq, reduceCtorEq, or_self, and_self, ne_eq, not_false_eq_true, not_true_eq_false, eq_self, Nat.le_refl, Nat.zero_le, zr_eI, zr_eL, zr_eR, zr_pI, zr_pL, zr_pR, zr_pO, zr_pV, zq_pA0, zq_pA, zr_get, zr_put_n, zr_put, zr_rem_n, zr_rem, zr_cat_i, zr_cat_l, zr_cat_q, zr_w_n, zr_w, zr_args_n, zr_args, zr_tl_s, zr_tl_n, zr_hIsI, zr_hLsL, zr_hRsR, zr_hIsL, zr_hIsR, zr_hLsI, zr_hLsR, zr_hRsI, zr_hRsL, zr_hNsI, zr_hNsL, zr_hNsR, zr_hZsI, zr_hZsL, zr_hZsR, b2_01, Classical.not_not, Int32.toInt_toInt64, Int64.reduceToInt, zc_1000, zc_100, zc_10, zc_9, zc_2, ci_f, hM, ms_18 e, mR_37, aLen_337, aCod_337, ma_37 e, mR_38, aLen_338, aCod_338, ma_38 e, mR_39, aLen_339, aCod_339, ma_39 e, mR_40, aLen_340, aCod_340, ma_40 e, mR_42, aLen_342, aCod_342, ma_42 e, mR_43, aLen_343, aCod_343, ma_43 e, mR_48, aLen_348, aCod_348, ma_48 e, hpO]
                  refine ⟨by first | exact vpi (by omega) | with_reducible exact vp_in_nI (by omega) (by omega), ?_⟩
                  refine ⟨fun qc9 => ?_, fun qc9 => ?_⟩
                  · try simp only [b2_0, Classical.not_not] at qc9
                    try simp only [Int64.le_iff_toInt_le, Int64.lt_iff_toInt_lt, Int32.lt_iff_toInt_lt, Int32.le_iff_toInt_le, Int32.toInt_toInt64, Int64.reduceToInt, Int32.reduceToInt, Int.reduceNeg, Classical.not_not, i32e, l_add] at qc9
                    refine st b_X12_orderOf_123 _ _ k_X12_orderOf_123 _ _ _ _ _ ?_
                    simp only [b_X12_orderOf_123, zr_iconst, zr_nil, zr_cons, ↓reduceIte, Nat.reduceAdd, Nat.reduceEqDiff, Nat.reduceLeDiff, Nat.reduceMul, Nat.reduceSub, Int32.reduceOfInt, Int64.reduceOfInt, Int64.reduceOfNat, true_and, and_true, false_and, and_false, or_false, false_or, true_or, or_true, Int.reduceEq, reduceCtorEq, or_self, and_self, ne_eq, not_false_eq_true, not_true_eq_false, eq_self, Nat.le_refl, Nat.zero_le, zr_eI, zr_eL, zr_eR, zr_pI, zr_pL, zr_pR, zr_pO, zr_pV, zq_pA0, zq_pA, zr_get, zr_put_n, zr_put, zr_rem_n, zr_rem, zr_cat_i, zr_cat_l, zr_cat_q, zr_w_n, zr_w, zr_args_n, zr_args, zr_tl_s, zr_tl_n, zr_hIsI, zr_hLsL, zr_hRsR, zr_hIsL, zr_hIsR, zr_hLsI, zr_hLsR, zr_hRsI, zr_hRsL, zr_hNsI, zr_hNsL, zr_hNsR, zr_hZsI, zr_hZsL, zr_hZsR, b2_01, Classical.not_not, Int32.toInt_toInt64, Int64.reduceToInt, zc_1000, zc_100, zc_10, zc_9, zc_2, ci_f, hM, ms_18 e, mR_37, aLen_337, aCod_337, ma_37 e, mR_38, aLen_338, aCod_338, ma_38 e, mR_39, aLen_339, aCod_339, ma_39 e, mR_40, aLen_340, aCod_340, ma_40 e, mR_42, aLen_342, aCod_342, ma_42 e, mR_43, aLen_343, aCod_343, ma_43 e, mR_48, aLen_348, aCod_348, ma_48 e, hpO]
                    refine st b_X12_orderOf_124 _ _ k_X12_orderOf_124 _ _ _ _ _ ?_
                    simp only [b_X12_orderOf_124, zr_T, zr_iret, zr_rt_a, zr_rt_i, zr_rt_l, zr_rt_n, zr_rt_z, zr_nil, zr_cons, ↓reduceIte, Nat.reduceAdd, Nat.reduceEqDiff, Nat.reduceLeDiff, Nat.reduceMul, Nat.reduceSub, Int32.reduceOfInt, Int64.reduceOfInt, Int64.reduceOfNat, true_and, and_true, false_and, and_false, or_false, false_or, true_or, or_true, Int.reduceEq, reduceCtorEq, or_self, and_self, ne_eq, not_false_eq_true, not_true_eq_false, eq_self, Nat.le_refl, Nat.zero_le, zr_eI, zr_eL, zr_eR, zr_pI, zr_pL, zr_pR, zr_pO, zr_pV, zq_pA0, zq_pA, zr_get, zr_put_n, zr_put, zr_rem_n, zr_rem, zr_cat_i, zr_cat_l, zr_cat_q, zr_w_n, zr_w, zr_args_n, zr_args, zr_tl_s, zr_tl_n, zr_hIsI, zr_hLsL, zr_hRsR, zr_hIsL, zr_hIsR, zr_hLsI, zr_hLsR, zr_hRsI, zr_hRsL, zr_hNsI, zr_hNsL, zr_hNsR, zr_hZsI, zr_hZsL, zr_hZsR, b2_01, Classical.not_not, Int32.toInt_toInt64, Int64.reduceToInt, zc_1000, zc_100, zc_10, zc_9, zc_2, ci_f, hM, ms_18 e, mR_37, aLen_337, aCod_337, ma_37 e, mR_38, aLen_338, aCod_338, ma_38 e, mR_39, aLen_339, aCod_339, ma_39 e, mR_40, aLen_340, aCod_340, ma_40 e, mR_42, aLen_342, aCod_342, ma_42 e, mR_43, aLen_343, aCod_343, ma_43 e, mR_48, aLen_348, aCod_348, ma_48 e, hpO]
                    refine qi' ?_ (by repeat (first | exact z_sC.rf | exact hsc | refine z_sC.I ?_ (by decide) | refine z_sC.L ?_ (by decide))) hM'
                    simp only [mv_thr, e]
                    unfold o_orderOf
                    (repeat' split) <;> (first | rfl | (exfalso; omega))
                  · try simp only [b2_0, Classical.not_not] at qc9
                    try simp only [Int64.le_iff_toInt_le, Int64.lt_iff_toInt_lt, Int32.lt_iff_toInt_lt, Int32.le_iff_toInt_le, Int32.toInt_toInt64, Int64.reduceToInt, Int32.reduceToInt, Int.reduceNeg, Classical.not_not, i32e, l_add] at qc9
                    refine st b_X12_orderOf_124 _ _ k_X12_orderOf_124 _ _ _ _ _ ?_
                    simp only [b_X12_orderOf_124, zr_T, zr_iret, zr_rt_a, zr_rt_i, zr_rt_l, zr_rt_n, zr_rt_z, zr_nil, zr_cons, ↓reduceIte, Nat.reduceAdd, Nat.reduceEqDiff, Nat.reduceLeDiff, Nat.reduceMul, Nat.reduceSub, Int32.reduceOfInt, Int64.reduceOfInt, Int64.reduceOfNat, true_and, and_true, false_and, and_false, or_false, false_or, true_or, or_true, Int.reduceEq, reduceCtorEq, or_self, and_self, ne_eq, not_false_eq_true, not_true_eq_false, eq_self, Nat.le_refl, Nat.zero_le, zr_eI, zr_eL, zr_eR, zr_pI, zr_pL, zr_pR, zr_pO, zr_pV, zq_pA0, zq_pA, zr_get, zr_put_n, zr_put, zr_rem_n, zr_rem, zr_cat_i, zr_cat_l, zr_cat_q, zr_w_n, zr_w, zr_args_n, zr_args, zr_tl_s, zr_tl_n, zr_hIsI, zr_hLsL, zr_hRsR, zr_hIsL, zr_hIsR, zr_hLsI, zr_hLsR, zr_hRsI, zr_hRsL, zr_hNsI, zr_hNsL, zr_hNsR, zr_hZsI, zr_hZsL, zr_hZsR, b2_01, Classical.not_not, Int32.toInt_toInt64, Int64.reduceToInt, zc_1000, zc_100, zc_10, zc_9, zc_2, ci_f, hM, ms_18 e, mR_37, aLen_337, aCod_337, ma_37 e, mR_38, aLen_338, aCod_338, ma_38 e, mR_39, aLen_339, aCod_339, ma_39 e, mR_40, aLen_340, aCod_340, ma_40 e, mR_42, aLen_342, aCod_342, ma_42 e, mR_43, aLen_343, aCod_343, ma_43 e, mR_48, aLen_348, aCod_348, ma_48 e, hpO]
                    refine qi' ?_ (by repeat (first | exact z_sC.rf | exact hsc | refine z_sC.I ?_ (by decide) | refine z_sC.L ?_ (by decide))) hM'
                    simp only [mv_thr, e]
                    unfold o_orderOf
                    (repeat' split) <;> (first | rfl | (exfalso; omega))
                · refine z_swD 125 (by omega) rfl ?_
                  refine st b_X12_orderOf_125 _ _ k_X12_orderOf_125 _ _ _ _ _ ?_
                  simp only [b_X12_orderOf_125, zr_T, zr_bipush, zr_iret, zr_rt_a, zr_rt_i, zr_rt_l, zr_rt_n, zr_rt_z, zr_nil, zr_cons, ↓reduceIte, Nat.reduceAdd, Nat.reduceEqDiff, Nat.reduceLeDiff, Nat.reduceMul, Nat.reduceSub, Int32.reduceOfInt, Int64.reduceOfInt, Int64.reduceOfNat, true_and, and_true, false_and, and_false, or_false, false_or, true_or, or_true, Int.reduceEq, reduceCtorEq, or_self, and_self, ne_eq, not_false_eq_true, not_true_eq_false, eq_self, Nat.le_refl, Nat.zero_le, zr_eI, zr_eL, zr_eR, zr_pI, zr_pL, zr_pR, zr_pO, zr_pV, zq_pA0, zq_pA, zr_get, zr_put_n, zr_put, zr_rem_n, zr_rem, zr_cat_i, zr_cat_l, zr_cat_q, zr_w_n, zr_w, zr_args_n, zr_args, zr_tl_s, zr_tl_n, zr_hIsI, zr_hLsL, zr_hRsR, zr_hIsL, zr_hIsR, zr_hLsI, zr_hLsR, zr_hRsI, zr_hRsL, zr_hNsI, zr_hNsL, zr_hNsR, zr_hZsI, zr_hZsL, zr_hZsR, b2_01, Classical.not_not, Int32.toInt_toInt64, Int64.reduceToInt, zc_1000, zc_100, zc_10, zc_9, zc_2, ci_f, hM, ms_18 e, mR_37, aLen_337, aCod_337, ma_37 e, mR_38, aLen_338, aCod_338, ma_38 e, mR_39, aLen_339, aCod_339, ma_39 e, mR_40, aLen_340, aCod_340, ma_40 e, mR_42, aLen_342, aCod_342, ma_42 e, mR_43, aLen_343, aCod_343, ma_43 e, mR_48, aLen_348, aCod_348, ma_48 e, hpO]
                  refine qi' ?_ (by repeat (first | exact z_sC.rf | exact hsc | refine z_sC.I ?_ (by decide) | refine z_sC.L ?_ (by decide))) hM'
                  simp only [mv_thr, e]
                  unfold o_orderOf
                  (repeat' split) <;> (first | rfl | (exfalso; omega))
  · try simp only [b2_0, Classical.not_not] at qc1
    try simp only [Int64.le_iff_toInt_le, Int64.lt_iff_toInt_lt, Int32.lt_iff_toInt_lt, Int32.le_iff_toInt_le, Int32.toInt_toInt64, Int64.reduceToInt, Int32.reduceToInt, Int.reduceNeg, Classical.not_not, i32e, l_add] at qc1
    refine qi' ?_ (by repeat (first | exact z_sC.rf | exact hsc | refine z_sC.I ?_ (by decide) | refine z_sC.L ?_ (by decide))) hM'
    simp only [mv_thr, e]
    unfold o_orderOf
    (repeat' split) <;> (first | rfl | (exfalso; omega))
theorem m_receipt (l : Launch) (G : z_G) (d : Nat) (hd : 3 ≤ d) (S : z_M) (h : z_H) (e : mv h = S) (hM : z_MR h) (inv : INV S) (a what : Int32) : z_MT l G d yX12_receipt cX12_receipt 3 (some .int) [z_r 14 0, z_i a, z_i what] h 0 0 (Qi h (o_receipt S a what, S)) := by
  have hM' := hM
  unfold z_MR at hM
  have huR : nR S = ci (mS S 17) := rfl
  have htR := inv.cR.t
  have hbR := inv.cR.2
  have hpR : (mS S 17 - 1).toInt = (ci (mS S 17) : Int) - 1 := by
    rw [sub32 (by rw [htR, show (1 : Int32).toInt = 1 from rfl]; omega) (by rw [htR, show (1 : Int32).toInt = 1 from rfl]; omega), htR]
    rfl
  refine z_mt2 14 false ⟨by decide, rfl, fun q => absurd q (by decide)⟩ (by show 3 ≤ 3; decide) (fun A st wk => ?_)
  refine st b_X12_receipt_0 _ _ k_X12_receipt_0 _ _ _ _ _ ?_
  simp only [b_X12_receipt_0, zr_T, zr_aload_n0, zr_bipush, zr_cP_ne, zr_call1, zr_get0, zr_i2l, zr_iconst, zr_ifc, zr_iload_n1, zr_iret, zr_isub, zr_lconst0, zr_put0, zr_rt_a, zr_rt_i, zr_rt_l, zr_rt_n, zr_rt_z, zr_nil, zr_cons, ↓reduceIte, Nat.reduceAdd, Nat.reduceEqDiff, Nat.reduceLeDiff, Nat.reduceMul, Nat.reduceSub, Int32.reduceOfInt, Int64.reduceOfInt, Int64.reduceOfNat, true_and, and_true, false_and, and_false, or_false, false_or, true_or, or_true, Int.reduceEq, reduceCtorEq, or_self, and_self, ne_eq, not_false_eq_true, not_true_eq_false, eq_self, Nat.le_refl, Nat.zero_le, zr_eI, zr_eL, zr_eR, zr_pI, zr_pL, zr_pR, zr_pO, zr_pV, zq_pA0, zq_pA, zr_get, zr_put_n, zr_put, zr_rem_n, zr_rem, zr_cat_i, zr_cat_l, zr_cat_q, zr_w_n, zr_w, zr_args_n, zr_args, zr_tl_s, zr_tl_n, zr_hIsI, zr_hLsL, zr_hRsR, zr_hIsL, zr_hIsR, zr_hLsI, zr_hLsR, zr_hRsI, zr_hRsL, zr_hNsI, zr_hNsL, zr_hNsR, zr_hZsI, zr_hZsL, zr_hZsR, b2_01, Classical.not_not, Int32.toInt_toInt64, Int64.reduceToInt, zc_1000, zc_100, zc_10, zc_9, zc_2, ci_f, hM, ms_17 e, mR_30, aLen_330, aCod_330, ma_30 e, mR_31, aLen_331, aCod_331, ma_31 e, mR_32, aLen_332, aCod_332, ma_32 e, mR_33, aLen_333, aCod_333, ma_33 e, mR_34, aLen_334, aCod_334, ma_34 e, mR_35, aLen_335, aCod_335, mb_35 e, hpR]
  refine cp0 (by omega) lk_X12_177 trivial (m_in l G _ _ _ _ _) (Nat.le_refl _) (Nat.le_refl _) ?_
  simp only [zr_T, zr_bipush, zr_cP_ne, zr_ifc, zr_iret, zr_rt_a, zr_rt_i, zr_rt_l, zr_rt_n, zr_rt_z, zr_nil, zr_cons, ↓reduceIte, Nat.reduceAdd, Nat.reduceEqDiff, Nat.reduceLeDiff, Nat.reduceMul, Nat.reduceSub, Int32.reduceOfInt, Int64.reduceOfInt, Int64.reduceOfNat, true_and, and_true, false_and, and_false, or_false, false_or, true_or, or_true, Int.reduceEq, reduceCtorEq, or_self, and_self, ne_eq, not_false_eq_true, not_true_eq_false, eq_self, Nat.le_refl, Nat.zero_le, zr_eI, zr_eL, zr_eR, zr_pI, zr_pL, zr_pR, zr_pO, zr_pV, zq_pA0, zq_pA, zr_get, zr_put_n, zr_put, zr_rem_n, zr_rem, zr_cat_i, zr_cat_l, zr_cat_q, zr_w_n, zr_w, zr_args_n, zr_args, zr_tl_s, zr_tl_n, zr_hIsI, zr_hLsL, zr_hRsR, zr_hIsL, zr_hIsR, zr_hLsI, zr_hLsR, zr_hRsI, zr_hRsL, zr_hNsI, zr_hNsL, zr_hNsR, zr_hZsI, zr_hZsL, zr_hZsR, b2_01, Classical.not_not, Int32.toInt_toInt64, Int64.reduceToInt, zc_1000, zc_100, zc_10, zc_9, zc_2, ci_f, hM, ms_17 e, mR_30, aLen_330, aCod_330, ma_30 e, mR_31, aLen_331, aCod_331, ma_31 e, mR_32, aLen_332, aCod_332, ma_32 e, mR_33, aLen_333, aCod_333, ma_33 e, mR_34, aLen_334, aCod_334, ma_34 e, mR_35, aLen_335, aCod_335, mb_35 e, hpR]
  refine ⟨fun qc1 => ?_, fun qc1 => ?_⟩
  · try simp only [b2_0, Classical.not_not] at qc1
    try simp only [Int64.le_iff_toInt_le, Int64.lt_iff_toInt_lt, Int32.lt_iff_toInt_lt, Int32.le_iff_toInt_le, Int32.toInt_toInt64, Int64.reduceToInt, Int32.reduceToInt, Int.reduceNeg, Classical.not_not, i32e, l_add] at qc1
    refine st b_X12_receipt_24 _ _ k_X12_receipt_24 _ _ _ _ _ ?_
    simp only [b_X12_receipt_24, zr_iload_n2, zr_tsw, zr_nil, zr_cons, ↓reduceIte, Nat.reduceAdd, Nat.reduceEqDiff, Nat.reduceLeDiff, Nat.reduceMul, Nat.reduceSub, Int32.reduceOfInt, Int64.reduceOfInt, Int64.reduceOfNat, true_and, and_true, false_and, and_false, or_false, false_or, true_or, or_true, Int.reduceEq, reduceCtorEq, or_self, and_self, ne_eq, not_false_eq_true, not_true_eq_false, eq_self, Nat.le_refl, Nat.zero_le, zr_eI, zr_eL, zr_eR, zr_pI, zr_pL, zr_pR, zr_pO, zr_pV, zq_pA0, zq_pA, zr_get, zr_put_n, zr_put, zr_rem_n, zr_rem, zr_cat_i, zr_cat_l, zr_cat_q, zr_w_n, zr_w, zr_args_n, zr_args, zr_tl_s, zr_tl_n, zr_hIsI, zr_hLsL, zr_hRsR, zr_hIsL, zr_hIsR, zr_hLsI, zr_hLsR, zr_hRsI, zr_hRsL, zr_hNsI, zr_hNsL, zr_hNsR, zr_hZsI, zr_hZsL, zr_hZsR, b2_01, Classical.not_not, Int32.toInt_toInt64, Int64.reduceToInt, zc_1000, zc_100, zc_10, zc_9, zc_2, ci_f, hM, ms_17 e, mR_30, aLen_330, aCod_330, ma_30 e, mR_31, aLen_331, aCod_331, ma_31 e, mR_32, aLen_332, aCod_332, ma_32 e, mR_33, aLen_333, aCod_333, ma_33 e, mR_34, aLen_334, aCod_334, ma_34 e, mR_35, aLen_335, aCod_335, mb_35 e, hpR]
    by_cases qt2 : (what).toInt = 0
    · refine z_swA 64 0 qt2 rfl ?_
      refine st b_X12_receipt_64 _ _ k_X12_receipt_64 _ _ _ _ _ ?_
      simp only [b_X12_receipt_64, zr_T, zr_aload_n0, zr_get2, zr_iald, zr_iload_n1, zr_iret, zr_rt_a, zr_rt_i, zr_rt_l, zr_rt_n, zr_rt_z, zr_nil, zr_cons, ↓reduceIte, Nat.reduceAdd, Nat.reduceEqDiff, Nat.reduceLeDiff, Nat.reduceMul, Nat.reduceSub, Int32.reduceOfInt, Int64.reduceOfInt, Int64.reduceOfNat, true_and, and_true, false_and, and_false, or_false, false_or, true_or, or_true, Int.reduceEq, reduceCtorEq, or_self, and_self, ne_eq, not_false_eq_true, not_true_eq_false, eq_self, Nat.le_refl, Nat.zero_le, zr_eI, zr_eL, zr_eR, zr_pI, zr_pL, zr_pR, zr_pO, zr_pV, zq_pA0, zq_pA, zr_get, zr_put_n, zr_put, zr_rem_n, zr_rem, zr_cat_i, zr_cat_l, zr_cat_q, zr_w_n, zr_w, zr_args_n, zr_args, zr_tl_s, zr_tl_n, zr_hIsI, zr_hLsL, zr_hRsR, zr_hIsL, zr_hIsR, zr_hLsI, zr_hLsR, zr_hRsI, zr_hRsL, zr_hNsI, zr_hNsL, zr_hNsR, zr_hZsI, zr_hZsL, zr_hZsR, b2_01, Classical.not_not, Int32.toInt_toInt64, Int64.reduceToInt, zc_1000, zc_100, zc_10, zc_9, zc_2, ci_f, hM, ms_17 e, mR_30, aLen_330, aCod_330, ma_30 e, mR_31, aLen_331, aCod_331, ma_31 e, mR_32, aLen_332, aCod_332, ma_32 e, mR_33, aLen_333, aCod_333, ma_33 e, mR_34, aLen_334, aCod_334, ma_34 e, mR_35, aLen_335, aCod_335, mb_35 e, hpR]
      refine ⟨by first | exact vpi (by omega) | with_reducible exact vp_in_nI (by omega) (by omega), ?_⟩
      refine qi' ?_ (by repeat (first | exact z_sC.rf | exact hsc | refine z_sC.I ?_ (by decide) | refine z_sC.L ?_ (by decide))) hM'
      simp only [mv_thr, e]
      unfold o_receipt
      (repeat' split) <;> (first | rfl | (exfalso; omega))
    · by_cases qt3 : (what).toInt = 1
      · refine z_swA 71 1 qt3 rfl ?_
        refine st b_X12_receipt_71 _ _ k_X12_receipt_71 _ _ _ _ _ ?_
        simp only [b_X12_receipt_71, zr_T, zr_aload_n0, zr_get2, zr_iald, zr_iload_n1, zr_iret, zr_rt_a, zr_rt_i, zr_rt_l, zr_rt_n, zr_rt_z, zr_nil, zr_cons, ↓reduceIte, Nat.reduceAdd, Nat.reduceEqDiff, Nat.reduceLeDiff, Nat.reduceMul, Nat.reduceSub, Int32.reduceOfInt, Int64.reduceOfInt, Int64.reduceOfNat, true_and, and_true, false_and, and_false, or_false, false_or, true_or, or_true, Int.reduceEq, reduceCtorEq, or_self, and_self, ne_eq, not_false_eq_true, not_true_eq_false, eq_self, Nat.le_refl, Nat.zero_le, zr_eI, zr_eL, zr_eR, zr_pI, zr_pL, zr_pR, zr_pO, zr_pV, zq_pA0, zq_pA, zr_get, zr_put_n, zr_put, zr_rem_n, zr_rem, zr_cat_i, zr_cat_l, zr_cat_q, zr_w_n, zr_w, zr_args_n, zr_args, zr_tl_s, zr_tl_n, zr_hIsI, zr_hLsL, zr_hRsR, zr_hIsL, zr_hIsR, zr_hLsI, zr_hLsR, zr_hRsI, zr_hRsL, zr_hNsI, zr_hNsL, zr_hNsR, zr_hZsI, zr_hZsL, zr_hZsR, b2_01, Classical.not_not, Int32.toInt_toInt64, Int64.reduceToInt, zc_1000, zc_100, zc_10, zc_9, zc_2, ci_f, hM, ms_17 e, mR_30, aLen_330, aCod_330, ma_30 e, mR_31, aLen_331, aCod_331, ma_31 e, mR_32, aLen_332, aCod_332, ma_32 e, mR_33, aLen_333, aCod_333, ma_33 e, mR_34, aLen_334, aCod_334, ma_34 e, mR_35, aLen_335, aCod_335, mb_35 e, hpR]
        refine ⟨by first | exact vpi (by omega) | with_reducible exact vp_in_nI (by omega) (by omega), ?_⟩
        refine qi' ?_ (by repeat (first | exact z_sC.rf | exact hsc | refine z_sC.I ?_ (by decide) | refine z_sC.L ?_ (by decide))) hM'
        simp only [mv_thr, e]
        unfold o_receipt
        (repeat' split) <;> (first | rfl | (exfalso; omega))
      · by_cases qt4 : (what).toInt = 2
        · refine z_swA 78 2 qt4 rfl ?_
          refine st b_X12_receipt_78 _ _ k_X12_receipt_78 _ _ _ _ _ ?_
          simp only [b_X12_receipt_78, zr_T, zr_aload_n0, zr_get2, zr_iald, zr_iload_n1, zr_iret, zr_rt_a, zr_rt_i, zr_rt_l, zr_rt_n, zr_rt_z, zr_nil, zr_cons, ↓reduceIte, Nat.reduceAdd, Nat.reduceEqDiff, Nat.reduceLeDiff, Nat.reduceMul, Nat.reduceSub, Int32.reduceOfInt, Int64.reduceOfInt, Int64.reduceOfNat, true_and, and_true, false_and, and_false, or_false, false_or, true_or, or_true, Int.reduceEq, reduceCtorEq, or_self, and_self, ne_eq, not_false_eq_true, not_true_eq_false, eq_self, Nat.le_refl, Nat.zero_le, zr_eI, zr_eL, zr_eR, zr_pI, zr_pL, zr_pR, zr_pO, zr_pV, zq_pA0, zq_pA, zr_get, zr_put_n, zr_put, zr_rem_n, zr_rem, zr_cat_i, zr_cat_l, zr_cat_q, zr_w_n, zr_w, zr_args_n, zr_args, zr_tl_s, zr_tl_n, zr_hIsI, zr_hLsL, zr_hRsR, zr_hIsL, zr_hIsR, zr_hLsI, zr_hLsR, zr_hRsI, zr_hRsL, zr_hNsI, zr_hNsL, zr_hNsR, zr_hZsI, zr_hZsL, zr_hZsR, b2_01, Classical.not_not, Int32.toInt_toInt64, Int64.reduceToInt, zc_1000, zc_100, zc_10, zc_9, zc_2, ci_f, hM, ms_17 e, mR_30, aLen_330, aCod_330, ma_30 e, mR_31, aLen_331, aCod_331, ma_31 e, mR_32, aLen_332, aCod_332, ma_32 e, mR_33, aLen_333, aCod_333, ma_33 e, mR_34, aLen_334, aCod_334, ma_34 e, mR_35, aLen_335, aCod_335, mb_35 e, hpR]
          refine ⟨by first | exact vpi (by omega) | with_reducible exact vp_in_nI (by omega) (by omega), ?_⟩
          refine qi' ?_ (by repeat (first | exact z_sC.rf | exact hsc | refine z_sC.I ?_ (by decide) | refine z_sC.L ?_ (by decide))) hM'
          simp only [mv_thr, e]
          unfold o_receipt
          (repeat' split) <;> (first | rfl | (exfalso; omega))
        · by_cases qt5 : (what).toInt = 3
          · refine z_swA 85 3 qt5 rfl ?_
            refine st b_X12_receipt_85 _ _ k_X12_receipt_85 _ _ _ _ _ ?_
            simp only [b_X12_receipt_85, zr_T, zr_aload_n0, zr_get2, zr_iload_n1, zr_iret, zr_l2i, zr_lald, zr_rt_a, zr_rt_i, zr_rt_l, zr_rt_n, zr_rt_z, zr_nil, zr_cons, ↓reduceIte, Nat.reduceAdd, Nat.reduceEqDiff, Nat.reduceLeDiff, Nat.reduceMul, Nat.reduceSub, Int32.reduceOfInt, Int64.reduceOfInt, Int64.reduceOfNat, true_and, and_true, false_and, and_false, or_false, false_or, true_or, or_true, Int.reduceEq, reduceCtorEq, or_self, and_self, ne_eq, not_false_eq_true, not_true_eq_false, eq_self, Nat.le_refl, Nat.zero_le, zr_eI, zr_eL, zr_eR, zr_pI, zr_pL, zr_pR, zr_pO, zr_pV, zq_pA0, zq_pA, zr_get, zr_put_n, zr_put, zr_rem_n, zr_rem, zr_cat_i, zr_cat_l, zr_cat_q, zr_w_n, zr_w, zr_args_n, zr_args, zr_tl_s, zr_tl_n, zr_hIsI, zr_hLsL, zr_hRsR, zr_hIsL, zr_hIsR, zr_hLsI, zr_hLsR, zr_hRsI, zr_hRsL, zr_hNsI, zr_hNsL, zr_hNsR, zr_hZsI, zr_hZsL, zr_hZsR, b2_01, Classical.not_not, Int32.toInt_toInt64, Int64.reduceToInt, zc_1000, zc_100, zc_10, zc_9, zc_2, ci_f, hM, ms_17 e, mR_30, aLen_330, aCod_330, ma_30 e, mR_31, aLen_331, aCod_331, ma_31 e, mR_32, aLen_332, aCod_332, ma_32 e, mR_33, aLen_333, aCod_333, ma_33 e, mR_34, aLen_334, aCod_334, ma_34 e, mR_35, aLen_335, aCod_335, mb_35 e, hpR]
            refine ⟨by first | exact vpi (by omega) | with_reducible exact vp_in_nI (by omega) (by omega), ?_⟩
            refine qi' ?_ (by repeat (first | exact z_sC.rf | exact hsc | refine z_sC.I ?_ (by decide) | refine z_sC.L ?_ (by decide))) hM'
            simp only [mv_thr, e]
            unfold o_receipt
            (repeat' split) <;> (first | rfl | (exfalso; omega))
          · by_cases qt6 : (what).toInt = 4
            · refine z_swA 93 4 qt6 rfl ?_
              refine st b_X12_receipt_93 _ _ k_X12_receipt_93 _ _ _ _ _ ?_
              simp only [b_X12_receipt_93, zr_T, zr_aload_n0, zr_get2, zr_iald, zr_iload_n1, zr_iret, zr_rt_a, zr_rt_i, zr_rt_l, zr_rt_n, zr_rt_z, zr_nil, zr_cons, ↓reduceIte, Nat.reduceAdd, Nat.reduceEqDiff, Nat.reduceLeDiff, Nat.reduceMul, Nat.reduceSub, Int32.reduceOfInt, Int64.reduceOfInt, Int64.reduceOfNat, true_and, and_true, false_and, and_false, or_false, false_or, true_or, or_true, Int.reduceEq, reduceCtorEq, or_self, and_self, ne_eq, not_false_eq_true, not_true_eq_false, eq_self, Nat.le_refl, Nat.zero_le, zr_eI, zr_eL, zr_eR, zr_pI, zr_pL, zr_pR, zr_pO, zr_pV, zq_pA0, zq_pA, zr_get, zr_put_n, zr_put, zr_rem_n, zr_rem, zr_cat_i, zr_cat_l, zr_cat_q, zr_w_n, zr_w, zr_args_n, zr_args, zr_tl_s, zr_tl_n, zr_hIsI, zr_hLsL, zr_hRsR, zr_hIsL, zr_hIsR, zr_hLsI, zr_hLsR, zr_hRsI, zr_hRsL, zr_hNsI, zr_hNsL, zr_hNsR, zr_hZsI, zr_hZsL, zr_hZsR, b2_01, Classical.not_not, Int32.toInt_toInt64, Int64.reduceToInt, zc_1000, zc_100, zc_10, zc_9, zc_2, ci_f, hM, ms_17 e, mR_30, aLen_330, aCod_330, ma_30 e, mR_31, aLen_331, aCod_331, ma_31 e, mR_32, aLen_332, aCod_332, ma_32 e, mR_33, aLen_333, aCod_333, ma_33 e, mR_34, aLen_334, aCod_334, ma_34 e, mR_35, aLen_335, aCod_335, mb_35 e, hpR]
              refine ⟨by first | exact vpi (by omega) | with_reducible exact vp_in_nI (by omega) (by omega), ?_⟩
              refine qi' ?_ (by repeat (first | exact z_sC.rf | exact hsc | refine z_sC.I ?_ (by decide) | refine z_sC.L ?_ (by decide))) hM'
              simp only [mv_thr, e]
              unfold o_receipt
              (repeat' split) <;> (first | rfl | (exfalso; omega))
            · by_cases qt7 : (what).toInt = 5
              · refine z_swA 100 5 qt7 rfl ?_
                refine st b_X12_receipt_100 _ _ k_X12_receipt_100 _ _ _ _ _ ?_
                simp only [b_X12_receipt_100, zr_T, zr_aload_n0, zr_get2, zr_iald, zr_iload_n1, zr_iret, zr_rt_a, zr_rt_i, zr_rt_l, zr_rt_n, zr_rt_z, zr_nil, zr_cons, ↓reduceIte, Nat.reduceAdd, Nat.reduceEqDiff, Nat.reduceLeDiff, Nat.reduceMul, Nat.reduceSub, Int32.reduceOfInt, Int64.reduceOfInt, Int64.reduceOfNat, true_and, and_true, false_and, and_false, or_false, false_or, true_or, or_true, Int.reduceEq, reduceCtorEq, or_self, and_self, ne_eq, not_false_eq_true, not_true_eq_false, eq_self, Nat.le_refl, Nat.zero_le, zr_eI, zr_eL, zr_eR, zr_pI, zr_pL, zr_pR, zr_pO, zr_pV, zq_pA0, zq_pA, zr_get, zr_put_n, zr_put, zr_rem_n, zr_rem, zr_cat_i, zr_cat_l, zr_cat_q, zr_w_n, zr_w, zr_args_n, zr_args, zr_tl_s, zr_tl_n, zr_hIsI, zr_hLsL, zr_hRsR, zr_hIsL, zr_hIsR, zr_hLsI, zr_hLsR, zr_hRsI, zr_hRsL, zr_hNsI, zr_hNsL, zr_hNsR, zr_hZsI, zr_hZsL, zr_hZsR, b2_01, Classical.not_not, Int32.toInt_toInt64, Int64.reduceToInt, zc_1000, zc_100, zc_10, zc_9, zc_2, ci_f, hM, ms_17 e, mR_30, aLen_330, aCod_330, ma_30 e, mR_31, aLen_331, aCod_331, ma_31 e, mR_32, aLen_332, aCod_332, ma_32 e, mR_33, aLen_333, aCod_333, ma_33 e, mR_34, aLen_334, aCod_334, ma_34 e, mR_35, aLen_335, aCod_335, mb_35 e, hpR]
                refine ⟨by first | exact vpi (by omega) | with_reducible exact vp_in_nI (by omega) (by omega), ?_⟩
                refine qi' ?_ (by repeat (first | exact z_sC.rf | exact hsc | refine z_sC.I ?_ (by decide) | refine z_sC.L ?_ (by decide))) hM'
                simp only [mv_thr, e]
                unfold o_receipt
                (repeat' split) <;> (first | rfl | (exfalso; omega))
              · refine z_swD 107 (by omega) rfl ?_
                refine st b_X12_receipt_107 _ _ k_X12_receipt_107 _ _ _ _ _ ?_
                simp only [b_X12_receipt_107, zr_T, zr_bipush, zr_iret, zr_rt_a, zr_rt_i, zr_rt_l, zr_rt_n, zr_rt_z, zr_nil, zr_cons, ↓reduceIte, Nat.reduceAdd, Nat.reduceEqDiff, Nat.reduceLeDiff, Nat.reduceMul, Nat.reduceSub, Int32.reduceOfInt, Int64.reduceOfInt, Int64.reduceOfNat, true_and, and_true, false_and, and_false, or_false, false_or, true_or, or_true, Int.reduceEq, reduceCtorEq, or_self, and_self, ne_eq, not_false_eq_true, not_true_eq_false, eq_self, Nat.le_refl, Nat.zero_le, zr_eI, zr_eL, zr_eR, zr_pI, zr_pL, zr_pR, zr_pO, zr_pV, zq_pA0, zq_pA, zr_get, zr_put_n, zr_put, zr_rem_n, zr_rem, zr_cat_i, zr_cat_l, zr_cat_q, zr_w_n, zr_w, zr_args_n, zr_args, zr_tl_s, zr_tl_n, zr_hIsI, zr_hLsL, zr_hRsR, zr_hIsL, zr_hIsR, zr_hLsI, zr_hLsR, zr_hRsI, zr_hRsL, zr_hNsI, zr_hNsL, zr_hNsR, zr_hZsI, zr_hZsL, zr_hZsR, b2_01, Classical.not_not, Int32.toInt_toInt64, Int64.reduceToInt, zc_1000, zc_100, zc_10, zc_9, zc_2, ci_f, hM, ms_17 e, mR_30, aLen_330, aCod_330, ma_30 e, mR_31, aLen_331, aCod_331, ma_31 e, mR_32, aLen_332, aCod_332, ma_32 e, mR_33, aLen_333, aCod_333, ma_33 e, mR_34, aLen_334, aCod_334, ma_34 e, mR_35, aLen_335, aCod_335, mb_35 e, hpR]
                refine qi' ?_ (by repeat (first | exact z_sC.rf | exact hsc | refine z_sC.I ?_ (by decide) | refine z_sC.L ?_ (by decide))) hM'
                simp only [mv_thr, e]
                unfold o_receipt
                (repeat' split) <;> (first | rfl | (exfalso; omega))
  · try simp only [b2_0, Classical.not_not] at qc1
    try simp only [Int64.le_iff_toInt_le, Int64.lt_iff_toInt_lt, Int32.lt_iff_toInt_lt, Int32.le_iff_toInt_le, Int32.toInt_toInt64, Int64.reduceToInt, Int32.reduceToInt, Int.reduceNeg, Classical.not_not, i32e, l_add] at qc1
    refine qi' ?_ (by repeat (first | exact z_sC.rf | exact hsc | refine z_sC.I ?_ (by decide) | refine z_sC.L ?_ (by decide))) hM'
    simp only [mv_thr, e]
    unfold o_receipt
    (repeat' split) <;> (first | rfl | (exfalso; omega))
theorem m_vault (l : Launch) (G : z_G) (d : Nat) (hd : 3 ≤ d) (S : z_M) (h : z_H) (e : mv h = S) (hM : z_MR h) (inv : INV S) (k what : Int32) : z_MT l G d yX12_vault cX12_vault 3 (some .long) [z_r 14 0, z_i k, z_i what] h 0 0 (Ql h (o_vault S k what, S)) := by
  have hM' := hM
  unfold z_MR at hM
  have huK : nK S = ci (mS S 15) := rfl
  have htK := inv.cK.t
  have hbK := inv.cK.2
  have hpK : (mS S 15 - 1).toInt = (ci (mS S 15) : Int) - 1 := by
    rw [sub32 (by rw [htK, show (1 : Int32).toInt = 1 from rfl]; omega) (by rw [htK, show (1 : Int32).toInt = 1 from rfl]; omega), htK]
    rfl
  refine z_mt2 14 false ⟨by decide, rfl, fun q => absurd q (by decide)⟩ (by show 3 ≤ 3; decide) (fun A st wk => ?_)
  refine st b_X12_vault_0 _ _ k_X12_vault_0 _ _ _ _ _ ?_
  simp only [b_X12_vault_0, zr_T, zr_aload_n0, zr_cP_ne, zr_call0, zr_iconst, zr_ifc, zr_iload_n1, zr_ldc2, zr_lret, zr_put0, zr_rt_a, zr_rt_i, zr_rt_l, zr_rt_n, zr_rt_z, zr_nil, zr_cons, ↓reduceIte, Nat.reduceAdd, Nat.reduceEqDiff, Nat.reduceLeDiff, Nat.reduceMul, Nat.reduceSub, Int32.reduceOfInt, Int64.reduceOfInt, Int64.reduceOfNat, true_and, and_true, false_and, and_false, or_false, false_or, true_or, or_true, Int.reduceEq, reduceCtorEq, or_self, and_self, ne_eq, not_false_eq_true, not_true_eq_false, eq_self, Nat.le_refl, Nat.zero_le, zr_eI, zr_eL, zr_eR, zr_pI, zr_pL, zr_pR, zr_pO, zr_pV, zq_pA0, zq_pA, zr_get, zr_put_n, zr_put, zr_rem_n, zr_rem, zr_cat_i, zr_cat_l, zr_cat_q, zr_w_n, zr_w, zr_args_n, zr_args, zr_tl_s, zr_tl_n, zr_hIsI, zr_hLsL, zr_hRsR, zr_hIsL, zr_hIsR, zr_hLsI, zr_hLsR, zr_hRsI, zr_hRsL, zr_hNsI, zr_hNsL, zr_hNsR, zr_hZsI, zr_hZsL, zr_hZsR, b2_01, Classical.not_not, Int32.toInt_toInt64, Int64.reduceToInt, zc_1000, zc_100, zc_10, zc_9, zc_2, ci_f, hM, mR_25, aLen_325, aCod_325, mb_25 e, mR_26, aLen_326, aCod_326, mb_26 e]
  refine cp0 (by omega) lk_X12_225 (rc_14 rfl) (m_isKind l G _ (by omega) S _ (by simp only [mv_thr, e]) (z_MR.I hM') inv _) (Nat.le_refl _) (Nat.le_refl _) ?_
  simp only [zr_T, zr_cP_ne, zr_ifc, zr_ldc2, zr_lret, zr_rt_a, zr_rt_i, zr_rt_l, zr_rt_n, zr_rt_z, zr_nil, zr_cons, ↓reduceIte, Nat.reduceAdd, Nat.reduceEqDiff, Nat.reduceLeDiff, Nat.reduceMul, Nat.reduceSub, Int32.reduceOfInt, Int64.reduceOfInt, Int64.reduceOfNat, true_and, and_true, false_and, and_false, or_false, false_or, true_or, or_true, Int.reduceEq, reduceCtorEq, or_self, and_self, ne_eq, not_false_eq_true, not_true_eq_false, eq_self, Nat.le_refl, Nat.zero_le, zr_eI, zr_eL, zr_eR, zr_pI, zr_pL, zr_pR, zr_pO, zr_pV, zq_pA0, zq_pA, zr_get, zr_put_n, zr_put, zr_rem_n, zr_rem, zr_cat_i, zr_cat_l, zr_cat_q, zr_w_n, zr_w, zr_args_n, zr_args, zr_tl_s, zr_tl_n, zr_hIsI, zr_hLsL, zr_hRsR, zr_hIsL, zr_hIsR, zr_hLsI, zr_hLsR, zr_hRsI, zr_hRsL, zr_hNsI, zr_hNsL, zr_hNsR, zr_hZsI, zr_hZsL, zr_hZsR, b2_01, Classical.not_not, Int32.toInt_toInt64, Int64.reduceToInt, zc_1000, zc_100, zc_10, zc_9, zc_2, ci_f, hM, mR_25, aLen_325, aCod_325, mb_25 e, mR_26, aLen_326, aCod_326, mb_26 e]
  refine ⟨fun qc1 => ?_, fun qc1 => ?_⟩
  · try simp only [b2_0, Classical.not_not] at qc1
    try simp only [Int64.le_iff_toInt_le, Int64.lt_iff_toInt_lt, Int32.lt_iff_toInt_lt, Int32.le_iff_toInt_le, Int32.toInt_toInt64, Int64.reduceToInt, Int32.reduceToInt, Int.reduceNeg, Classical.not_not, i32e, l_add] at qc1
    refine st b_X12_vault_17 _ _ k_X12_vault_17 _ _ _ _ _ ?_
    simp only [b_X12_vault_17, zr_aload_n0, zr_cP_ne, zr_get2, zr_goto, zr_ifc, zr_iload_n1, zr_iload_n2, zr_lald, zr_nil, zr_cons, ↓reduceIte, Nat.reduceAdd, Nat.reduceEqDiff, Nat.reduceLeDiff, Nat.reduceMul, Nat.reduceSub, Int32.reduceOfInt, Int64.reduceOfInt, Int64.reduceOfNat, true_and, and_true, false_and, and_false, or_false, false_or, true_or, or_true, Int.reduceEq, reduceCtorEq, or_self, and_self, ne_eq, not_false_eq_true, not_true_eq_false, eq_self, Nat.le_refl, Nat.zero_le, zr_eI, zr_eL, zr_eR, zr_pI, zr_pL, zr_pR, zr_pO, zr_pV, zq_pA0, zq_pA, zr_get, zr_put_n, zr_put, zr_rem_n, zr_rem, zr_cat_i, zr_cat_l, zr_cat_q, zr_w_n, zr_w, zr_args_n, zr_args, zr_tl_s, zr_tl_n, zr_hIsI, zr_hLsL, zr_hRsR, zr_hIsL, zr_hIsR, zr_hLsI, zr_hLsR, zr_hRsI, zr_hRsL, zr_hNsI, zr_hNsL, zr_hNsR, zr_hZsI, zr_hZsL, zr_hZsR, b2_01, Classical.not_not, Int32.toInt_toInt64, Int64.reduceToInt, zc_1000, zc_100, zc_10, zc_9, zc_2, ci_f, hM, mR_25, aLen_325, aCod_325, mb_25 e, mR_26, aLen_326, aCod_326, mb_26 e]
    refine ⟨fun qc2 => ?_, fun qc2 => ?_⟩
    · try simp only [b2_0, Classical.not_not] at qc2
      try simp only [Int64.le_iff_toInt_le, Int64.lt_iff_toInt_lt, Int32.lt_iff_toInt_lt, Int32.le_iff_toInt_le, Int32.toInt_toInt64, Int64.reduceToInt, Int32.reduceToInt, Int.reduceNeg, Classical.not_not, i32e, l_add] at qc2
      refine st b_X12_vault_30 _ _ k_X12_vault_30 _ _ _ _ _ ?_
      simp only [b_X12_vault_30, zr_aload_n0, zr_cP_ne, zr_get2, zr_goto, zr_icmp, zr_iconst, zr_iload_n1, zr_iload_n2, zr_lald, zr_nil, zr_cons, ↓reduceIte, Nat.reduceAdd, Nat.reduceEqDiff, Nat.reduceLeDiff, Nat.reduceMul, Nat.reduceSub, Int32.reduceOfInt, Int64.reduceOfInt, Int64.reduceOfNat, true_and, and_true, false_and, and_false, or_false, false_or, true_or, or_true, Int.reduceEq, reduceCtorEq, or_self, and_self, ne_eq, not_false_eq_true, not_true_eq_false, eq_self, Nat.le_refl, Nat.zero_le, zr_eI, zr_eL, zr_eR, zr_pI, zr_pL, zr_pR, zr_pO, zr_pV, zq_pA0, zq_pA, zr_get, zr_put_n, zr_put, zr_rem_n, zr_rem, zr_cat_i, zr_cat_l, zr_cat_q, zr_w_n, zr_w, zr_args_n, zr_args, zr_tl_s, zr_tl_n, zr_hIsI, zr_hLsL, zr_hRsR, zr_hIsL, zr_hIsR, zr_hLsI, zr_hLsR, zr_hRsI, zr_hRsL, zr_hNsI, zr_hNsL, zr_hNsR, zr_hZsI, zr_hZsL, zr_hZsR, b2_01, Classical.not_not, Int32.toInt_toInt64, Int64.reduceToInt, zc_1000, zc_100, zc_10, zc_9, zc_2, ci_f, hM, mR_25, aLen_325, aCod_325, mb_25 e, mR_26, aLen_326, aCod_326, mb_26 e]
      refine ⟨fun qc3 => ?_, fun qc3 => ?_⟩
      · try simp only [b2_0, Classical.not_not] at qc3
        try simp only [Int64.le_iff_toInt_le, Int64.lt_iff_toInt_lt, Int32.lt_iff_toInt_lt, Int32.le_iff_toInt_le, Int32.toInt_toInt64, Int64.reduceToInt, Int32.reduceToInt, Int.reduceNeg, Classical.not_not, i32e, l_add] at qc3
        refine st b_X12_vault_44 _ _ k_X12_vault_44 _ _ _ _ _ ?_
        simp only [b_X12_vault_44, zr_aload_n0, zr_cP_ne, zr_call0, zr_get2, zr_goto, zr_icmp, zr_iconst, zr_iload_n1, zr_iload_n2, zr_lald, zr_nil, zr_cons, ↓reduceIte, Nat.reduceAdd, Nat.reduceEqDiff, Nat.reduceLeDiff, Nat.reduceMul, Nat.reduceSub, Int32.reduceOfInt, Int64.reduceOfInt, Int64.reduceOfNat, true_and, and_true, false_and, and_false, or_false, false_or, true_or, or_true, Int.reduceEq, reduceCtorEq, or_self, and_self, ne_eq, not_false_eq_true, not_true_eq_false, eq_self, Nat.le_refl, Nat.zero_le, zr_eI, zr_eL, zr_eR, zr_pI, zr_pL, zr_pR, zr_pO, zr_pV, zq_pA0, zq_pA, zr_get, zr_put_n, zr_put, zr_rem_n, zr_rem, zr_cat_i, zr_cat_l, zr_cat_q, zr_w_n, zr_w, zr_args_n, zr_args, zr_tl_s, zr_tl_n, zr_hIsI, zr_hLsL, zr_hRsR, zr_hIsL, zr_hIsR, zr_hLsI, zr_hLsR, zr_hRsI, zr_hRsL, zr_hNsI, zr_hNsL, zr_hNsR, zr_hZsI, zr_hZsL, zr_hZsR, b2_01, Classical.not_not, Int32.toInt_toInt64, Int64.reduceToInt, zc_1000, zc_100, zc_10, zc_9, zc_2, ci_f, hM, mR_25, aLen_325, aCod_325, mb_25 e, mR_26, aLen_326, aCod_326, mb_26 e]
        refine ⟨fun qc4 => ?_, fun qc4 => ?_⟩
        · try simp only [b2_0, Classical.not_not] at qc4
          try simp only [Int64.le_iff_toInt_le, Int64.lt_iff_toInt_lt, Int32.lt_iff_toInt_lt, Int32.le_iff_toInt_le, Int32.toInt_toInt64, Int64.reduceToInt, Int32.reduceToInt, Int.reduceNeg, Classical.not_not, i32e, l_add] at qc4
          refine st b_X12_vault_63 _ _ k_X12_vault_63 _ _ _ _ _ ?_
          simp only [b_X12_vault_63, zr_ldc2, zr_nil, zr_cons, ↓reduceIte, Nat.reduceAdd, Nat.reduceEqDiff, Nat.reduceLeDiff, Nat.reduceMul, Nat.reduceSub, Int32.reduceOfInt, Int64.reduceOfInt, Int64.reduceOfNat, true_and, and_true, false_and, and_false, or_false, false_or, true_or, or_true, Int.reduceEq, reduceCtorEq, or_self, and_self, ne_eq, not_false_eq_true, not_true_eq_false, eq_self, Nat.le_refl, Nat.zero_le, zr_eI, zr_eL, zr_eR, zr_pI, zr_pL, zr_pR, zr_pO, zr_pV, zq_pA0, zq_pA, zr_get, zr_put_n, zr_put, zr_rem_n, zr_rem, zr_cat_i, zr_cat_l, zr_cat_q, zr_w_n, zr_w, zr_args_n, zr_args, zr_tl_s, zr_tl_n, zr_hIsI, zr_hLsL, zr_hRsR, zr_hIsL, zr_hIsR, zr_hLsI, zr_hLsR, zr_hRsI, zr_hRsL, zr_hNsI, zr_hNsL, zr_hNsR, zr_hZsI, zr_hZsL, zr_hZsR, b2_01, Classical.not_not, Int32.toInt_toInt64, Int64.reduceToInt, zc_1000, zc_100, zc_10, zc_9, zc_2, ci_f, hM, mR_25, aLen_325, aCod_325, mb_25 e, mR_26, aLen_326, aCod_326, mb_26 e]
          refine st b_X12_vault_66 _ _ k_X12_vault_66 _ _ _ _ _ ?_
          simp only [b_X12_vault_66, zr_T, zr_lret, zr_rt_a, zr_rt_i, zr_rt_l, zr_rt_n, zr_rt_z, zr_nil, zr_cons, ↓reduceIte, Nat.reduceAdd, Nat.reduceEqDiff, Nat.reduceLeDiff, Nat.reduceMul, Nat.reduceSub, Int32.reduceOfInt, Int64.reduceOfInt, Int64.reduceOfNat, true_and, and_true, false_and, and_false, or_false, false_or, true_or, or_true, Int.reduceEq, reduceCtorEq, or_self, and_self, ne_eq, not_false_eq_true, not_true_eq_false, eq_self, Nat.le_refl, Nat.zero_le, zr_eI, zr_eL, zr_eR, zr_pI, zr_pL, zr_pR, zr_pO, zr_pV, zq_pA0, zq_pA, zr_get, zr_put_n, zr_put, zr_rem_n, zr_rem, zr_cat_i, zr_cat_l, zr_cat_q, zr_w_n, zr_w, zr_args_n, zr_args, zr_tl_s, zr_tl_n, zr_hIsI, zr_hLsL, zr_hRsR, zr_hIsL, zr_hIsR, zr_hLsI, zr_hLsR, zr_hRsI, zr_hRsL, zr_hNsI, zr_hNsL, zr_hNsR, zr_hZsI, zr_hZsL, zr_hZsR, b2_01, Classical.not_not, Int32.toInt_toInt64, Int64.reduceToInt, zc_1000, zc_100, zc_10, zc_9, zc_2, ci_f, hM, mR_25, aLen_325, aCod_325, mb_25 e, mR_26, aLen_326, aCod_326, mb_26 e]
          refine ql' ?_ (by repeat (first | exact z_sC.rf | exact hsc | refine z_sC.I ?_ (by decide) | refine z_sC.L ?_ (by decide))) hM'
          simp only [mv_thr, e]
          unfold o_vault
          (repeat' split) <;> (first | rfl | (exfalso; omega))
        · try simp only [b2_0, Classical.not_not] at qc4
          try simp only [Int64.le_iff_toInt_le, Int64.lt_iff_toInt_lt, Int32.lt_iff_toInt_lt, Int32.le_iff_toInt_le, Int32.toInt_toInt64, Int64.reduceToInt, Int32.reduceToInt, Int.reduceNeg, Classical.not_not, i32e, l_add] at qc4
          refine ⟨by first | exact vpi (by omega) | with_reducible exact vp_in_nI (by omega) (by omega), ?_⟩
          refine cp0 (by omega) lk_X12_239 (rc_14 rfl) (m_bookOf l G _ S _ (by simp only [mv_thr, e]) (z_MR.I hM') inv _ (by omega) _) (Nat.le_refl _) (Nat.le_refl _) ?_
          simp only [zr_goto, zr_nil, zr_cons, ↓reduceIte, Nat.reduceAdd, Nat.reduceEqDiff, Nat.reduceLeDiff, Nat.reduceMul, Nat.reduceSub, Int32.reduceOfInt, Int64.reduceOfInt, Int64.reduceOfNat, true_and, and_true, false_and, and_false, or_false, false_or, true_or, or_true, Int.reduceEq, reduceCtorEq, or_self, and_self, ne_eq, not_false_eq_true, not_true_eq_false, eq_self, Nat.le_refl, Nat.zero_le, zr_eI, zr_eL, zr_eR, zr_pI, zr_pL, zr_pR, zr_pO, zr_pV, zq_pA0, zq_pA, zr_get, zr_put_n, zr_put, zr_rem_n, zr_rem, zr_cat_i, zr_cat_l, zr_cat_q, zr_w_n, zr_w, zr_args_n, zr_args, zr_tl_s, zr_tl_n, zr_hIsI, zr_hLsL, zr_hRsR, zr_hIsL, zr_hIsR, zr_hLsI, zr_hLsR, zr_hRsI, zr_hRsL, zr_hNsI, zr_hNsL, zr_hNsR, zr_hZsI, zr_hZsL, zr_hZsR, b2_01, Classical.not_not, Int32.toInt_toInt64, Int64.reduceToInt, zc_1000, zc_100, zc_10, zc_9, zc_2, ci_f, hM, mR_25, aLen_325, aCod_325, mb_25 e, mR_26, aLen_326, aCod_326, mb_26 e]
          refine st b_X12_vault_66 _ _ k_X12_vault_66 _ _ _ _ _ ?_
          simp only [b_X12_vault_66, zr_T, zr_lret, zr_rt_a, zr_rt_i, zr_rt_l, zr_rt_n, zr_rt_z, zr_nil, zr_cons, ↓reduceIte, Nat.reduceAdd, Nat.reduceEqDiff, Nat.reduceLeDiff, Nat.reduceMul, Nat.reduceSub, Int32.reduceOfInt, Int64.reduceOfInt, Int64.reduceOfNat, true_and, and_true, false_and, and_false, or_false, false_or, true_or, or_true, Int.reduceEq, reduceCtorEq, or_self, and_self, ne_eq, not_false_eq_true, not_true_eq_false, eq_self, Nat.le_refl, Nat.zero_le, zr_eI, zr_eL, zr_eR, zr_pI, zr_pL, zr_pR, zr_pO, zr_pV, zq_pA0, zq_pA, zr_get, zr_put_n, zr_put, zr_rem_n, zr_rem, zr_cat_i, zr_cat_l, zr_cat_q, zr_w_n, zr_w, zr_args_n, zr_args, zr_tl_s, zr_tl_n, zr_hIsI, zr_hLsL, zr_hRsR, zr_hIsL, zr_hIsR, zr_hLsI, zr_hLsR, zr_hRsI, zr_hRsL, zr_hNsI, zr_hNsL, zr_hNsR, zr_hZsI, zr_hZsL, zr_hZsR, b2_01, Classical.not_not, Int32.toInt_toInt64, Int64.reduceToInt, zc_1000, zc_100, zc_10, zc_9, zc_2, ci_f, hM, mR_25, aLen_325, aCod_325, mb_25 e, mR_26, aLen_326, aCod_326, mb_26 e]
          refine ql' ?_ (by repeat (first | exact z_sC.rf | exact hsc | refine z_sC.I ?_ (by decide) | refine z_sC.L ?_ (by decide))) hM'
          simp only [mv_thr, e]
          unfold o_vault
          (repeat' split) <;> (first | rfl | (exfalso; omega))
      · try simp only [b2_0, Classical.not_not] at qc3
        try simp only [Int64.le_iff_toInt_le, Int64.lt_iff_toInt_lt, Int32.lt_iff_toInt_lt, Int32.le_iff_toInt_le, Int32.toInt_toInt64, Int64.reduceToInt, Int32.reduceToInt, Int.reduceNeg, Classical.not_not, i32e, l_add] at qc3
        refine ⟨by first | exact vpi (by omega) | with_reducible exact vp_in_nI (by omega) (by omega), ?_⟩
        refine st b_X12_vault_66 _ _ k_X12_vault_66 _ _ _ _ _ ?_
        simp only [b_X12_vault_66, zr_T, zr_lret, zr_rt_a, zr_rt_i, zr_rt_l, zr_rt_n, zr_rt_z, zr_nil, zr_cons, ↓reduceIte, Nat.reduceAdd, Nat.reduceEqDiff, Nat.reduceLeDiff, Nat.reduceMul, Nat.reduceSub, Int32.reduceOfInt, Int64.reduceOfInt, Int64.reduceOfNat, true_and, and_true, false_and, and_false, or_false, false_or, true_or, or_true, Int.reduceEq, reduceCtorEq, or_self, and_self, ne_eq, not_false_eq_true, not_true_eq_false, eq_self, Nat.le_refl, Nat.zero_le, zr_eI, zr_eL, zr_eR, zr_pI, zr_pL, zr_pR, zr_pO, zr_pV, zq_pA0, zq_pA, zr_get, zr_put_n, zr_put, zr_rem_n, zr_rem, zr_cat_i, zr_cat_l, zr_cat_q, zr_w_n, zr_w, zr_args_n, zr_args, zr_tl_s, zr_tl_n, zr_hIsI, zr_hLsL, zr_hRsR, zr_hIsL, zr_hIsR, zr_hLsI, zr_hLsR, zr_hRsI, zr_hRsL, zr_hNsI, zr_hNsL, zr_hNsR, zr_hZsI, zr_hZsL, zr_hZsR, b2_01, Classical.not_not, Int32.toInt_toInt64, Int64.reduceToInt, zc_1000, zc_100, zc_10, zc_9, zc_2, ci_f, hM, mR_25, aLen_325, aCod_325, mb_25 e, mR_26, aLen_326, aCod_326, mb_26 e]
        refine ql' ?_ (by repeat (first | exact z_sC.rf | exact hsc | refine z_sC.I ?_ (by decide) | refine z_sC.L ?_ (by decide))) hM'
        simp only [mv_thr, e]
        unfold o_vault
        (repeat' split) <;> (first | rfl | (exfalso; omega))
    · try simp only [b2_0, Classical.not_not] at qc2
      try simp only [Int64.le_iff_toInt_le, Int64.lt_iff_toInt_lt, Int32.lt_iff_toInt_lt, Int32.le_iff_toInt_le, Int32.toInt_toInt64, Int64.reduceToInt, Int32.reduceToInt, Int.reduceNeg, Classical.not_not, i32e, l_add] at qc2
      refine ⟨by first | exact vpi (by omega) | with_reducible exact vp_in_nI (by omega) (by omega), ?_⟩
      refine st b_X12_vault_66 _ _ k_X12_vault_66 _ _ _ _ _ ?_
      simp only [b_X12_vault_66, zr_T, zr_lret, zr_rt_a, zr_rt_i, zr_rt_l, zr_rt_n, zr_rt_z, zr_nil, zr_cons, ↓reduceIte, Nat.reduceAdd, Nat.reduceEqDiff, Nat.reduceLeDiff, Nat.reduceMul, Nat.reduceSub, Int32.reduceOfInt, Int64.reduceOfInt, Int64.reduceOfNat, true_and, and_true, false_and, and_false, or_false, false_or, true_or, or_true, Int.reduceEq, reduceCtorEq, or_self, and_self, ne_eq, not_false_eq_true, not_true_eq_false, eq_self, Nat.le_refl, Nat.zero_le, zr_eI, zr_eL, zr_eR, zr_pI, zr_pL, zr_pR, zr_pO, zr_pV, zq_pA0, zq_pA, zr_get, zr_put_n, zr_put, zr_rem_n, zr_rem, zr_cat_i, zr_cat_l, zr_cat_q, zr_w_n, zr_w, zr_args_n, zr_args, zr_tl_s, zr_tl_n, zr_hIsI, zr_hLsL, zr_hRsR, zr_hIsL, zr_hIsR, zr_hLsI, zr_hLsR, zr_hRsI, zr_hRsL, zr_hNsI, zr_hNsL, zr_hNsR, zr_hZsI, zr_hZsL, zr_hZsR, b2_01, Classical.not_not, Int32.toInt_toInt64, Int64.reduceToInt, zc_1000, zc_100, zc_10, zc_9, zc_2, ci_f, hM, mR_25, aLen_325, aCod_325, mb_25 e, mR_26, aLen_326, aCod_326, mb_26 e]
      refine ql' ?_ (by repeat (first | exact z_sC.rf | exact hsc | refine z_sC.I ?_ (by decide) | refine z_sC.L ?_ (by decide))) hM'
      simp only [mv_thr, e]
      unfold o_vault
      (repeat' split) <;> (first | rfl | (exfalso; omega))
  · try simp only [b2_0, Classical.not_not] at qc1
    try simp only [Int64.le_iff_toInt_le, Int64.lt_iff_toInt_lt, Int32.lt_iff_toInt_lt, Int32.le_iff_toInt_le, Int32.toInt_toInt64, Int64.reduceToInt, Int32.reduceToInt, Int.reduceNeg, Classical.not_not, i32e, l_add] at qc1
    refine ql' ?_ (by repeat (first | exact z_sC.rf | exact hsc | refine z_sC.I ?_ (by decide) | refine z_sC.L ?_ (by decide))) hM'
    simp only [mv_thr, e]
    unfold o_vault
    (repeat' split) <;> (first | rfl | (exfalso; omega))
theorem m_sum (l : Launch) (G : z_G) (d : Nat) (hd : 3 ≤ d) (S : z_M) (h : z_H) (e : mv h = S) (hM : z_MR h) (inv : INV S) (what : Int32) : z_MT l G d yX12_sum cX12_sum 2 (some .long) [z_r 14 0, z_i what] h 0 0 (Ql h (o_sum S what, S)) := by
  have hM' := hM
  unfold z_MR at hM
  refine z_mt2 14 false ⟨by decide, rfl, fun q => absurd q (by decide)⟩ (by show 2 ≤ 2; decide) (fun A st wk => ?_)
  refine st b_X12_sum_0 _ _ k_X12_sum_0 _ _ _ _ _ ?_
  simp only [b_X12_sum_0, zr_aload_n0, zr_iconst, zr_iload_n1, zr_put0, zr_tsw, zr_nil, zr_cons, ↓reduceIte, Nat.reduceAdd, Nat.reduceEqDiff, Nat.reduceLeDiff, Nat.reduceMul, Nat.reduceSub, Int32.reduceOfInt, Int64.reduceOfInt, Int64.reduceOfNat, true_and, and_true, false_and, and_false, or_false, false_or, true_or, or_true, Int.reduceEq, reduceCtorEq, or_self, and_self, ne_eq, not_false_eq_true, not_true_eq_false, eq_self, Nat.le_refl, Nat.zero_le, zr_eI, zr_eL, zr_eR, zr_pI, zr_pL, zr_pR, zr_pO, zr_pV, zq_pA0, zq_pA, zr_get, zr_put_n, zr_put, zr_rem_n, zr_rem, zr_cat_i, zr_cat_l, zr_cat_q, zr_w_n, zr_w, zr_args_n, zr_args, zr_tl_s, zr_tl_n, zr_hIsI, zr_hLsL, zr_hRsR, zr_hIsL, zr_hIsR, zr_hLsI, zr_hLsR, zr_hRsI, zr_hRsL, zr_hNsI, zr_hNsL, zr_hNsR, zr_hZsI, zr_hZsL, zr_hZsR, b2_01, Classical.not_not, Int32.toInt_toInt64, Int64.reduceToInt, zc_1000, zc_100, zc_10, zc_9, zc_2, ci_f, hM, mt_64 e, mt_65 e, mt_66 e]
  by_cases qt1 : (what).toInt = 0
  · refine z_swA 40 0 qt1 rfl ?_
    refine st b_X12_sum_40 _ _ k_X12_sum_40 _ _ _ _ _ ?_
    simp only [b_X12_sum_40, zr_T, zr_aload_n0, zr_call0, zr_lret, zr_rt_a, zr_rt_i, zr_rt_l, zr_rt_n, zr_rt_z, zr_nil, zr_cons, ↓reduceIte, Nat.reduceAdd, Nat.reduceEqDiff, Nat.reduceLeDiff, Nat.reduceMul, Nat.reduceSub, Int32.reduceOfInt, Int64.reduceOfInt, Int64.reduceOfNat, true_and, and_true, false_and, and_false, or_false, false_or, true_or, or_true, Int.reduceEq, reduceCtorEq, or_self, and_self, ne_eq, not_false_eq_true, not_true_eq_false, eq_self, Nat.le_refl, Nat.zero_le, zr_eI, zr_eL, zr_eR, zr_pI, zr_pL, zr_pR, zr_pO, zr_pV, zq_pA0, zq_pA, zr_get, zr_put_n, zr_put, zr_rem_n, zr_rem, zr_cat_i, zr_cat_l, zr_cat_q, zr_w_n, zr_w, zr_args_n, zr_args, zr_tl_s, zr_tl_n, zr_hIsI, zr_hLsL, zr_hRsR, zr_hIsL, zr_hIsR, zr_hLsI, zr_hLsR, zr_hRsI, zr_hRsL, zr_hNsI, zr_hNsL, zr_hNsR, zr_hZsI, zr_hZsL, zr_hZsR, b2_01, Classical.not_not, Int32.toInt_toInt64, Int64.reduceToInt, zc_1000, zc_100, zc_10, zc_9, zc_2, ci_f, hM, mt_64 e, mt_65 e, mt_66 e]
    refine cp0 (by omega) lk_X12_340 (rc_14 rfl) (m_balances l G _ S _ (by simp only [mv_thr, e]) (z_MR.I hM') inv) (Nat.le_refl _) (Nat.le_refl _) ?_
    simp only [zr_T, zr_lret, zr_rt_a, zr_rt_i, zr_rt_l, zr_rt_n, zr_rt_z, zr_nil, zr_cons, ↓reduceIte, Nat.reduceAdd, Nat.reduceEqDiff, Nat.reduceLeDiff, Nat.reduceMul, Nat.reduceSub, Int32.reduceOfInt, Int64.reduceOfInt, Int64.reduceOfNat, true_and, and_true, false_and, and_false, or_false, false_or, true_or, or_true, Int.reduceEq, reduceCtorEq, or_self, and_self, ne_eq, not_false_eq_true, not_true_eq_false, eq_self, Nat.le_refl, Nat.zero_le, zr_eI, zr_eL, zr_eR, zr_pI, zr_pL, zr_pR, zr_pO, zr_pV, zq_pA0, zq_pA, zr_get, zr_put_n, zr_put, zr_rem_n, zr_rem, zr_cat_i, zr_cat_l, zr_cat_q, zr_w_n, zr_w, zr_args_n, zr_args, zr_tl_s, zr_tl_n, zr_hIsI, zr_hLsL, zr_hRsR, zr_hIsL, zr_hIsR, zr_hLsI, zr_hLsR, zr_hRsI, zr_hRsL, zr_hNsI, zr_hNsL, zr_hNsR, zr_hZsI, zr_hZsL, zr_hZsR, b2_01, Classical.not_not, Int32.toInt_toInt64, Int64.reduceToInt, zc_1000, zc_100, zc_10, zc_9, zc_2, ci_f, hM, mt_64 e, mt_65 e, mt_66 e]
    refine ql' ?_ (by repeat (first | exact z_sC.rf | exact hsc | refine z_sC.I ?_ (by decide) | refine z_sC.L ?_ (by decide))) hM'
    simp only [mv_thr, e]
    unfold o_sum
    (repeat' split) <;> (first | rfl | (exfalso; omega))
  · by_cases qt2 : (what).toInt = 1
    · refine z_swA 45 1 qt2 rfl ?_
      refine st b_X12_sum_45 _ _ k_X12_sum_45 _ _ _ _ _ ?_
      simp only [b_X12_sum_45, zr_T, zr_aload_n0, zr_call0, zr_lret, zr_rt_a, zr_rt_i, zr_rt_l, zr_rt_n, zr_rt_z, zr_nil, zr_cons, ↓reduceIte, Nat.reduceAdd, Nat.reduceEqDiff, Nat.reduceLeDiff, Nat.reduceMul, Nat.reduceSub, Int32.reduceOfInt, Int64.reduceOfInt, Int64.reduceOfNat, true_and, and_true, false_and, and_false, or_false, false_or, true_or, or_true, Int.reduceEq, reduceCtorEq, or_self, and_self, ne_eq, not_false_eq_true, not_true_eq_false, eq_self, Nat.le_refl, Nat.zero_le, zr_eI, zr_eL, zr_eR, zr_pI, zr_pL, zr_pR, zr_pO, zr_pV, zq_pA0, zq_pA, zr_get, zr_put_n, zr_put, zr_rem_n, zr_rem, zr_cat_i, zr_cat_l, zr_cat_q, zr_w_n, zr_w, zr_args_n, zr_args, zr_tl_s, zr_tl_n, zr_hIsI, zr_hLsL, zr_hRsR, zr_hIsL, zr_hIsR, zr_hLsI, zr_hLsR, zr_hRsI, zr_hRsL, zr_hNsI, zr_hNsL, zr_hNsR, zr_hZsI, zr_hZsL, zr_hZsR, b2_01, Classical.not_not, Int32.toInt_toInt64, Int64.reduceToInt, zc_1000, zc_100, zc_10, zc_9, zc_2, ci_f, hM, mt_64 e, mt_65 e, mt_66 e]
      refine cp0 (by omega) lk_X12_336 (rc_14 rfl) (m_vaultBook l G _ (by omega) S _ (by simp only [mv_thr, e]) (z_MR.I hM') inv) (Nat.le_refl _) (Nat.le_refl _) ?_
      simp only [zr_T, zr_lret, zr_rt_a, zr_rt_i, zr_rt_l, zr_rt_n, zr_rt_z, zr_nil, zr_cons, ↓reduceIte, Nat.reduceAdd, Nat.reduceEqDiff, Nat.reduceLeDiff, Nat.reduceMul, Nat.reduceSub, Int32.reduceOfInt, Int64.reduceOfInt, Int64.reduceOfNat, true_and, and_true, false_and, and_false, or_false, false_or, true_or, or_true, Int.reduceEq, reduceCtorEq, or_self, and_self, ne_eq, not_false_eq_true, not_true_eq_false, eq_self, Nat.le_refl, Nat.zero_le, zr_eI, zr_eL, zr_eR, zr_pI, zr_pL, zr_pR, zr_pO, zr_pV, zq_pA0, zq_pA, zr_get, zr_put_n, zr_put, zr_rem_n, zr_rem, zr_cat_i, zr_cat_l, zr_cat_q, zr_w_n, zr_w, zr_args_n, zr_args, zr_tl_s, zr_tl_n, zr_hIsI, zr_hLsL, zr_hRsR, zr_hIsL, zr_hIsR, zr_hLsI, zr_hLsR, zr_hRsI, zr_hRsL, zr_hNsI, zr_hNsL, zr_hNsR, zr_hZsI, zr_hZsL, zr_hZsR, b2_01, Classical.not_not, Int32.toInt_toInt64, Int64.reduceToInt, zc_1000, zc_100, zc_10, zc_9, zc_2, ci_f, hM, mt_64 e, mt_65 e, mt_66 e]
      refine ql' ?_ (by repeat (first | exact z_sC.rf | exact hsc | refine z_sC.I ?_ (by decide) | refine z_sC.L ?_ (by decide))) hM'
      simp only [mv_thr, e]
      unfold o_sum
      (repeat' split) <;> (first | rfl | (exfalso; omega))
    · by_cases qt3 : (what).toInt = 2
      · refine z_swA 50 2 qt3 rfl ?_
        refine st b_X12_sum_50 _ _ k_X12_sum_50 _ _ _ _ _ ?_
        simp only [b_X12_sum_50, zr_T, zr_aload_n0, zr_get1, zr_lret, zr_rt_a, zr_rt_i, zr_rt_l, zr_rt_n, zr_rt_z, zr_nil, zr_cons, ↓reduceIte, Nat.reduceAdd, Nat.reduceEqDiff, Nat.reduceLeDiff, Nat.reduceMul, Nat.reduceSub, Int32.reduceOfInt, Int64.reduceOfInt, Int64.reduceOfNat, true_and, and_true, false_and, and_false, or_false, false_or, true_or, or_true, Int.reduceEq, reduceCtorEq, or_self, and_self, ne_eq, not_false_eq_true, not_true_eq_false, eq_self, Nat.le_refl, Nat.zero_le, zr_eI, zr_eL, zr_eR, zr_pI, zr_pL, zr_pR, zr_pO, zr_pV, zq_pA0, zq_pA, zr_get, zr_put_n, zr_put, zr_rem_n, zr_rem, zr_cat_i, zr_cat_l, zr_cat_q, zr_w_n, zr_w, zr_args_n, zr_args, zr_tl_s, zr_tl_n, zr_hIsI, zr_hLsL, zr_hRsR, zr_hIsL, zr_hIsR, zr_hLsI, zr_hLsR, zr_hRsI, zr_hRsL, zr_hNsI, zr_hNsL, zr_hNsR, zr_hZsI, zr_hZsL, zr_hZsR, b2_01, Classical.not_not, Int32.toInt_toInt64, Int64.reduceToInt, zc_1000, zc_100, zc_10, zc_9, zc_2, ci_f, hM, mt_64 e, mt_65 e, mt_66 e]
        refine ql' ?_ (by repeat (first | exact z_sC.rf | exact hsc | refine z_sC.I ?_ (by decide) | refine z_sC.L ?_ (by decide))) hM'
        simp only [mv_thr, e]
        unfold o_sum
        (repeat' split) <;> (first | rfl | (exfalso; omega))
      · by_cases qt4 : (what).toInt = 3
        · refine z_swA 55 3 qt4 rfl ?_
          refine st b_X12_sum_55 _ _ k_X12_sum_55 _ _ _ _ _ ?_
          simp only [b_X12_sum_55, zr_T, zr_aload_n0, zr_get1, zr_lret, zr_rt_a, zr_rt_i, zr_rt_l, zr_rt_n, zr_rt_z, zr_nil, zr_cons, ↓reduceIte, Nat.reduceAdd, Nat.reduceEqDiff, Nat.reduceLeDiff, Nat.reduceMul, Nat.reduceSub, Int32.reduceOfInt, Int64.reduceOfInt, Int64.reduceOfNat, true_and, and_true, false_and, and_false, or_false, false_or, true_or, or_true, Int.reduceEq, reduceCtorEq, or_self, and_self, ne_eq, not_false_eq_true, not_true_eq_false, eq_self, Nat.le_refl, Nat.zero_le, zr_eI, zr_eL, zr_eR, zr_pI, zr_pL, zr_pR, zr_pO, zr_pV, zq_pA0, zq_pA, zr_get, zr_put_n, zr_put, zr_rem_n, zr_rem, zr_cat_i, zr_cat_l, zr_cat_q, zr_w_n, zr_w, zr_args_n, zr_args, zr_tl_s, zr_tl_n, zr_hIsI, zr_hLsL, zr_hRsR, zr_hIsL, zr_hIsR, zr_hLsI, zr_hLsR, zr_hRsI, zr_hRsL, zr_hNsI, zr_hNsL, zr_hNsR, zr_hZsI, zr_hZsL, zr_hZsR, b2_01, Classical.not_not, Int32.toInt_toInt64, Int64.reduceToInt, zc_1000, zc_100, zc_10, zc_9, zc_2, ci_f, hM, mt_64 e, mt_65 e, mt_66 e]
          refine ql' ?_ (by repeat (first | exact z_sC.rf | exact hsc | refine z_sC.I ?_ (by decide) | refine z_sC.L ?_ (by decide))) hM'
          simp only [mv_thr, e]
          unfold o_sum
          (repeat' split) <;> (first | rfl | (exfalso; omega))
        · by_cases qt5 : (what).toInt = 4
          · refine z_swA 60 4 qt5 rfl ?_
            refine st b_X12_sum_60 _ _ k_X12_sum_60 _ _ _ _ _ ?_
            simp only [b_X12_sum_60, zr_T, zr_aload_n0, zr_get1, zr_lret, zr_rt_a, zr_rt_i, zr_rt_l, zr_rt_n, zr_rt_z, zr_nil, zr_cons, ↓reduceIte, Nat.reduceAdd, Nat.reduceEqDiff, Nat.reduceLeDiff, Nat.reduceMul, Nat.reduceSub, Int32.reduceOfInt, Int64.reduceOfInt, Int64.reduceOfNat, true_and, and_true, false_and, and_false, or_false, false_or, true_or, or_true, Int.reduceEq, reduceCtorEq, or_self, and_self, ne_eq, not_false_eq_true, not_true_eq_false, eq_self, Nat.le_refl, Nat.zero_le, zr_eI, zr_eL, zr_eR, zr_pI, zr_pL, zr_pR, zr_pO, zr_pV, zq_pA0, zq_pA, zr_get, zr_put_n, zr_put, zr_rem_n, zr_rem, zr_cat_i, zr_cat_l, zr_cat_q, zr_w_n, zr_w, zr_args_n, zr_args, zr_tl_s, zr_tl_n, zr_hIsI, zr_hLsL, zr_hRsR, zr_hIsL, zr_hIsR, zr_hLsI, zr_hLsR, zr_hRsI, zr_hRsL, zr_hNsI, zr_hNsL, zr_hNsR, zr_hZsI, zr_hZsL, zr_hZsR, b2_01, Classical.not_not, Int32.toInt_toInt64, Int64.reduceToInt, zc_1000, zc_100, zc_10, zc_9, zc_2, ci_f, hM, mt_64 e, mt_65 e, mt_66 e]
            refine ql' ?_ (by repeat (first | exact z_sC.rf | exact hsc | refine z_sC.I ?_ (by decide) | refine z_sC.L ?_ (by decide))) hM'
            simp only [mv_thr, e]
            unfold o_sum
            (repeat' split) <;> (first | rfl | (exfalso; omega))
          · refine z_swD 65 (by omega) rfl ?_
            refine st b_X12_sum_65 _ _ k_X12_sum_65 _ _ _ _ _ ?_
            simp only [b_X12_sum_65, zr_T, zr_lconst0, zr_lret, zr_rt_a, zr_rt_i, zr_rt_l, zr_rt_n, zr_rt_z, zr_nil, zr_cons, ↓reduceIte, Nat.reduceAdd, Nat.reduceEqDiff, Nat.reduceLeDiff, Nat.reduceMul, Nat.reduceSub, Int32.reduceOfInt, Int64.reduceOfInt, Int64.reduceOfNat, true_and, and_true, false_and, and_false, or_false, false_or, true_or, or_true, Int.reduceEq, reduceCtorEq, or_self, and_self, ne_eq, not_false_eq_true, not_true_eq_false, eq_self, Nat.le_refl, Nat.zero_le, zr_eI, zr_eL, zr_eR, zr_pI, zr_pL, zr_pR, zr_pO, zr_pV, zq_pA0, zq_pA, zr_get, zr_put_n, zr_put, zr_rem_n, zr_rem, zr_cat_i, zr_cat_l, zr_cat_q, zr_w_n, zr_w, zr_args_n, zr_args, zr_tl_s, zr_tl_n, zr_hIsI, zr_hLsL, zr_hRsR, zr_hIsL, zr_hIsR, zr_hLsI, zr_hLsR, zr_hRsI, zr_hRsL, zr_hNsI, zr_hNsL, zr_hNsR, zr_hZsI, zr_hZsL, zr_hZsR, b2_01, Classical.not_not, Int32.toInt_toInt64, Int64.reduceToInt, zc_1000, zc_100, zc_10, zc_9, zc_2, ci_f, hM, mt_64 e, mt_65 e, mt_66 e]
            refine ql' ?_ (by repeat (first | exact z_sC.rf | exact hsc | refine z_sC.I ?_ (by decide) | refine z_sC.L ?_ (by decide))) hM'
            simp only [mv_thr, e]
            unfold o_sum
            (repeat' split) <;> (first | rfl | (exfalso; omega))
theorem m_written (l : Launch) (G : z_G) (d : Nat) (hd : 3 ≤ d) (S : z_M) (h : z_H) (e : mv h = S) (hM : z_MR h) (inv : INV S) (a : Int32) : z_MT l G d yX12_written cX12_written 5 (some .long) [z_r 14 0, z_i a] h 0 0 (Ql h (o_written S a, S)) := by
  have hM' := hM
  unfold z_MR at hM
  have huL : nL S = ci (mS S 19) := rfl
  have htL := inv.cL.t
  have hbL := inv.cL.2
  have hpL : (mS S 19 - 1).toInt = (ci (mS S 19) : Int) - 1 := by
    rw [sub32 (by rw [htL, show (1 : Int32).toInt = 1 from rfl]; omega) (by rw [htL, show (1 : Int32).toInt = 1 from rfl]; omega), htL]
    rfl
  refine z_mt2 14 false ⟨by decide, rfl, fun q => absurd q (by decide)⟩ (by show 2 ≤ 5; decide) (fun A st wk => ?_)
  refine st b_X12_written_0 _ _ k_X12_written_0 _ _ _ _ _ ?_
  simp only [b_X12_written_0, zr_aload_n0, zr_iconst, zr_istore, zr_lconst0, zr_lstore_n2, zr_put0, zr_nil, zr_cons, ↓reduceIte, Nat.reduceAdd, Nat.reduceEqDiff, Nat.reduceLeDiff, Nat.reduceMul, Nat.reduceSub, Int32.reduceOfInt, Int64.reduceOfInt, Int64.reduceOfNat, true_and, and_true, false_and, and_false, or_false, false_or, true_or, or_true, Int.reduceEq, reduceCtorEq, or_self, and_self, ne_eq, not_false_eq_true, not_true_eq_false, eq_self, Nat.le_refl, Nat.zero_le, zr_eI, zr_eL, zr_eR, zr_pI, zr_pL, zr_pR, zr_pO, zr_pV, zq_pA0, zq_pA, zr_get, zr_put_n, zr_put, zr_rem_n, zr_rem, zr_cat_i, zr_cat_l, zr_cat_q, zr_w_n, zr_w, zr_args_n, zr_args, zr_tl_s, zr_tl_n, zr_hIsI, zr_hLsL, zr_hRsR, zr_hIsL, zr_hIsR, zr_hLsI, zr_hLsR, zr_hRsI, zr_hRsL, zr_hNsI, zr_hNsL, zr_hNsR, zr_hZsI, zr_hZsL, zr_hZsR, b2_01, Classical.not_not, Int32.toInt_toInt64, Int64.reduceToInt, zc_1000, zc_100, zc_10, zc_9, zc_2, ci_f, hM, ms_19 e, mR_50, aLen_350, aCod_350, ma_50 e, mR_52, aLen_352, aCod_352, ma_52 e, mR_54, aLen_354, aCod_354, mb_54 e]
  refine (show ∀ i, i ≤ nL S → A 10 [(0, z_r 14 0), (1, z_i a), (2, z_l (o_wr (mA S 50) (mA S 52) (mB S 54) a i)), (4, z_i (nI i))] [] (sI h 14 0 0 0) 0 0 from z_loop (fun i hi ih => ?_)) 0 (Nat.zero_le _)
  have ti := toIntS (show i < 2000000000 by omega)
  have ki := nI_clampS (show i < 2000000000 by omega)
  refine st b_X12_written_10 _ _ k_X12_written_10 _ _ _ _ _ ?_
  simp only [b_X12_written_10, zr_aload_n0, zr_cP_ge, zr_cP_ne, zr_get0, zr_get2, zr_goto, zr_iald, zr_icmp, zr_iconst, zr_iload, zr_iload_n1, zr_lald, zr_lload_n2, zr_nil, zr_cons, ↓reduceIte, Nat.reduceAdd, Nat.reduceEqDiff, Nat.reduceLeDiff, Nat.reduceMul, Nat.reduceSub, Int32.reduceOfInt, Int64.reduceOfInt, Int64.reduceOfNat, true_and, and_true, false_and, and_false, or_false, false_or, true_or, or_true, Int.reduceEq, reduceCtorEq, or_self, and_self, ne_eq, not_false_eq_true, not_true_eq_false, eq_self, Nat.le_refl, Nat.zero_le, zr_eI, zr_eL, zr_eR, zr_pI, zr_pL, zr_pR, zr_pO, zr_pV, zq_pA0, zq_pA, zr_get, zr_put_n, zr_put, zr_rem_n, zr_rem, zr_cat_i, zr_cat_l, zr_cat_q, zr_w_n, zr_w, zr_args_n, zr_args, zr_tl_s, zr_tl_n, zr_hIsI, zr_hLsL, zr_hRsR, zr_hIsL, zr_hIsR, zr_hLsI, zr_hLsR, zr_hRsI, zr_hRsL, zr_hNsI, zr_hNsL, zr_hNsR, zr_hZsI, zr_hZsL, zr_hZsR, b2_01, Classical.not_not, Int32.toInt_toInt64, Int64.reduceToInt, zc_1000, zc_100, zc_10, zc_9, zc_2, ci_f, hM, ms_19 e, mR_50, aLen_350, aCod_350, ma_50 e, mR_52, aLen_352, aCod_352, ma_52 e, mR_54, aLen_354, aCod_354, mb_54 e, ki]
  refine ⟨fun qc21 => ?_, fun qc21 => ?_⟩
  · try simp only [b2_0, Classical.not_not] at qc21
    try simp only [Int64.le_iff_toInt_le, Int64.lt_iff_toInt_lt, Int32.lt_iff_toInt_lt, Int32.le_iff_toInt_le, Int32.toInt_toInt64, Int64.reduceToInt, Int32.reduceToInt, Int.reduceNeg, Classical.not_not, i32e, l_add] at qc21
    refine st b_X12_written_68 _ _ k_X12_written_68 _ _ _ _ _ ?_
    simp only [b_X12_written_68, zr_T, zr_lload_n2, zr_lret, zr_rt_a, zr_rt_i, zr_rt_l, zr_rt_n, zr_rt_z, zr_nil, zr_cons, ↓reduceIte, Nat.reduceAdd, Nat.reduceEqDiff, Nat.reduceLeDiff, Nat.reduceMul, Nat.reduceSub, Int32.reduceOfInt, Int64.reduceOfInt, Int64.reduceOfNat, true_and, and_true, false_and, and_false, or_false, false_or, true_or, or_true, Int.reduceEq, reduceCtorEq, or_self, and_self, ne_eq, not_false_eq_true, not_true_eq_false, eq_self, Nat.le_refl, Nat.zero_le, zr_eI, zr_eL, zr_eR, zr_pI, zr_pL, zr_pR, zr_pO, zr_pV, zq_pA0, zq_pA, zr_get, zr_put_n, zr_put, zr_rem_n, zr_rem, zr_cat_i, zr_cat_l, zr_cat_q, zr_w_n, zr_w, zr_args_n, zr_args, zr_tl_s, zr_tl_n, zr_hIsI, zr_hLsL, zr_hRsR, zr_hIsL, zr_hIsR, zr_hLsI, zr_hLsR, zr_hRsI, zr_hRsL, zr_hNsI, zr_hNsL, zr_hNsR, zr_hZsI, zr_hZsL, zr_hZsR, b2_01, Classical.not_not, Int32.toInt_toInt64, Int64.reduceToInt, zc_1000, zc_100, zc_10, zc_9, zc_2, ci_f, hM, ms_19 e, mR_50, aLen_350, aCod_350, ma_50 e, mR_52, aLen_352, aCod_352, ma_52 e, mR_54, aLen_354, aCod_354, mb_54 e, ki]
    have ei : i = nL S := by omega
    subst ei
    refine ql' ?_ (by repeat (first | exact z_sC.rf | exact hsc | refine z_sC.I ?_ (by decide) | refine z_sC.L ?_ (by decide))) hM'
    simp only [mv_thr, e]
    unfold o_written
    (repeat' split) <;> (first | rfl | (exfalso; omega))
  · try simp only [b2_0, Classical.not_not] at qc21
    try simp only [Int64.le_iff_toInt_le, Int64.lt_iff_toInt_lt, Int32.lt_iff_toInt_lt, Int32.le_iff_toInt_le, Int32.toInt_toInt64, Int64.reduceToInt, Int32.reduceToInt, Int.reduceNeg, Classical.not_not, i32e, l_add] at qc21
    refine ⟨by first | exact vpi (by omega) | with_reducible exact vp_in_nI (by omega) (by omega), ?_⟩
    refine ⟨fun qc22 => ?_, fun qc22 => ?_⟩
    · try simp only [b2_0, Classical.not_not] at qc22
      try simp only [Int64.le_iff_toInt_le, Int64.lt_iff_toInt_lt, Int32.lt_iff_toInt_lt, Int32.le_iff_toInt_le, Int32.toInt_toInt64, Int64.reduceToInt, Int32.reduceToInt, Int.reduceNeg, Classical.not_not, i32e, l_add] at qc22
      refine st b_X12_written_62 _ _ k_X12_written_62 _ _ _ _ _ ?_
      simp only [b_X12_written_62, zr_goto, zr_iinc, zr_nil, zr_cons, ↓reduceIte, Nat.reduceAdd, Nat.reduceEqDiff, Nat.reduceLeDiff, Nat.reduceMul, Nat.reduceSub, Int32.reduceOfInt, Int64.reduceOfInt, Int64.reduceOfNat, true_and, and_true, false_and, and_false, or_false, false_or, true_or, or_true, Int.reduceEq, reduceCtorEq, or_self, and_self, ne_eq, not_false_eq_true, not_true_eq_false, eq_self, Nat.le_refl, Nat.zero_le, zr_eI, zr_eL, zr_eR, zr_pI, zr_pL, zr_pR, zr_pO, zr_pV, zq_pA0, zq_pA, zr_get, zr_put_n, zr_put, zr_rem_n, zr_rem, zr_cat_i, zr_cat_l, zr_cat_q, zr_w_n, zr_w, zr_args_n, zr_args, zr_tl_s, zr_tl_n, zr_hIsI, zr_hLsL, zr_hRsR, zr_hIsL, zr_hIsR, zr_hLsI, zr_hLsR, zr_hRsI, zr_hRsL, zr_hNsI, zr_hNsL, zr_hNsR, zr_hZsI, zr_hZsL, zr_hZsR, b2_01, Classical.not_not, Int32.toInt_toInt64, Int64.reduceToInt, zc_1000, zc_100, zc_10, zc_9, zc_2, ci_f, hM, ms_19 e, mR_50, aLen_350, aCod_350, ma_50 e, mR_52, aLen_352, aCod_352, ma_52 e, mR_54, aLen_354, aCod_354, mb_54 e, ki]
      have ih' := ih (by omega)
      simp only [o_wr] at ih'
      rw [nI_1]
      (repeat' split at ih') <;> (first | exact ih' | exact wk _ _ _ _ _ _ _ ih' | (exfalso; omega))
    · try simp only [b2_0, Classical.not_not] at qc22
      try simp only [Int64.le_iff_toInt_le, Int64.lt_iff_toInt_lt, Int32.lt_iff_toInt_lt, Int32.le_iff_toInt_le, Int32.toInt_toInt64, Int64.reduceToInt, Int32.reduceToInt, Int.reduceNeg, Classical.not_not, i32e, l_add] at qc22
      refine ⟨by first | exact vpi (by omega) | with_reducible exact vp_in_nI (by omega) (by omega), ?_⟩
      refine ⟨fun qc23 => ?_, fun qc23 => ?_⟩
      · try simp only [b2_0, Classical.not_not] at qc23
        try simp only [Int64.le_iff_toInt_le, Int64.lt_iff_toInt_lt, Int32.lt_iff_toInt_lt, Int32.le_iff_toInt_le, Int32.toInt_toInt64, Int64.reduceToInt, Int32.reduceToInt, Int.reduceNeg, Classical.not_not, i32e, l_add] at qc23
        refine st b_X12_written_52 _ _ k_X12_written_52 _ _ _ _ _ ?_
        simp only [b_X12_written_52, zr_aload_n0, zr_get2, zr_iload, zr_lald, zr_lneg, zr_nil, zr_cons, ↓reduceIte, Nat.reduceAdd, Nat.reduceEqDiff, Nat.reduceLeDiff, Nat.reduceMul, Nat.reduceSub, Int32.reduceOfInt, Int64.reduceOfInt, Int64.reduceOfNat, true_and, and_true, false_and, and_false, or_false, false_or, true_or, or_true, Int.reduceEq, reduceCtorEq, or_self, and_self, ne_eq, not_false_eq_true, not_true_eq_false, eq_self, Nat.le_refl, Nat.zero_le, zr_eI, zr_eL, zr_eR, zr_pI, zr_pL, zr_pR, zr_pO, zr_pV, zq_pA0, zq_pA, zr_get, zr_put_n, zr_put, zr_rem_n, zr_rem, zr_cat_i, zr_cat_l, zr_cat_q, zr_w_n, zr_w, zr_args_n, zr_args, zr_tl_s, zr_tl_n, zr_hIsI, zr_hLsL, zr_hRsR, zr_hIsL, zr_hIsR, zr_hLsI, zr_hLsR, zr_hRsI, zr_hRsL, zr_hNsI, zr_hNsL, zr_hNsR, zr_hZsI, zr_hZsL, zr_hZsR, b2_01, Classical.not_not, Int32.toInt_toInt64, Int64.reduceToInt, zc_1000, zc_100, zc_10, zc_9, zc_2, ci_f, hM, ms_19 e, mR_50, aLen_350, aCod_350, ma_50 e, mR_52, aLen_352, aCod_352, ma_52 e, mR_54, aLen_354, aCod_354, mb_54 e, ki]
        refine ⟨by first | exact vpi (by omega) | with_reducible exact vp_in_nI (by omega) (by omega), ?_⟩
        refine st b_X12_written_60 _ _ k_X12_written_60 _ _ _ _ _ ?_
        simp only [b_X12_written_60, zr_ladd, zr_lstore_n2, zr_nil, zr_cons, ↓reduceIte, Nat.reduceAdd, Nat.reduceEqDiff, Nat.reduceLeDiff, Nat.reduceMul, Nat.reduceSub, Int32.reduceOfInt, Int64.reduceOfInt, Int64.reduceOfNat, true_and, and_true, false_and, and_false, or_false, false_or, true_or, or_true, Int.reduceEq, reduceCtorEq, or_self, and_self, ne_eq, not_false_eq_true, not_true_eq_false, eq_self, Nat.le_refl, Nat.zero_le, zr_eI, zr_eL, zr_eR, zr_pI, zr_pL, zr_pR, zr_pO, zr_pV, zq_pA0, zq_pA, zr_get, zr_put_n, zr_put, zr_rem_n, zr_rem, zr_cat_i, zr_cat_l, zr_cat_q, zr_w_n, zr_w, zr_args_n, zr_args, zr_tl_s, zr_tl_n, zr_hIsI, zr_hLsL, zr_hRsR, zr_hIsL, zr_hIsR, zr_hLsI, zr_hLsR, zr_hRsI, zr_hRsL, zr_hNsI, zr_hNsL, zr_hNsR, zr_hZsI, zr_hZsL, zr_hZsR, b2_01, Classical.not_not, Int32.toInt_toInt64, Int64.reduceToInt, zc_1000, zc_100, zc_10, zc_9, zc_2, ci_f, hM, ms_19 e, mR_50, aLen_350, aCod_350, ma_50 e, mR_52, aLen_352, aCod_352, ma_52 e, mR_54, aLen_354, aCod_354, mb_54 e, ki]
        refine st b_X12_written_62 _ _ k_X12_written_62 _ _ _ _ _ ?_
        simp only [b_X12_written_62, zr_goto, zr_iinc, zr_nil, zr_cons, ↓reduceIte, Nat.reduceAdd, Nat.reduceEqDiff, Nat.reduceLeDiff, Nat.reduceMul, Nat.reduceSub, Int32.reduceOfInt, Int64.reduceOfInt, Int64.reduceOfNat, true_and, and_true, false_and, and_false, or_false, false_or, true_or, or_true, Int.reduceEq, reduceCtorEq, or_self, and_self, ne_eq, not_false_eq_true, not_true_eq_false, eq_self, Nat.le_refl, Nat.zero_le, zr_eI, zr_eL, zr_eR, zr_pI, zr_pL, zr_pR, zr_pO, zr_pV, zq_pA0, zq_pA, zr_get, zr_put_n, zr_put, zr_rem_n, zr_rem, zr_cat_i, zr_cat_l, zr_cat_q, zr_w_n, zr_w, zr_args_n, zr_args, zr_tl_s, zr_tl_n, zr_hIsI, zr_hLsL, zr_hRsR, zr_hIsL, zr_hIsR, zr_hLsI, zr_hLsR, zr_hRsI, zr_hRsL, zr_hNsI, zr_hNsL, zr_hNsR, zr_hZsI, zr_hZsL, zr_hZsR, b2_01, Classical.not_not, Int32.toInt_toInt64, Int64.reduceToInt, zc_1000, zc_100, zc_10, zc_9, zc_2, ci_f, hM, ms_19 e, mR_50, aLen_350, aCod_350, ma_50 e, mR_52, aLen_352, aCod_352, ma_52 e, mR_54, aLen_354, aCod_354, mb_54 e, ki]
        have ih' := ih (by omega)
        simp only [o_wr] at ih'
        rw [nI_1]
        (repeat' split at ih') <;> (first | exact ih' | exact wk _ _ _ _ _ _ _ ih' | (exfalso; omega))
      · try simp only [b2_0, Classical.not_not] at qc23
        try simp only [Int64.le_iff_toInt_le, Int64.lt_iff_toInt_lt, Int32.lt_iff_toInt_lt, Int32.le_iff_toInt_le, Int32.toInt_toInt64, Int64.reduceToInt, Int32.reduceToInt, Int.reduceNeg, Classical.not_not, i32e, l_add] at qc23
        refine ⟨by first | exact vpi (by omega) | with_reducible exact vp_in_nI (by omega) (by omega), ?_⟩
        refine st b_X12_written_60 _ _ k_X12_written_60 _ _ _ _ _ ?_
        simp only [b_X12_written_60, zr_ladd, zr_lstore_n2, zr_nil, zr_cons, ↓reduceIte, Nat.reduceAdd, Nat.reduceEqDiff, Nat.reduceLeDiff, Nat.reduceMul, Nat.reduceSub, Int32.reduceOfInt, Int64.reduceOfInt, Int64.reduceOfNat, true_and, and_true, false_and, and_false, or_false, false_or, true_or, or_true, Int.reduceEq, reduceCtorEq, or_self, and_self, ne_eq, not_false_eq_true, not_true_eq_false, eq_self, Nat.le_refl, Nat.zero_le, zr_eI, zr_eL, zr_eR, zr_pI, zr_pL, zr_pR, zr_pO, zr_pV, zq_pA0, zq_pA, zr_get, zr_put_n, zr_put, zr_rem_n, zr_rem, zr_cat_i, zr_cat_l, zr_cat_q, zr_w_n, zr_w, zr_args_n, zr_args, zr_tl_s, zr_tl_n, zr_hIsI, zr_hLsL, zr_hRsR, zr_hIsL, zr_hIsR, zr_hLsI, zr_hLsR, zr_hRsI, zr_hRsL, zr_hNsI, zr_hNsL, zr_hNsR, zr_hZsI, zr_hZsL, zr_hZsR, b2_01, Classical.not_not, Int32.toInt_toInt64, Int64.reduceToInt, zc_1000, zc_100, zc_10, zc_9, zc_2, ci_f, hM, ms_19 e, mR_50, aLen_350, aCod_350, ma_50 e, mR_52, aLen_352, aCod_352, ma_52 e, mR_54, aLen_354, aCod_354, mb_54 e, ki]
        refine st b_X12_written_62 _ _ k_X12_written_62 _ _ _ _ _ ?_
        simp only [b_X12_written_62, zr_goto, zr_iinc, zr_nil, zr_cons, ↓reduceIte, Nat.reduceAdd, Nat.reduceEqDiff, Nat.reduceLeDiff, Nat.reduceMul, Nat.reduceSub, Int32.reduceOfInt, Int64.reduceOfInt, Int64.reduceOfNat, true_and, and_true, false_and, and_false, or_false, false_or, true_or, or_true, Int.reduceEq, reduceCtorEq, or_self, and_self, ne_eq, not_false_eq_true, not_true_eq_false, eq_self, Nat.le_refl, Nat.zero_le, zr_eI, zr_eL, zr_eR, zr_pI, zr_pL, zr_pR, zr_pO, zr_pV, zq_pA0, zq_pA, zr_get, zr_put_n, zr_put, zr_rem_n, zr_rem, zr_cat_i, zr_cat_l, zr_cat_q, zr_w_n, zr_w, zr_args_n, zr_args, zr_tl_s, zr_tl_n, zr_hIsI, zr_hLsL, zr_hRsR, zr_hIsL, zr_hIsR, zr_hLsI, zr_hLsR, zr_hRsI, zr_hRsL, zr_hNsI, zr_hNsL, zr_hNsR, zr_hZsI, zr_hZsL, zr_hZsR, b2_01, Classical.not_not, Int32.toInt_toInt64, Int64.reduceToInt, zc_1000, zc_100, zc_10, zc_9, zc_2, ci_f, hM, ms_19 e, mR_50, aLen_350, aCod_350, ma_50 e, mR_52, aLen_352, aCod_352, ma_52 e, mR_54, aLen_354, aCod_354, mb_54 e, ki]
        have ih' := ih (by omega)
        simp only [o_wr] at ih'
        rw [nI_1]
        (repeat' split at ih') <;> (first | exact ih' | exact wk _ _ _ _ _ _ _ ih' | (exfalso; omega))
theorem m_accountOf (l : Launch) (G : z_G) (d : Nat) (hd : 3 ≤ d) (S : z_M) (h : z_H) (e : mv h = S) (hM : z_MR h) (inv : INV S) (a what : Int32) : z_MT l G d yX12_accountOf cX12_accountOf 5 (some .int) [z_r 14 0, z_i a, z_i what] h 0 0 (Qi h (o_accountOf S a what, S)) := by
  have hM' := hM
  unfold z_MR at hM
  have huA : nA S = ci (mS S 16) := rfl
  have htA := inv.cA.t
  have hbA := inv.cA.2
  have hpA : (mS S 16 - 1).toInt = (ci (mS S 16) : Int) - 1 := by
    rw [sub32 (by rw [htA, show (1 : Int32).toInt = 1 from rfl]; omega) (by rw [htA, show (1 : Int32).toInt = 1 from rfl]; omega), htA]
    rfl
  have huF : nF S = ci (mS S 20) := rfl
  have htF := inv.cF.t
  have hbF := inv.cF.2
  have hpF : (mS S 20 - 1).toInt = (ci (mS S 20) : Int) - 1 := by
    rw [sub32 (by rw [htF, show (1 : Int32).toInt = 1 from rfl]; omega) (by rw [htF, show (1 : Int32).toInt = 1 from rfl]; omega), htF]
    rfl
  refine z_mt2 14 false ⟨by decide, rfl, fun q => absurd q (by decide)⟩ (by show 3 ≤ 5; decide) (fun A st wk => ?_)
  refine st b_X12_accountOf_0 _ _ k_X12_accountOf_0 _ _ _ _ _ ?_
  simp only [b_X12_accountOf_0, zr_T, zr_aload_n0, zr_bipush, zr_cP_ne, zr_call0, zr_iconst, zr_ifc, zr_iload_n1, zr_iret, zr_put0, zr_rt_a, zr_rt_i, zr_rt_l, zr_rt_n, zr_rt_z, zr_nil, zr_cons, ↓reduceIte, Nat.reduceAdd, Nat.reduceEqDiff, Nat.reduceLeDiff, Nat.reduceMul, Nat.reduceSub, Int32.reduceOfInt, Int64.reduceOfInt, Int64.reduceOfNat, true_and, and_true, false_and, and_false, or_false, false_or, true_or, or_true, Int.reduceEq, reduceCtorEq, or_self, and_self, ne_eq, not_false_eq_true, not_true_eq_false, eq_self, Nat.le_refl, Nat.zero_le, zr_eI, zr_eL, zr_eR, zr_pI, zr_pL, zr_pR, zr_pO, zr_pV, zq_pA0, zq_pA, zr_get, zr_put_n, zr_put, zr_rem_n, zr_rem, zr_cat_i, zr_cat_l, zr_cat_q, zr_w_n, zr_w, zr_args_n, zr_args, zr_tl_s, zr_tl_n, zr_hIsI, zr_hLsL, zr_hRsR, zr_hIsL, zr_hIsR, zr_hLsI, zr_hLsR, zr_hRsI, zr_hRsL, zr_hNsI, zr_hNsL, zr_hNsR, zr_hZsI, zr_hZsL, zr_hZsR, b2_01, Classical.not_not, Int32.toInt_toInt64, Int64.reduceToInt, zc_1000, zc_100, zc_10, zc_9, zc_2, ci_f, hM, ms_20 e, mR_28, aLen_328, aCod_328, ma_28 e, mR_29, aLen_329, aCod_329, ma_29 e, mR_55, aLen_355, aCod_355, ma_55 e]
  refine cp0 (by omega) lk_X12_205 (rc_14 rfl) (m_isAccount l G _ (by omega) S _ (by simp only [mv_thr, e]) (z_MR.I hM') inv _) (Nat.le_refl _) (Nat.le_refl _) ?_
  simp only [zr_T, zr_bipush, zr_cP_ne, zr_ifc, zr_iret, zr_rt_a, zr_rt_i, zr_rt_l, zr_rt_n, zr_rt_z, zr_nil, zr_cons, ↓reduceIte, Nat.reduceAdd, Nat.reduceEqDiff, Nat.reduceLeDiff, Nat.reduceMul, Nat.reduceSub, Int32.reduceOfInt, Int64.reduceOfInt, Int64.reduceOfNat, true_and, and_true, false_and, and_false, or_false, false_or, true_or, or_true, Int.reduceEq, reduceCtorEq, or_self, and_self, ne_eq, not_false_eq_true, not_true_eq_false, eq_self, Nat.le_refl, Nat.zero_le, zr_eI, zr_eL, zr_eR, zr_pI, zr_pL, zr_pR, zr_pO, zr_pV, zq_pA0, zq_pA, zr_get, zr_put_n, zr_put, zr_rem_n, zr_rem, zr_cat_i, zr_cat_l, zr_cat_q, zr_w_n, zr_w, zr_args_n, zr_args, zr_tl_s, zr_tl_n, zr_hIsI, zr_hLsL, zr_hRsR, zr_hIsL, zr_hIsR, zr_hLsI, zr_hLsR, zr_hRsI, zr_hRsL, zr_hNsI, zr_hNsL, zr_hNsR, zr_hZsI, zr_hZsL, zr_hZsR, b2_01, Classical.not_not, Int32.toInt_toInt64, Int64.reduceToInt, zc_1000, zc_100, zc_10, zc_9, zc_2, ci_f, hM, ms_20 e, mR_28, aLen_328, aCod_328, ma_28 e, mR_29, aLen_329, aCod_329, ma_29 e, mR_55, aLen_355, aCod_355, ma_55 e]
  refine ⟨fun qc1 => ?_, fun qc1 => ?_⟩
  · try simp only [b2_0, Classical.not_not] at qc1
    try simp only [Int64.le_iff_toInt_le, Int64.lt_iff_toInt_lt, Int32.lt_iff_toInt_lt, Int32.le_iff_toInt_le, Int32.toInt_toInt64, Int64.reduceToInt, Int32.reduceToInt, Int.reduceNeg, Classical.not_not, i32e, l_add] at qc1
    refine st b_X12_accountOf_16 _ _ k_X12_accountOf_16 _ _ _ _ _ ?_
    simp only [b_X12_accountOf_16, zr_iload_n2, zr_tsw, zr_nil, zr_cons, ↓reduceIte, Nat.reduceAdd, Nat.reduceEqDiff, Nat.reduceLeDiff, Nat.reduceMul, Nat.reduceSub, Int32.reduceOfInt, Int64.reduceOfInt, Int64.reduceOfNat, true_and, and_true, false_and, and_false, or_false, false_or, true_or, or_true, Int.reduceEq, reduceCtorEq, or_self, and_self, ne_eq, not_false_eq_true, not_true_eq_false, eq_self, Nat.le_refl, Nat.zero_le, zr_eI, zr_eL, zr_eR, zr_pI, zr_pL, zr_pR, zr_pO, zr_pV, zq_pA0, zq_pA, zr_get, zr_put_n, zr_put, zr_rem_n, zr_rem, zr_cat_i, zr_cat_l, zr_cat_q, zr_w_n, zr_w, zr_args_n, zr_args, zr_tl_s, zr_tl_n, zr_hIsI, zr_hLsL, zr_hRsR, zr_hIsL, zr_hIsR, zr_hLsI, zr_hLsR, zr_hRsI, zr_hRsL, zr_hNsI, zr_hNsL, zr_hNsR, zr_hZsI, zr_hZsL, zr_hZsR, b2_01, Classical.not_not, Int32.toInt_toInt64, Int64.reduceToInt, zc_1000, zc_100, zc_10, zc_9, zc_2, ci_f, hM, ms_20 e, mR_28, aLen_328, aCod_328, ma_28 e, mR_29, aLen_329, aCod_329, ma_29 e, mR_55, aLen_355, aCod_355, ma_55 e]
    by_cases qt2 : (what).toInt = 0
    · refine z_swA 48 0 qt2 rfl ?_
      refine st b_X12_accountOf_48 _ _ k_X12_accountOf_48 _ _ _ _ _ ?_
      simp only [b_X12_accountOf_48, zr_T, zr_aload_n0, zr_call0, zr_iload_n1, zr_iret, zr_rt_a, zr_rt_i, zr_rt_l, zr_rt_n, zr_rt_z, zr_nil, zr_cons, ↓reduceIte, Nat.reduceAdd, Nat.reduceEqDiff, Nat.reduceLeDiff, Nat.reduceMul, Nat.reduceSub, Int32.reduceOfInt, Int64.reduceOfInt, Int64.reduceOfNat, true_and, and_true, false_and, and_false, or_false, false_or, true_or, or_true, Int.reduceEq, reduceCtorEq, or_self, and_self, ne_eq, not_false_eq_true, not_true_eq_false, eq_self, Nat.le_refl, Nat.zero_le, zr_eI, zr_eL, zr_eR, zr_pI, zr_pL, zr_pR, zr_pO, zr_pV, zq_pA0, zq_pA, zr_get, zr_put_n, zr_put, zr_rem_n, zr_rem, zr_cat_i, zr_cat_l, zr_cat_q, zr_w_n, zr_w, zr_args_n, zr_args, zr_tl_s, zr_tl_n, zr_hIsI, zr_hLsL, zr_hRsR, zr_hIsL, zr_hIsR, zr_hLsI, zr_hLsR, zr_hRsI, zr_hRsL, zr_hNsI, zr_hNsL, zr_hNsR, zr_hZsI, zr_hZsL, zr_hZsR, b2_01, Classical.not_not, Int32.toInt_toInt64, Int64.reduceToInt, zc_1000, zc_100, zc_10, zc_9, zc_2, ci_f, hM, ms_20 e, mR_28, aLen_328, aCod_328, ma_28 e, mR_29, aLen_329, aCod_329, ma_29 e, mR_55, aLen_355, aCod_355, ma_55 e]
      refine cp0 (by omega) lk_X12_221 (rc_14 rfl) (m_folioOf l G _ S _ (by simp only [mv_thr, e]) (z_MR.I hM') inv _) (Nat.le_refl _) (Nat.le_refl _) ?_
      simp only [zr_T, zr_iret, zr_rt_a, zr_rt_i, zr_rt_l, zr_rt_n, zr_rt_z, zr_nil, zr_cons, ↓reduceIte, Nat.reduceAdd, Nat.reduceEqDiff, Nat.reduceLeDiff, Nat.reduceMul, Nat.reduceSub, Int32.reduceOfInt, Int64.reduceOfInt, Int64.reduceOfNat, true_and, and_true, false_and, and_false, or_false, false_or, true_or, or_true, Int.reduceEq, reduceCtorEq, or_self, and_self, ne_eq, not_false_eq_true, not_true_eq_false, eq_self, Nat.le_refl, Nat.zero_le, zr_eI, zr_eL, zr_eR, zr_pI, zr_pL, zr_pR, zr_pO, zr_pV, zq_pA0, zq_pA, zr_get, zr_put_n, zr_put, zr_rem_n, zr_rem, zr_cat_i, zr_cat_l, zr_cat_q, zr_w_n, zr_w, zr_args_n, zr_args, zr_tl_s, zr_tl_n, zr_hIsI, zr_hLsL, zr_hRsR, zr_hIsL, zr_hIsR, zr_hLsI, zr_hLsR, zr_hRsI, zr_hRsL, zr_hNsI, zr_hNsL, zr_hNsR, zr_hZsI, zr_hZsL, zr_hZsR, b2_01, Classical.not_not, Int32.toInt_toInt64, Int64.reduceToInt, zc_1000, zc_100, zc_10, zc_9, zc_2, ci_f, hM, ms_20 e, mR_28, aLen_328, aCod_328, ma_28 e, mR_29, aLen_329, aCod_329, ma_29 e, mR_55, aLen_355, aCod_355, ma_55 e]
      refine qi' ?_ (by repeat (first | exact z_sC.rf | exact hsc | refine z_sC.I ?_ (by decide) | refine z_sC.L ?_ (by decide))) hM'
      simp only [mv_thr, e]
      unfold o_accountOf
      (repeat' split) <;> (first | rfl | (exfalso; omega))
    · by_cases qt3 : (what).toInt = 1
      · refine z_swA 54 1 qt3 rfl ?_
        refine st b_X12_accountOf_54 _ _ k_X12_accountOf_54 _ _ _ _ _ ?_
        simp only [b_X12_accountOf_54, zr_iconst, zr_istore, zr_istore_n3, zr_nil, zr_cons, ↓reduceIte, Nat.reduceAdd, Nat.reduceEqDiff, Nat.reduceLeDiff, Nat.reduceMul, Nat.reduceSub, Int32.reduceOfInt, Int64.reduceOfInt, Int64.reduceOfNat, true_and, and_true, false_and, and_false, or_false, false_or, true_or, or_true, Int.reduceEq, reduceCtorEq, or_self, and_self, ne_eq, not_false_eq_true, not_true_eq_false, eq_self, Nat.le_refl, Nat.zero_le, zr_eI, zr_eL, zr_eR, zr_pI, zr_pL, zr_pR, zr_pO, zr_pV, zq_pA0, zq_pA, zr_get, zr_put_n, zr_put, zr_rem_n, zr_rem, zr_cat_i, zr_cat_l, zr_cat_q, zr_w_n, zr_w, zr_args_n, zr_args, zr_tl_s, zr_tl_n, zr_hIsI, zr_hLsL, zr_hRsR, zr_hIsL, zr_hIsR, zr_hLsI, zr_hLsR, zr_hRsI, zr_hRsL, zr_hNsI, zr_hNsL, zr_hNsR, zr_hZsI, zr_hZsL, zr_hZsR, b2_01, Classical.not_not, Int32.toInt_toInt64, Int64.reduceToInt, zc_1000, zc_100, zc_10, zc_9, zc_2, ci_f, hM, ms_20 e, mR_28, aLen_328, aCod_328, ma_28 e, mR_29, aLen_329, aCod_329, ma_29 e, mR_55, aLen_355, aCod_355, ma_55 e]
        refine (show ∀ i, i ≤ nF S → A 59 [(0, z_r 14 0), (1, z_i a), (2, z_i what), (3, z_i (nI (o_nf (mA S 55) a i))), (4, z_i (nI i))] [] (sI h 14 0 0 0) 0 0 from z_loop (fun i hi ih => ?_)) 0 (Nat.zero_le _)
        have ti := toIntS (show i < 2000000000 by omega)
        have ki := nI_clampS (show i < 2000000000 by omega)
        refine st b_X12_accountOf_59 _ _ k_X12_accountOf_59 _ _ _ _ _ ?_
        simp only [b_X12_accountOf_59, zr_aload_n0, zr_cP_ge, zr_cP_ne, zr_get0, zr_get2, zr_goto, zr_iald, zr_icmp, zr_iconst, zr_iload, zr_iload_n1, zr_iload_n3, zr_nil, zr_cons, ↓reduceIte, Nat.reduceAdd, Nat.reduceEqDiff, Nat.reduceLeDiff, Nat.reduceMul, Nat.reduceSub, Int32.reduceOfInt, Int64.reduceOfInt, Int64.reduceOfNat, true_and, and_true, false_and, and_false, or_false, false_or, true_or, or_true, Int.reduceEq, reduceCtorEq, or_self, and_self, ne_eq, not_false_eq_true, not_true_eq_false, eq_self, Nat.le_refl, Nat.zero_le, zr_eI, zr_eL, zr_eR, zr_pI, zr_pL, zr_pR, zr_pO, zr_pV, zq_pA0, zq_pA, zr_get, zr_put_n, zr_put, zr_rem_n, zr_rem, zr_cat_i, zr_cat_l, zr_cat_q, zr_w_n, zr_w, zr_args_n, zr_args, zr_tl_s, zr_tl_n, zr_hIsI, zr_hLsL, zr_hRsR, zr_hIsL, zr_hIsR, zr_hLsI, zr_hLsR, zr_hRsI, zr_hRsL, zr_hNsI, zr_hNsL, zr_hNsR, zr_hZsI, zr_hZsL, zr_hZsR, b2_01, Classical.not_not, Int32.toInt_toInt64, Int64.reduceToInt, zc_1000, zc_100, zc_10, zc_9, zc_2, ci_f, hM, ms_20 e, mR_28, aLen_328, aCod_328, ma_28 e, mR_29, aLen_329, aCod_329, ma_29 e, mR_55, aLen_355, aCod_355, ma_55 e, ki]
        refine ⟨fun qc21 => ?_, fun qc21 => ?_⟩
        · try simp only [b2_0, Classical.not_not] at qc21
          try simp only [Int64.le_iff_toInt_le, Int64.lt_iff_toInt_lt, Int32.lt_iff_toInt_lt, Int32.le_iff_toInt_le, Int32.toInt_toInt64, Int64.reduceToInt, Int32.reduceToInt, Int.reduceNeg, Classical.not_not, i32e, l_add] at qc21
          refine st b_X12_accountOf_93 _ _ k_X12_accountOf_93 _ _ _ _ _ ?_
          simp only [b_X12_accountOf_93, zr_T, zr_iload_n3, zr_iret, zr_rt_a, zr_rt_i, zr_rt_l, zr_rt_n, zr_rt_z, zr_nil, zr_cons, ↓reduceIte, Nat.reduceAdd, Nat.reduceEqDiff, Nat.reduceLeDiff, Nat.reduceMul, Nat.reduceSub, Int32.reduceOfInt, Int64.reduceOfInt, Int64.reduceOfNat, true_and, and_true, false_and, and_false, or_false, false_or, true_or, or_true, Int.reduceEq, reduceCtorEq, or_self, and_self, ne_eq, not_false_eq_true, not_true_eq_false, eq_self, Nat.le_refl, Nat.zero_le, zr_eI, zr_eL, zr_eR, zr_pI, zr_pL, zr_pR, zr_pO, zr_pV, zq_pA0, zq_pA, zr_get, zr_put_n, zr_put, zr_rem_n, zr_rem, zr_cat_i, zr_cat_l, zr_cat_q, zr_w_n, zr_w, zr_args_n, zr_args, zr_tl_s, zr_tl_n, zr_hIsI, zr_hLsL, zr_hRsR, zr_hIsL, zr_hIsR, zr_hLsI, zr_hLsR, zr_hRsI, zr_hRsL, zr_hNsI, zr_hNsL, zr_hNsR, zr_hZsI, zr_hZsL, zr_hZsR, b2_01, Classical.not_not, Int32.toInt_toInt64, Int64.reduceToInt, zc_1000, zc_100, zc_10, zc_9, zc_2, ci_f, hM, ms_20 e, mR_28, aLen_328, aCod_328, ma_28 e, mR_29, aLen_329, aCod_329, ma_29 e, mR_55, aLen_355, aCod_355, ma_55 e, ki]
          have ei : i = nF S := by omega
          subst ei
          refine qi' ?_ (by repeat (first | exact z_sC.rf | exact hsc | refine z_sC.I ?_ (by decide) | refine z_sC.L ?_ (by decide))) hM'
          simp only [mv_thr, e]
          unfold o_accountOf
          (repeat' split) <;> (first | rfl | (exfalso; omega))
        · try simp only [b2_0, Classical.not_not] at qc21
          try simp only [Int64.le_iff_toInt_le, Int64.lt_iff_toInt_lt, Int32.lt_iff_toInt_lt, Int32.le_iff_toInt_le, Int32.toInt_toInt64, Int64.reduceToInt, Int32.reduceToInt, Int.reduceNeg, Classical.not_not, i32e, l_add] at qc21
          refine ⟨by first | exact vpi (by omega) | with_reducible exact vp_in_nI (by omega) (by omega), ?_⟩
          refine ⟨fun qc22 => ?_, fun qc22 => ?_⟩
          · try simp only [b2_0, Classical.not_not] at qc22
            try simp only [Int64.le_iff_toInt_le, Int64.lt_iff_toInt_lt, Int32.lt_iff_toInt_lt, Int32.le_iff_toInt_le, Int32.toInt_toInt64, Int64.reduceToInt, Int32.reduceToInt, Int.reduceNeg, Classical.not_not, i32e, l_add] at qc22
            refine st b_X12_accountOf_84 _ _ k_X12_accountOf_84 _ _ _ _ _ ?_
            simp only [b_X12_accountOf_84, zr_iconst, zr_nil, zr_cons, ↓reduceIte, Nat.reduceAdd, Nat.reduceEqDiff, Nat.reduceLeDiff, Nat.reduceMul, Nat.reduceSub, Int32.reduceOfInt, Int64.reduceOfInt, Int64.reduceOfNat, true_and, and_true, false_and, and_false, or_false, false_or, true_or, or_true, Int.reduceEq, reduceCtorEq, or_self, and_self, ne_eq, not_false_eq_true, not_true_eq_false, eq_self, Nat.le_refl, Nat.zero_le, zr_eI, zr_eL, zr_eR, zr_pI, zr_pL, zr_pR, zr_pO, zr_pV, zq_pA0, zq_pA, zr_get, zr_put_n, zr_put, zr_rem_n, zr_rem, zr_cat_i, zr_cat_l, zr_cat_q, zr_w_n, zr_w, zr_args_n, zr_args, zr_tl_s, zr_tl_n, zr_hIsI, zr_hLsL, zr_hRsR, zr_hIsL, zr_hIsR, zr_hLsI, zr_hLsR, zr_hRsI, zr_hRsL, zr_hNsI, zr_hNsL, zr_hNsR, zr_hZsI, zr_hZsL, zr_hZsR, b2_01, Classical.not_not, Int32.toInt_toInt64, Int64.reduceToInt, zc_1000, zc_100, zc_10, zc_9, zc_2, ci_f, hM, ms_20 e, mR_28, aLen_328, aCod_328, ma_28 e, mR_29, aLen_329, aCod_329, ma_29 e, mR_55, aLen_355, aCod_355, ma_55 e, ki]
            refine st b_X12_accountOf_85 _ _ k_X12_accountOf_85 _ _ _ _ _ ?_
            simp only [b_X12_accountOf_85, zr_goto, zr_iadd, zr_iinc, zr_istore_n3, zr_nil, zr_cons, ↓reduceIte, Nat.reduceAdd, Nat.reduceEqDiff, Nat.reduceLeDiff, Nat.reduceMul, Nat.reduceSub, Int32.reduceOfInt, Int64.reduceOfInt, Int64.reduceOfNat, true_and, and_true, false_and, and_false, or_false, false_or, true_or, or_true, Int.reduceEq, reduceCtorEq, or_self, and_self, ne_eq, not_false_eq_true, not_true_eq_false, eq_self, Nat.le_refl, Nat.zero_le, zr_eI, zr_eL, zr_eR, zr_pI, zr_pL, zr_pR, zr_pO, zr_pV, zq_pA0, zq_pA, zr_get, zr_put_n, zr_put, zr_rem_n, zr_rem, zr_cat_i, zr_cat_l, zr_cat_q, zr_w_n, zr_w, zr_args_n, zr_args, zr_tl_s, zr_tl_n, zr_hIsI, zr_hLsL, zr_hRsR, zr_hIsL, zr_hIsR, zr_hLsI, zr_hLsR, zr_hRsI, zr_hRsL, zr_hNsI, zr_hNsL, zr_hNsR, zr_hZsI, zr_hZsL, zr_hZsR, b2_01, Classical.not_not, Int32.toInt_toInt64, Int64.reduceToInt, zc_1000, zc_100, zc_10, zc_9, zc_2, ci_f, hM, ms_20 e, mR_28, aLen_328, aCod_328, ma_28 e, mR_29, aLen_329, aCod_329, ma_29 e, mR_55, aLen_355, aCod_355, ma_55 e, ki]
            have ih' := ih (by omega)
            simp only [o_nf] at ih'
            simp only [nI_1, Int32.add_zero]
            (repeat' split at ih') <;> (try simp only [Nat.add_zero] at ih') <;> (first | exact ih' | exact wk _ _ _ _ _ _ _ ih' | (exfalso; omega))
          · try simp only [b2_0, Classical.not_not] at qc22
            try simp only [Int64.le_iff_toInt_le, Int64.lt_iff_toInt_lt, Int32.lt_iff_toInt_lt, Int32.le_iff_toInt_le, Int32.toInt_toInt64, Int64.reduceToInt, Int32.reduceToInt, Int.reduceNeg, Classical.not_not, i32e, l_add] at qc22
            refine st b_X12_accountOf_85 _ _ k_X12_accountOf_85 _ _ _ _ _ ?_
            simp only [b_X12_accountOf_85, zr_goto, zr_iadd, zr_iinc, zr_istore_n3, zr_nil, zr_cons, ↓reduceIte, Nat.reduceAdd, Nat.reduceEqDiff, Nat.reduceLeDiff, Nat.reduceMul, Nat.reduceSub, Int32.reduceOfInt, Int64.reduceOfInt, Int64.reduceOfNat, true_and, and_true, false_and, and_false, or_false, false_or, true_or, or_true, Int.reduceEq, reduceCtorEq, or_self, and_self, ne_eq, not_false_eq_true, not_true_eq_false, eq_self, Nat.le_refl, Nat.zero_le, zr_eI, zr_eL, zr_eR, zr_pI, zr_pL, zr_pR, zr_pO, zr_pV, zq_pA0, zq_pA, zr_get, zr_put_n, zr_put, zr_rem_n, zr_rem, zr_cat_i, zr_cat_l, zr_cat_q, zr_w_n, zr_w, zr_args_n, zr_args, zr_tl_s, zr_tl_n, zr_hIsI, zr_hLsL, zr_hRsR, zr_hIsL, zr_hIsR, zr_hLsI, zr_hLsR, zr_hRsI, zr_hRsL, zr_hNsI, zr_hNsL, zr_hNsR, zr_hZsI, zr_hZsL, zr_hZsR, b2_01, Classical.not_not, Int32.toInt_toInt64, Int64.reduceToInt, zc_1000, zc_100, zc_10, zc_9, zc_2, ci_f, hM, ms_20 e, mR_28, aLen_328, aCod_328, ma_28 e, mR_29, aLen_329, aCod_329, ma_29 e, mR_55, aLen_355, aCod_355, ma_55 e, ki]
            have ih' := ih (by omega)
            simp only [o_nf] at ih'
            simp only [nI_1, Int32.add_zero]
            (repeat' split at ih') <;> (try simp only [Nat.add_zero] at ih') <;> (first | exact ih' | exact wk _ _ _ _ _ _ _ ih' | (exfalso; omega))
      · by_cases qt4 : (what).toInt = 2
        · refine z_swA 95 2 qt4 rfl ?_
          refine st b_X12_accountOf_95 _ _ k_X12_accountOf_95 _ _ _ _ _ ?_
          simp only [b_X12_accountOf_95, zr_T, zr_aload_n0, zr_get2, zr_iald, zr_iload_n1, zr_iret, zr_rt_a, zr_rt_i, zr_rt_l, zr_rt_n, zr_rt_z, zr_nil, zr_cons, ↓reduceIte, Nat.reduceAdd, Nat.reduceEqDiff, Nat.reduceLeDiff, Nat.reduceMul, Nat.reduceSub, Int32.reduceOfInt, Int64.reduceOfInt, Int64.reduceOfNat, true_and, and_true, false_and, and_false, or_false, false_or, true_or, or_true, Int.reduceEq, reduceCtorEq, or_self, and_self, ne_eq, not_false_eq_true, not_true_eq_false, eq_self, Nat.le_refl, Nat.zero_le, zr_eI, zr_eL, zr_eR, zr_pI, zr_pL, zr_pR, zr_pO, zr_pV, zq_pA0, zq_pA, zr_get, zr_put_n, zr_put, zr_rem_n, zr_rem, zr_cat_i, zr_cat_l, zr_cat_q, zr_w_n, zr_w, zr_args_n, zr_args, zr_tl_s, zr_tl_n, zr_hIsI, zr_hLsL, zr_hRsR, zr_hIsL, zr_hIsR, zr_hLsI, zr_hLsR, zr_hRsI, zr_hRsL, zr_hNsI, zr_hNsL, zr_hNsR, zr_hZsI, zr_hZsL, zr_hZsR, b2_01, Classical.not_not, Int32.toInt_toInt64, Int64.reduceToInt, zc_1000, zc_100, zc_10, zc_9, zc_2, ci_f, hM, ms_20 e, mR_28, aLen_328, aCod_328, ma_28 e, mR_29, aLen_329, aCod_329, ma_29 e, mR_55, aLen_355, aCod_355, ma_55 e]
          refine ⟨by first | exact vpi (by omega) | with_reducible exact vp_in_nI (by omega) (by omega), ?_⟩
          refine qi' ?_ (by repeat (first | exact z_sC.rf | exact hsc | refine z_sC.I ?_ (by decide) | refine z_sC.L ?_ (by decide))) hM'
          simp only [mv_thr, e]
          unfold o_accountOf
          (repeat' split) <;> (first | rfl | (exfalso; omega))
        · by_cases qt5 : (what).toInt = 3
          · refine z_swA 102 3 qt5 rfl ?_
            refine st b_X12_accountOf_102 _ _ k_X12_accountOf_102 _ _ _ _ _ ?_
            simp only [b_X12_accountOf_102, zr_aload_n0, zr_cP_ne, zr_get2, zr_goto, zr_iald, zr_icmp, zr_iconst, zr_iload_n1, zr_nil, zr_cons, ↓reduceIte, Nat.reduceAdd, Nat.reduceEqDiff, Nat.reduceLeDiff, Nat.reduceMul, Nat.reduceSub, Int32.reduceOfInt, Int64.reduceOfInt, Int64.reduceOfNat, true_and, and_true, false_and, and_false, or_false, false_or, true_or, or_true, Int.reduceEq, reduceCtorEq, or_self, and_self, ne_eq, not_false_eq_true, not_true_eq_false, eq_self, Nat.le_refl, Nat.zero_le, zr_eI, zr_eL, zr_eR, zr_pI, zr_pL, zr_pR, zr_pO, zr_pV, zq_pA0, zq_pA, zr_get, zr_put_n, zr_put, zr_rem_n, zr_rem, zr_cat_i, zr_cat_l, zr_cat_q, zr_w_n, zr_w, zr_args_n, zr_args, zr_tl_s, zr_tl_n, zr_hIsI, zr_hLsL, zr_hRsR, zr_hIsL, zr_hIsR, zr_hLsI, zr_hLsR, zr_hRsI, zr_hRsL, zr_hNsI, zr_hNsL, zr_hNsR, zr_hZsI, zr_hZsL, zr_hZsR, b2_01, Classical.not_not, Int32.toInt_toInt64, Int64.reduceToInt, zc_1000, zc_100, zc_10, zc_9, zc_2, ci_f, hM, ms_20 e, mR_28, aLen_328, aCod_328, ma_28 e, mR_29, aLen_329, aCod_329, ma_29 e, mR_55, aLen_355, aCod_355, ma_55 e]
            refine ⟨by first | exact vpi (by omega) | with_reducible exact vp_in_nI (by omega) (by omega), ?_⟩
            refine ⟨fun qc6 => ?_, fun qc6 => ?_⟩
            · try simp only [b2_0, Classical.not_not] at qc6
              try simp only [Int64.le_iff_toInt_le, Int64.lt_iff_toInt_lt, Int32.lt_iff_toInt_lt, Int32.le_iff_toInt_le, Int32.toInt_toInt64, Int64.reduceToInt, Int32.reduceToInt, Int.reduceNeg, Classical.not_not, i32e, l_add] at qc6
              refine st b_X12_accountOf_116 _ _ k_X12_accountOf_116 _ _ _ _ _ ?_
              simp only [b_X12_accountOf_116, zr_aload_n0, zr_get2, zr_iald, zr_iload_n1, zr_nil, zr_cons, ↓reduceIte, Nat.reduceAdd, Nat.reduceEqDiff, Nat.reduceLeDiff, Nat.reduceMul, Nat.reduceSub, Int32.reduceOfInt, Int64.reduceOfInt, Int64.reduceOfNat, true_and, and_true, false_and, and_false, or_false, false_or, true_or, or_true, Int.reduceEq, reduceCtorEq, or_self, and_self, ne_eq, not_false_eq_true, not_true_eq_false, eq_self, Nat.le_refl, Nat.zero_le, zr_eI, zr_eL, zr_eR, zr_pI, zr_pL, zr_pR, zr_pO, zr_pV, zq_pA0, zq_pA, zr_get, zr_put_n, zr_put, zr_rem_n, zr_rem, zr_cat_i, zr_cat_l, zr_cat_q, zr_w_n, zr_w, zr_args_n, zr_args, zr_tl_s, zr_tl_n, zr_hIsI, zr_hLsL, zr_hRsR, zr_hIsL, zr_hIsR, zr_hLsI, zr_hLsR, zr_hRsI, zr_hRsL, zr_hNsI, zr_hNsL, zr_hNsR, zr_hZsI, zr_hZsL, zr_hZsR, b2_01, Classical.not_not, Int32.toInt_toInt64, Int64.reduceToInt, zc_1000, zc_100, zc_10, zc_9, zc_2, ci_f, hM, ms_20 e, mR_28, aLen_328, aCod_328, ma_28 e, mR_29, aLen_329, aCod_329, ma_29 e, mR_55, aLen_355, aCod_355, ma_55 e]
              refine ⟨by first | exact vpi (by omega) | with_reducible exact vp_in_nI (by omega) (by omega), ?_⟩
              refine st b_X12_accountOf_122 _ _ k_X12_accountOf_122 _ _ _ _ _ ?_
              simp only [b_X12_accountOf_122, zr_T, zr_iret, zr_rt_a, zr_rt_i, zr_rt_l, zr_rt_n, zr_rt_z, zr_nil, zr_cons, ↓reduceIte, Nat.reduceAdd, Nat.reduceEqDiff, Nat.reduceLeDiff, Nat.reduceMul, Nat.reduceSub, Int32.reduceOfInt, Int64.reduceOfInt, Int64.reduceOfNat, true_and, and_true, false_and, and_false, or_false, false_or, true_or, or_true, Int.reduceEq, reduceCtorEq, or_self, and_self, ne_eq, not_false_eq_true, not_true_eq_false, eq_self, Nat.le_refl, Nat.zero_le, zr_eI, zr_eL, zr_eR, zr_pI, zr_pL, zr_pR, zr_pO, zr_pV, zq_pA0, zq_pA, zr_get, zr_put_n, zr_put, zr_rem_n, zr_rem, zr_cat_i, zr_cat_l, zr_cat_q, zr_w_n, zr_w, zr_args_n, zr_args, zr_tl_s, zr_tl_n, zr_hIsI, zr_hLsL, zr_hRsR, zr_hIsL, zr_hIsR, zr_hLsI, zr_hLsR, zr_hRsI, zr_hRsL, zr_hNsI, zr_hNsL, zr_hNsR, zr_hZsI, zr_hZsL, zr_hZsR, b2_01, Classical.not_not, Int32.toInt_toInt64, Int64.reduceToInt, zc_1000, zc_100, zc_10, zc_9, zc_2, ci_f, hM, ms_20 e, mR_28, aLen_328, aCod_328, ma_28 e, mR_29, aLen_329, aCod_329, ma_29 e, mR_55, aLen_355, aCod_355, ma_55 e]
              refine qi' ?_ (by repeat (first | exact z_sC.rf | exact hsc | refine z_sC.I ?_ (by decide) | refine z_sC.L ?_ (by decide))) hM'
              simp only [mv_thr, e]
              unfold o_accountOf
              (repeat' split) <;> (first | rfl | (exfalso; omega))
            · try simp only [b2_0, Classical.not_not] at qc6
              try simp only [Int64.le_iff_toInt_le, Int64.lt_iff_toInt_lt, Int32.lt_iff_toInt_lt, Int32.le_iff_toInt_le, Int32.toInt_toInt64, Int64.reduceToInt, Int32.reduceToInt, Int.reduceNeg, Classical.not_not, i32e, l_add] at qc6
              refine st b_X12_accountOf_122 _ _ k_X12_accountOf_122 _ _ _ _ _ ?_
              simp only [b_X12_accountOf_122, zr_T, zr_iret, zr_rt_a, zr_rt_i, zr_rt_l, zr_rt_n, zr_rt_z, zr_nil, zr_cons, ↓reduceIte, Nat.reduceAdd, Nat.reduceEqDiff, Nat.reduceLeDiff, Nat.reduceMul, Nat.reduceSub, Int32.reduceOfInt, Int64.reduceOfInt, Int64.reduceOfNat, true_and, and_true, false_and, and_false, or_false, false_or, true_or, or_true, Int.reduceEq, reduceCtorEq, or_self, and_self, ne_eq, not_false_eq_true, not_true_eq_false, eq_self, Nat.le_refl, Nat.zero_le, zr_eI, zr_eL, zr_eR, zr_pI, zr_pL, zr_pR, zr_pO, zr_pV, zq_pA0, zq_pA, zr_get, zr_put_n, zr_put, zr_rem_n, zr_rem, zr_cat_i, zr_cat_l, zr_cat_q, zr_w_n, zr_w, zr_args_n, zr_args, zr_tl_s, zr_tl_n, zr_hIsI, zr_hLsL, zr_hRsR, zr_hIsL, zr_hIsR, zr_hLsI, zr_hLsR, zr_hRsI, zr_hRsL, zr_hNsI, zr_hNsL, zr_hNsR, zr_hZsI, zr_hZsL, zr_hZsR, b2_01, Classical.not_not, Int32.toInt_toInt64, Int64.reduceToInt, zc_1000, zc_100, zc_10, zc_9, zc_2, ci_f, hM, ms_20 e, mR_28, aLen_328, aCod_328, ma_28 e, mR_29, aLen_329, aCod_329, ma_29 e, mR_55, aLen_355, aCod_355, ma_55 e]
              refine qi' ?_ (by repeat (first | exact z_sC.rf | exact hsc | refine z_sC.I ?_ (by decide) | refine z_sC.L ?_ (by decide))) hM'
              simp only [mv_thr, e]
              unfold o_accountOf
              (repeat' split) <;> (first | rfl | (exfalso; omega))
          · refine z_swD 123 (by omega) rfl ?_
            refine st b_X12_accountOf_123 _ _ k_X12_accountOf_123 _ _ _ _ _ ?_
            simp only [b_X12_accountOf_123, zr_T, zr_bipush, zr_iret, zr_rt_a, zr_rt_i, zr_rt_l, zr_rt_n, zr_rt_z, zr_nil, zr_cons, ↓reduceIte, Nat.reduceAdd, Nat.reduceEqDiff, Nat.reduceLeDiff, Nat.reduceMul, Nat.reduceSub, Int32.reduceOfInt, Int64.reduceOfInt, Int64.reduceOfNat, true_and, and_true, false_and, and_false, or_false, false_or, true_or, or_true, Int.reduceEq, reduceCtorEq, or_self, and_self, ne_eq, not_false_eq_true, not_true_eq_false, eq_self, Nat.le_refl, Nat.zero_le, zr_eI, zr_eL, zr_eR, zr_pI, zr_pL, zr_pR, zr_pO, zr_pV, zq_pA0, zq_pA, zr_get, zr_put_n, zr_put, zr_rem_n, zr_rem, zr_cat_i, zr_cat_l, zr_cat_q, zr_w_n, zr_w, zr_args_n, zr_args, zr_tl_s, zr_tl_n, zr_hIsI, zr_hLsL, zr_hRsR, zr_hIsL, zr_hIsR, zr_hLsI, zr_hLsR, zr_hRsI, zr_hRsL, zr_hNsI, zr_hNsL, zr_hNsR, zr_hZsI, zr_hZsL, zr_hZsR, b2_01, Classical.not_not, Int32.toInt_toInt64, Int64.reduceToInt, zc_1000, zc_100, zc_10, zc_9, zc_2, ci_f, hM, ms_20 e, mR_28, aLen_328, aCod_328, ma_28 e, mR_29, aLen_329, aCod_329, ma_29 e, mR_55, aLen_355, aCod_355, ma_55 e]
            refine qi' ?_ (by repeat (first | exact z_sC.rf | exact hsc | refine z_sC.I ?_ (by decide) | refine z_sC.L ?_ (by decide))) hM'
            simp only [mv_thr, e]
            unfold o_accountOf
            (repeat' split) <;> (first | rfl | (exfalso; omega))
  · try simp only [b2_0, Classical.not_not] at qc1
    try simp only [Int64.le_iff_toInt_le, Int64.lt_iff_toInt_lt, Int32.lt_iff_toInt_lt, Int32.le_iff_toInt_le, Int32.toInt_toInt64, Int64.reduceToInt, Int32.reduceToInt, Int.reduceNeg, Classical.not_not, i32e, l_add] at qc1
    refine qi' ?_ (by repeat (first | exact z_sC.rf | exact hsc | refine z_sC.I ?_ (by decide) | refine z_sC.L ?_ (by decide))) hM'
    simp only [mv_thr, e]
    unfold o_accountOf
    (repeat' split) <;> (first | rfl | (exfalso; omega))
theorem m_folio (l : Launch) (G : z_G) (d : Nat) (hd : 3 ≤ d) (S : z_M) (h : z_H) (e : mv h = S) (hM : z_MR h) (inv : INV S) (a k : Int32) : z_MT l G d yX12_folio cX12_folio 5 (some .int) [z_r 14 0, z_i a, z_i k] h 0 0 (Qi h (o_folio S a k, S)) := by
  have hM' := hM
  unfold z_MR at hM
  have huA : nA S = ci (mS S 16) := rfl
  have htA := inv.cA.t
  have hbA := inv.cA.2
  have hpA : (mS S 16 - 1).toInt = (ci (mS S 16) : Int) - 1 := by
    rw [sub32 (by rw [htA, show (1 : Int32).toInt = 1 from rfl]; omega) (by rw [htA, show (1 : Int32).toInt = 1 from rfl]; omega), htA]
    rfl
  have huF : nF S = ci (mS S 20) := rfl
  have htF := inv.cF.t
  have hbF := inv.cF.2
  have hpF : (mS S 20 - 1).toInt = (ci (mS S 20) : Int) - 1 := by
    rw [sub32 (by rw [htF, show (1 : Int32).toInt = 1 from rfl]; omega) (by rw [htF, show (1 : Int32).toInt = 1 from rfl]; omega), htF]
    rfl
  refine z_mt2 14 false ⟨by decide, rfl, fun q => absurd q (by decide)⟩ (by show 3 ≤ 5; decide) (fun A st wk => ?_)
  refine st b_X12_folio_0 _ _ k_X12_folio_0 _ _ _ _ _ ?_
  simp only [b_X12_folio_0, zr_aload_n0, zr_cP_eq, zr_cP_ge, zr_call0, zr_iconst, zr_ifc, zr_iload_n1, zr_iload_n2, zr_put0, zr_nil, zr_cons, ↓reduceIte, Nat.reduceAdd, Nat.reduceEqDiff, Nat.reduceLeDiff, Nat.reduceMul, Nat.reduceSub, Int32.reduceOfInt, Int64.reduceOfInt, Int64.reduceOfNat, true_and, and_true, false_and, and_false, or_false, false_or, true_or, or_true, Int.reduceEq, reduceCtorEq, or_self, and_self, ne_eq, not_false_eq_true, not_true_eq_false, eq_self, Nat.le_refl, Nat.zero_le, zr_eI, zr_eL, zr_eR, zr_pI, zr_pL, zr_pR, zr_pO, zr_pV, zq_pA0, zq_pA, zr_get, zr_put_n, zr_put, zr_rem_n, zr_rem, zr_cat_i, zr_cat_l, zr_cat_q, zr_w_n, zr_w, zr_args_n, zr_args, zr_tl_s, zr_tl_n, zr_hIsI, zr_hLsL, zr_hRsR, zr_hIsL, zr_hIsR, zr_hLsI, zr_hLsR, zr_hRsI, zr_hRsL, zr_hNsI, zr_hNsL, zr_hNsR, zr_hZsI, zr_hZsL, zr_hZsR, b2_01, Classical.not_not, Int32.toInt_toInt64, Int64.reduceToInt, zc_1000, zc_100, zc_10, zc_9, zc_2, ci_f, hM, ms_20 e, mR_55, aLen_355, aCod_355, ma_55 e]
  refine cp0 (by omega) lk_X12_205 (rc_14 rfl) (m_isAccount l G _ (by omega) S _ (by simp only [mv_thr, e]) (z_MR.I hM') inv _) (Nat.le_refl _) (Nat.le_refl _) ?_
  simp only [zr_cP_eq, zr_cP_ge, zr_ifc, zr_iload_n2, zr_nil, zr_cons, ↓reduceIte, Nat.reduceAdd, Nat.reduceEqDiff, Nat.reduceLeDiff, Nat.reduceMul, Nat.reduceSub, Int32.reduceOfInt, Int64.reduceOfInt, Int64.reduceOfNat, true_and, and_true, false_and, and_false, or_false, false_or, true_or, or_true, Int.reduceEq, reduceCtorEq, or_self, and_self, ne_eq, not_false_eq_true, not_true_eq_false, eq_self, Nat.le_refl, Nat.zero_le, zr_eI, zr_eL, zr_eR, zr_pI, zr_pL, zr_pR, zr_pO, zr_pV, zq_pA0, zq_pA, zr_get, zr_put_n, zr_put, zr_rem_n, zr_rem, zr_cat_i, zr_cat_l, zr_cat_q, zr_w_n, zr_w, zr_args_n, zr_args, zr_tl_s, zr_tl_n, zr_hIsI, zr_hLsL, zr_hRsR, zr_hIsL, zr_hIsR, zr_hLsI, zr_hLsR, zr_hRsI, zr_hRsL, zr_hNsI, zr_hNsL, zr_hNsR, zr_hZsI, zr_hZsL, zr_hZsR, b2_01, Classical.not_not, Int32.toInt_toInt64, Int64.reduceToInt, zc_1000, zc_100, zc_10, zc_9, zc_2, ci_f, hM, ms_20 e, mR_55, aLen_355, aCod_355, ma_55 e]
  refine ⟨fun qc1 => ?_, fun qc1 => ?_⟩
  · try simp only [b2_0, Classical.not_not] at qc1
    try simp only [Int64.le_iff_toInt_le, Int64.lt_iff_toInt_lt, Int32.lt_iff_toInt_lt, Int32.le_iff_toInt_le, Int32.toInt_toInt64, Int64.reduceToInt, Int32.reduceToInt, Int.reduceNeg, Classical.not_not, i32e, l_add] at qc1
    refine st b_X12_folio_17 _ _ k_X12_folio_17 _ _ _ _ _ ?_
    simp only [b_X12_folio_17, zr_T, zr_iconst, zr_iret, zr_rt_a, zr_rt_i, zr_rt_l, zr_rt_n, zr_rt_z, zr_nil, zr_cons, ↓reduceIte, Nat.reduceAdd, Nat.reduceEqDiff, Nat.reduceLeDiff, Nat.reduceMul, Nat.reduceSub, Int32.reduceOfInt, Int64.reduceOfInt, Int64.reduceOfNat, true_and, and_true, false_and, and_false, or_false, false_or, true_or, or_true, Int.reduceEq, reduceCtorEq, or_self, and_self, ne_eq, not_false_eq_true, not_true_eq_false, eq_self, Nat.le_refl, Nat.zero_le, zr_eI, zr_eL, zr_eR, zr_pI, zr_pL, zr_pR, zr_pO, zr_pV, zq_pA0, zq_pA, zr_get, zr_put_n, zr_put, zr_rem_n, zr_rem, zr_cat_i, zr_cat_l, zr_cat_q, zr_w_n, zr_w, zr_args_n, zr_args, zr_tl_s, zr_tl_n, zr_hIsI, zr_hLsL, zr_hRsR, zr_hIsL, zr_hIsR, zr_hLsI, zr_hLsR, zr_hRsI, zr_hRsL, zr_hNsI, zr_hNsL, zr_hNsR, zr_hZsI, zr_hZsL, zr_hZsR, b2_01, Classical.not_not, Int32.toInt_toInt64, Int64.reduceToInt, zc_1000, zc_100, zc_10, zc_9, zc_2, ci_f, hM, ms_20 e, mR_55, aLen_355, aCod_355, ma_55 e]
    refine qi' ?_ (by repeat (first | exact z_sC.rf | exact hsc | refine z_sC.I ?_ (by decide) | refine z_sC.L ?_ (by decide))) hM'
    simp only [mv_thr, e]
    unfold o_folio
    (repeat' split) <;> (first | rfl | (exfalso; omega))
  · try simp only [b2_0, Classical.not_not] at qc1
    try simp only [Int64.le_iff_toInt_le, Int64.lt_iff_toInt_lt, Int32.lt_iff_toInt_lt, Int32.le_iff_toInt_le, Int32.toInt_toInt64, Int64.reduceToInt, Int32.reduceToInt, Int.reduceNeg, Classical.not_not, i32e, l_add] at qc1
    refine ⟨fun qc2 => ?_, fun qc2 => ?_⟩
    · try simp only [b2_0, Classical.not_not] at qc2
      try simp only [Int64.le_iff_toInt_le, Int64.lt_iff_toInt_lt, Int32.lt_iff_toInt_lt, Int32.le_iff_toInt_le, Int32.toInt_toInt64, Int64.reduceToInt, Int32.reduceToInt, Int.reduceNeg, Classical.not_not, i32e, l_add] at qc2
      refine st b_X12_folio_19 _ _ k_X12_folio_19 _ _ _ _ _ ?_
      simp only [b_X12_folio_19, zr_iconst, zr_iload_n2, zr_istore, zr_istore_n3, zr_nil, zr_cons, ↓reduceIte, Nat.reduceAdd, Nat.reduceEqDiff, Nat.reduceLeDiff, Nat.reduceMul, Nat.reduceSub, Int32.reduceOfInt, Int64.reduceOfInt, Int64.reduceOfNat, true_and, and_true, false_and, and_false, or_false, false_or, true_or, or_true, Int.reduceEq, reduceCtorEq, or_self, and_self, ne_eq, not_false_eq_true, not_true_eq_false, eq_self, Nat.le_refl, Nat.zero_le, zr_eI, zr_eL, zr_eR, zr_pI, zr_pL, zr_pR, zr_pO, zr_pV, zq_pA0, zq_pA, zr_get, zr_put_n, zr_put, zr_rem_n, zr_rem, zr_cat_i, zr_cat_l, zr_cat_q, zr_w_n, zr_w, zr_args_n, zr_args, zr_tl_s, zr_tl_n, zr_hIsI, zr_hLsL, zr_hRsR, zr_hIsL, zr_hIsR, zr_hLsI, zr_hLsR, zr_hRsI, zr_hRsL, zr_hNsI, zr_hNsL, zr_hNsR, zr_hZsI, zr_hZsL, zr_hZsR, b2_01, Classical.not_not, Int32.toInt_toInt64, Int64.reduceToInt, zc_1000, zc_100, zc_10, zc_9, zc_2, ci_f, hM, ms_20 e, mR_55, aLen_355, aCod_355, ma_55 e]
      have kk := ci_int (x := k) (by omega)
      have kb := i32b k
      have ek : k = nI (ci k - o_nf (mA S 55) a 0) := ci_e (by omega)
      rw [show A 24 [(0, z_r 14 0), (1, z_i a), (2, z_i k), (3, z_i k), (4, z_i 0)] = A 24 [(0, z_r 14 0), (1, z_i a), (2, z_i k), (3, z_i (nI (ci k - o_nf (mA S 55) a 0))), (4, z_i (nI 0))] from by rw [← ek]; rfl]
      refine (show ∀ i, i ≤ nF S → o_nf (mA S 55) a i ≤ ci k → A 24 [(0, z_r 14 0), (1, z_i a), (2, z_i k), (3, z_i (nI (ci k - o_nf (mA S 55) a i))), (4, z_i (nI i))] [] (sI h 14 0 0 0) 0 0 from z_loop (fun i hi ih hN => ?_)) 0 (Nat.zero_le _) (Nat.zero_le _)
      have ti := toIntS (show i < 2000000000 by omega)
      have ki := nI_clampS (show i < 2000000000 by omega)
      have nb := o_nf_b (w := mA S 55) (a := a) i
      have tk := nI_toInt (show ci k - o_nf (mA S 55) a i < 2 ^ 31 by omega)
      refine st b_X12_folio_24 _ _ k_X12_folio_24 _ _ _ _ _ ?_
      simp only [b_X12_folio_24, zr_aload_n0, zr_cP_eq, zr_cP_ge, zr_get0, zr_get2, zr_goto, zr_iald, zr_icmp, zr_iload, zr_iload_n1, zr_nil, zr_cons, ↓reduceIte, Nat.reduceAdd, Nat.reduceEqDiff, Nat.reduceLeDiff, Nat.reduceMul, Nat.reduceSub, Int32.reduceOfInt, Int64.reduceOfInt, Int64.reduceOfNat, true_and, and_true, false_and, and_false, or_false, false_or, true_or, or_true, Int.reduceEq, reduceCtorEq, or_self, and_self, ne_eq, not_false_eq_true, not_true_eq_false, eq_self, Nat.le_refl, Nat.zero_le, zr_eI, zr_eL, zr_eR, zr_pI, zr_pL, zr_pR, zr_pO, zr_pV, zq_pA0, zq_pA, zr_get, zr_put_n, zr_put, zr_rem_n, zr_rem, zr_cat_i, zr_cat_l, zr_cat_q, zr_w_n, zr_w, zr_args_n, zr_args, zr_tl_s, zr_tl_n, zr_hIsI, zr_hLsL, zr_hRsR, zr_hIsL, zr_hIsR, zr_hLsI, zr_hLsR, zr_hRsI, zr_hRsL, zr_hNsI, zr_hNsL, zr_hNsR, zr_hZsI, zr_hZsL, zr_hZsR, b2_01, Classical.not_not, Int32.toInt_toInt64, Int64.reduceToInt, zc_1000, zc_100, zc_10, zc_9, zc_2, ci_f, hM, ms_20 e, mR_55, aLen_355, aCod_355, ma_55 e, ki]
      refine ⟨fun qc21 => ?_, fun qc21 => ?_⟩
      · try simp only [b2_0, Classical.not_not] at qc21
        try simp only [Int64.le_iff_toInt_le, Int64.lt_iff_toInt_lt, Int32.lt_iff_toInt_lt, Int32.le_iff_toInt_le, Int32.toInt_toInt64, Int64.reduceToInt, Int32.reduceToInt, Int.reduceNeg, Classical.not_not, i32e, l_add] at qc21
        refine st b_X12_folio_63 _ _ k_X12_folio_63 _ _ _ _ _ ?_
        simp only [b_X12_folio_63, zr_T, zr_iconst, zr_iret, zr_rt_a, zr_rt_i, zr_rt_l, zr_rt_n, zr_rt_z, zr_nil, zr_cons, ↓reduceIte, Nat.reduceAdd, Nat.reduceEqDiff, Nat.reduceLeDiff, Nat.reduceMul, Nat.reduceSub, Int32.reduceOfInt, Int64.reduceOfInt, Int64.reduceOfNat, true_and, and_true, false_and, and_false, or_false, false_or, true_or, or_true, Int.reduceEq, reduceCtorEq, or_self, and_self, ne_eq, not_false_eq_true, not_true_eq_false, eq_self, Nat.le_refl, Nat.zero_le, zr_eI, zr_eL, zr_eR, zr_pI, zr_pL, zr_pR, zr_pO, zr_pV, zq_pA0, zq_pA, zr_get, zr_put_n, zr_put, zr_rem_n, zr_rem, zr_cat_i, zr_cat_l, zr_cat_q, zr_w_n, zr_w, zr_args_n, zr_args, zr_tl_s, zr_tl_n, zr_hIsI, zr_hLsL, zr_hRsR, zr_hIsL, zr_hIsR, zr_hLsI, zr_hLsR, zr_hRsI, zr_hRsL, zr_hNsI, zr_hNsL, zr_hNsR, zr_hZsI, zr_hZsL, zr_hZsR, b2_01, Classical.not_not, Int32.toInt_toInt64, Int64.reduceToInt, zc_1000, zc_100, zc_10, zc_9, zc_2, ci_f, hM, ms_20 e, mR_55, aLen_355, aCod_355, ma_55 e, ki]
        have ei : i = nF S := by omega
        subst ei
        refine qi' ?_ (by repeat (first | exact z_sC.rf | exact hsc | refine z_sC.I ?_ (by decide) | refine z_sC.L ?_ (by decide))) hM'
        simp only [mv_thr, e]
        unfold o_folio
        rw [if_neg (by omega), o_kf_miss (by omega)]
      · try simp only [b2_0, Classical.not_not] at qc21
        try simp only [Int64.le_iff_toInt_le, Int64.lt_iff_toInt_lt, Int32.lt_iff_toInt_lt, Int32.le_iff_toInt_le, Int32.toInt_toInt64, Int64.reduceToInt, Int32.reduceToInt, Int.reduceNeg, Classical.not_not, i32e, l_add] at qc21
        refine ⟨by first | exact vpi (by omega) | with_reducible exact vp_in_nI (by omega) (by omega), ?_⟩
        refine ⟨fun qc22 => ?_, fun qc22 => ?_⟩
        · try simp only [b2_0, Classical.not_not] at qc22
          try simp only [Int64.le_iff_toInt_le, Int64.lt_iff_toInt_lt, Int32.lt_iff_toInt_lt, Int32.le_iff_toInt_le, Int32.toInt_toInt64, Int64.reduceToInt, Int32.reduceToInt, Int.reduceNeg, Classical.not_not, i32e, l_add] at qc22
          refine st b_X12_folio_47 _ _ k_X12_folio_47 _ _ _ _ _ ?_
          simp only [b_X12_folio_47, zr_T, zr_cP_ne, zr_ifc, zr_iload, zr_iload_n3, zr_iret, zr_rt_a, zr_rt_i, zr_rt_l, zr_rt_n, zr_rt_z, zr_nil, zr_cons, ↓reduceIte, Nat.reduceAdd, Nat.reduceEqDiff, Nat.reduceLeDiff, Nat.reduceMul, Nat.reduceSub, Int32.reduceOfInt, Int64.reduceOfInt, Int64.reduceOfNat, true_and, and_true, false_and, and_false, or_false, false_or, true_or, or_true, Int.reduceEq, reduceCtorEq, or_self, and_self, ne_eq, not_false_eq_true, not_true_eq_false, eq_self, Nat.le_refl, Nat.zero_le, zr_eI, zr_eL, zr_eR, zr_pI, zr_pL, zr_pR, zr_pO, zr_pV, zq_pA0, zq_pA, zr_get, zr_put_n, zr_put, zr_rem_n, zr_rem, zr_cat_i, zr_cat_l, zr_cat_q, zr_w_n, zr_w, zr_args_n, zr_args, zr_tl_s, zr_tl_n, zr_hIsI, zr_hLsL, zr_hRsR, zr_hIsL, zr_hIsR, zr_hLsI, zr_hLsR, zr_hRsI, zr_hRsL, zr_hNsI, zr_hNsL, zr_hNsR, zr_hZsI, zr_hZsL, zr_hZsR, b2_01, Classical.not_not, Int32.toInt_toInt64, Int64.reduceToInt, zc_1000, zc_100, zc_10, zc_9, zc_2, ci_f, hM, ms_20 e, mR_55, aLen_355, aCod_355, ma_55 e, ki]
          refine ⟨fun qc23 => ?_, fun qc23 => ?_⟩
          · try simp only [b2_0, Classical.not_not] at qc23
            try simp only [Int64.le_iff_toInt_le, Int64.lt_iff_toInt_lt, Int32.lt_iff_toInt_lt, Int32.le_iff_toInt_le, Int32.toInt_toInt64, Int64.reduceToInt, Int32.reduceToInt, Int.reduceNeg, Classical.not_not, i32e, l_add] at qc23
            refine st b_X12_folio_54 _ _ k_X12_folio_54 _ _ _ _ _ ?_
            simp only [b_X12_folio_54, zr_iinc, zr_nil, zr_cons, ↓reduceIte, Nat.reduceAdd, Nat.reduceEqDiff, Nat.reduceLeDiff, Nat.reduceMul, Nat.reduceSub, Int32.reduceOfInt, Int64.reduceOfInt, Int64.reduceOfNat, true_and, and_true, false_and, and_false, or_false, false_or, true_or, or_true, Int.reduceEq, reduceCtorEq, or_self, and_self, ne_eq, not_false_eq_true, not_true_eq_false, eq_self, Nat.le_refl, Nat.zero_le, zr_eI, zr_eL, zr_eR, zr_pI, zr_pL, zr_pR, zr_pO, zr_pV, zq_pA0, zq_pA, zr_get, zr_put_n, zr_put, zr_rem_n, zr_rem, zr_cat_i, zr_cat_l, zr_cat_q, zr_w_n, zr_w, zr_args_n, zr_args, zr_tl_s, zr_tl_n, zr_hIsI, zr_hLsL, zr_hRsR, zr_hIsL, zr_hIsR, zr_hLsI, zr_hLsR, zr_hRsI, zr_hRsL, zr_hNsI, zr_hNsL, zr_hNsR, zr_hZsI, zr_hZsL, zr_hZsR, b2_01, Classical.not_not, Int32.toInt_toInt64, Int64.reduceToInt, zc_1000, zc_100, zc_10, zc_9, zc_2, ci_f, hM, ms_20 e, mR_55, aLen_355, aCod_355, ma_55 e, ki]
            refine st b_X12_folio_57 _ _ k_X12_folio_57 _ _ _ _ _ ?_
            simp only [b_X12_folio_57, zr_goto, zr_iinc, zr_nil, zr_cons, ↓reduceIte, Nat.reduceAdd, Nat.reduceEqDiff, Nat.reduceLeDiff, Nat.reduceMul, Nat.reduceSub, Int32.reduceOfInt, Int64.reduceOfInt, Int64.reduceOfNat, true_and, and_true, false_and, and_false, or_false, false_or, true_or, or_true, Int.reduceEq, reduceCtorEq, or_self, and_self, ne_eq, not_false_eq_true, not_true_eq_false, eq_self, Nat.le_refl, Nat.zero_le, zr_eI, zr_eL, zr_eR, zr_pI, zr_pL, zr_pR, zr_pO, zr_pV, zq_pA0, zq_pA, zr_get, zr_put_n, zr_put, zr_rem_n, zr_rem, zr_cat_i, zr_cat_l, zr_cat_q, zr_w_n, zr_w, zr_args_n, zr_args, zr_tl_s, zr_tl_n, zr_hIsI, zr_hLsL, zr_hRsR, zr_hIsL, zr_hIsR, zr_hLsI, zr_hLsR, zr_hRsI, zr_hRsL, zr_hNsI, zr_hNsL, zr_hNsR, zr_hZsI, zr_hZsL, zr_hZsR, b2_01, Classical.not_not, Int32.toInt_toInt64, Int64.reduceToInt, zc_1000, zc_100, zc_10, zc_9, zc_2, ci_f, hM, ms_20 e, mR_55, aLen_355, aCod_355, ma_55 e, ki]
            rw [nI_1]
            first
              | (have e1 : o_nf (mA S 55) a (i + 1) = o_nf (mA S 55) a i + 0 := by
                   show o_nf _ a i + (if _ then 1 else 0) = _
                   rw [if_neg (by omega)]
                 rw [Nat.add_zero] at e1
                 have ih' := ih (by omega) (by omega)
                 rw [e1] at ih'
                 exact ih')
              | (have e1 : o_nf (mA S 55) a (i + 1) = o_nf (mA S 55) a i + 1 := by
                   show o_nf _ a i + (if _ then 1 else 0) = _
                   rw [if_pos (by omega)]
                 have ih' := ih (by omega) (by omega)
                 rw [e1] at ih'
                 rw [nI_dec, show ci k - o_nf (mA S 55) a i = (ci k - (o_nf (mA S 55) a i + 1)) + 1 from by omega, nI_pred]
                 exact ih')
          · try simp only [b2_0, Classical.not_not] at qc23
            try simp only [Int64.le_iff_toInt_le, Int64.lt_iff_toInt_lt, Int32.lt_iff_toInt_lt, Int32.le_iff_toInt_le, Int32.toInt_toInt64, Int64.reduceToInt, Int32.reduceToInt, Int.reduceNeg, Classical.not_not, i32e, l_add] at qc23
            refine qi' ?_ (by repeat (first | exact z_sC.rf | exact hsc | refine z_sC.I ?_ (by decide) | refine z_sC.L ?_ (by decide))) hM'
            simp only [mv_thr, e]
            unfold o_folio
            rw [if_neg (by omega), o_kf_hit (show i < nF S by omega) (by omega) (by omega)]
        · try simp only [b2_0, Classical.not_not] at qc22
          try simp only [Int64.le_iff_toInt_le, Int64.lt_iff_toInt_lt, Int32.lt_iff_toInt_lt, Int32.le_iff_toInt_le, Int32.toInt_toInt64, Int64.reduceToInt, Int32.reduceToInt, Int.reduceNeg, Classical.not_not, i32e, l_add] at qc22
          refine st b_X12_folio_57 _ _ k_X12_folio_57 _ _ _ _ _ ?_
          simp only [b_X12_folio_57, zr_goto, zr_iinc, zr_nil, zr_cons, ↓reduceIte, Nat.reduceAdd, Nat.reduceEqDiff, Nat.reduceLeDiff, Nat.reduceMul, Nat.reduceSub, Int32.reduceOfInt, Int64.reduceOfInt, Int64.reduceOfNat, true_and, and_true, false_and, and_false, or_false, false_or, true_or, or_true, Int.reduceEq, reduceCtorEq, or_self, and_self, ne_eq, not_false_eq_true, not_true_eq_false, eq_self, Nat.le_refl, Nat.zero_le, zr_eI, zr_eL, zr_eR, zr_pI, zr_pL, zr_pR, zr_pO, zr_pV, zq_pA0, zq_pA, zr_get, zr_put_n, zr_put, zr_rem_n, zr_rem, zr_cat_i, zr_cat_l, zr_cat_q, zr_w_n, zr_w, zr_args_n, zr_args, zr_tl_s, zr_tl_n, zr_hIsI, zr_hLsL, zr_hRsR, zr_hIsL, zr_hIsR, zr_hLsI, zr_hLsR, zr_hRsI, zr_hRsL, zr_hNsI, zr_hNsL, zr_hNsR, zr_hZsI, zr_hZsL, zr_hZsR, b2_01, Classical.not_not, Int32.toInt_toInt64, Int64.reduceToInt, zc_1000, zc_100, zc_10, zc_9, zc_2, ci_f, hM, ms_20 e, mR_55, aLen_355, aCod_355, ma_55 e, ki]
          rw [nI_1]
          first
            | (have e1 : o_nf (mA S 55) a (i + 1) = o_nf (mA S 55) a i + 0 := by
                 show o_nf _ a i + (if _ then 1 else 0) = _
                 rw [if_neg (by omega)]
               rw [Nat.add_zero] at e1
               have ih' := ih (by omega) (by omega)
               rw [e1] at ih'
               exact ih')
            | (have e1 : o_nf (mA S 55) a (i + 1) = o_nf (mA S 55) a i + 1 := by
                 show o_nf _ a i + (if _ then 1 else 0) = _
                 rw [if_pos (by omega)]
               have ih' := ih (by omega) (by omega)
               rw [e1] at ih'
               rw [nI_dec, show ci k - o_nf (mA S 55) a i = (ci k - (o_nf (mA S 55) a i + 1)) + 1 from by omega, nI_pred]
               exact ih')
    · try simp only [b2_0, Classical.not_not] at qc2
      try simp only [Int64.le_iff_toInt_le, Int64.lt_iff_toInt_lt, Int32.lt_iff_toInt_lt, Int32.le_iff_toInt_le, Int32.toInt_toInt64, Int64.reduceToInt, Int32.reduceToInt, Int.reduceNeg, Classical.not_not, i32e, l_add] at qc2
      refine st b_X12_folio_17 _ _ k_X12_folio_17 _ _ _ _ _ ?_
      simp only [b_X12_folio_17, zr_T, zr_iconst, zr_iret, zr_rt_a, zr_rt_i, zr_rt_l, zr_rt_n, zr_rt_z, zr_nil, zr_cons, ↓reduceIte, Nat.reduceAdd, Nat.reduceEqDiff, Nat.reduceLeDiff, Nat.reduceMul, Nat.reduceSub, Int32.reduceOfInt, Int64.reduceOfInt, Int64.reduceOfNat, true_and, and_true, false_and, and_false, or_false, false_or, true_or, or_true, Int.reduceEq, reduceCtorEq, or_self, and_self, ne_eq, not_false_eq_true, not_true_eq_false, eq_self, Nat.le_refl, Nat.zero_le, zr_eI, zr_eL, zr_eR, zr_pI, zr_pL, zr_pR, zr_pO, zr_pV, zq_pA0, zq_pA, zr_get, zr_put_n, zr_put, zr_rem_n, zr_rem, zr_cat_i, zr_cat_l, zr_cat_q, zr_w_n, zr_w, zr_args_n, zr_args, zr_tl_s, zr_tl_n, zr_hIsI, zr_hLsL, zr_hRsR, zr_hIsL, zr_hIsR, zr_hLsI, zr_hLsR, zr_hRsI, zr_hRsL, zr_hNsI, zr_hNsL, zr_hNsR, zr_hZsI, zr_hZsL, zr_hZsR, b2_01, Classical.not_not, Int32.toInt_toInt64, Int64.reduceToInt, zc_1000, zc_100, zc_10, zc_9, zc_2, ci_f, hM, ms_20 e, mR_55, aLen_355, aCod_355, ma_55 e]
      refine qi' ?_ (by repeat (first | exact z_sC.rf | exact hsc | refine z_sC.I ?_ (by decide) | refine z_sC.L ?_ (by decide))) hM'
      simp only [mv_thr, e]
      unfold o_folio
      (repeat' split) <;> (first | rfl | (exfalso; omega))
theorem m_count (l : Launch) (G : z_G) (d : Nat) (hd : 3 ≤ d) (S : z_M) (h : z_H) (e : mv h = S) (hM : z_MR h) (inv : INV S) (what : Int32) : z_MT l G d yX12_count cX12_count 4 (some .int) [z_r 14 0, z_i what] h 0 0 (Qi h (o_count S what, S)) := by
  have hM' := hM
  unfold z_MR at hM
  have huO : nO S = ci (mS S 18) := rfl
  have htO := inv.cO.t
  have hbO := inv.cO.2
  have hpO : (mS S 18 - 1).toInt = (ci (mS S 18) : Int) - 1 := by
    rw [sub32 (by rw [htO, show (1 : Int32).toInt = 1 from rfl]; omega) (by rw [htO, show (1 : Int32).toInt = 1 from rfl]; omega), htO]
    rfl
  refine z_mt2 14 false ⟨by decide, rfl, fun q => absurd q (by decide)⟩ (by show 2 ≤ 4; decide) (fun A st wk => ?_)
  refine st b_X12_count_0 _ _ k_X12_count_0 _ _ _ _ _ ?_
  simp only [b_X12_count_0, zr_aload_n0, zr_iconst, zr_iload_n1, zr_istore_n2, zr_put0, zr_tsw, zr_nil, zr_cons, ↓reduceIte, Nat.reduceAdd, Nat.reduceEqDiff, Nat.reduceLeDiff, Nat.reduceMul, Nat.reduceSub, Int32.reduceOfInt, Int64.reduceOfInt, Int64.reduceOfNat, true_and, and_true, false_and, and_false, or_false, false_or, true_or, or_true, Int.reduceEq, reduceCtorEq, or_self, and_self, ne_eq, not_false_eq_true, not_true_eq_false, eq_self, Nat.le_refl, Nat.zero_le, zr_eI, zr_eL, zr_eR, zr_pI, zr_pL, zr_pR, zr_pO, zr_pV, zq_pA0, zq_pA, zr_get, zr_put_n, zr_put, zr_rem_n, zr_rem, zr_cat_i, zr_cat_l, zr_cat_q, zr_w_n, zr_w, zr_args_n, zr_args, zr_tl_s, zr_tl_n, zr_hIsI, zr_hLsL, zr_hRsR, zr_hIsL, zr_hIsR, zr_hLsI, zr_hLsR, zr_hRsI, zr_hRsL, zr_hNsI, zr_hNsL, zr_hNsR, zr_hZsI, zr_hZsL, zr_hZsR, b2_01, Classical.not_not, Int32.toInt_toInt64, Int64.reduceToInt, zc_1000, zc_100, zc_10, zc_9, zc_2, ci_f, hM, mR_1, aLen_301, aCod_301, ma_1 e, ms_13 e, ms_14 e, ms_15 e, ms_16 e, ms_17 e, ms_18 e, ms_19 e, ms_20 e, ms_21 e, mR_42, aLen_342, aCod_342, ma_42 e]
  by_cases qt1 : (what).toInt = 0
  · refine z_swA 68 0 qt1 rfl ?_
    refine st b_X12_count_68 _ _ k_X12_count_68 _ _ _ _ _ ?_
    simp only [b_X12_count_68, zr_T, zr_aload_n0, zr_get0, zr_iret, zr_rt_a, zr_rt_i, zr_rt_l, zr_rt_n, zr_rt_z, zr_nil, zr_cons, ↓reduceIte, Nat.reduceAdd, Nat.reduceEqDiff, Nat.reduceLeDiff, Nat.reduceMul, Nat.reduceSub, Int32.reduceOfInt, Int64.reduceOfInt, Int64.reduceOfNat, true_and, and_true, false_and, and_false, or_false, false_or, true_or, or_true, Int.reduceEq, reduceCtorEq, or_self, and_self, ne_eq, not_false_eq_true, not_true_eq_false, eq_self, Nat.le_refl, Nat.zero_le, zr_eI, zr_eL, zr_eR, zr_pI, zr_pL, zr_pR, zr_pO, zr_pV, zq_pA0, zq_pA, zr_get, zr_put_n, zr_put, zr_rem_n, zr_rem, zr_cat_i, zr_cat_l, zr_cat_q, zr_w_n, zr_w, zr_args_n, zr_args, zr_tl_s, zr_tl_n, zr_hIsI, zr_hLsL, zr_hRsR, zr_hIsL, zr_hIsR, zr_hLsI, zr_hLsR, zr_hRsI, zr_hRsL, zr_hNsI, zr_hNsL, zr_hNsR, zr_hZsI, zr_hZsL, zr_hZsR, b2_01, Classical.not_not, Int32.toInt_toInt64, Int64.reduceToInt, zc_1000, zc_100, zc_10, zc_9, zc_2, ci_f, hM, mR_1, aLen_301, aCod_301, ma_1 e, ms_13 e, ms_14 e, ms_15 e, ms_16 e, ms_17 e, ms_18 e, ms_19 e, ms_20 e, ms_21 e, mR_42, aLen_342, aCod_342, ma_42 e]
    refine qi' ?_ (by repeat (first | exact z_sC.rf | exact hsc | refine z_sC.I ?_ (by decide) | refine z_sC.L ?_ (by decide))) hM'
    simp only [mv_thr, e]
    unfold o_count
    (repeat' split) <;> (first | rfl | (exfalso; omega))
  · by_cases qt2 : (what).toInt = 1
    · refine z_swA 73 1 qt2 rfl ?_
      refine st b_X12_count_73 _ _ k_X12_count_73 _ _ _ _ _ ?_
      simp only [b_X12_count_73, zr_T, zr_aload_n0, zr_get0, zr_iret, zr_rt_a, zr_rt_i, zr_rt_l, zr_rt_n, zr_rt_z, zr_nil, zr_cons, ↓reduceIte, Nat.reduceAdd, Nat.reduceEqDiff, Nat.reduceLeDiff, Nat.reduceMul, Nat.reduceSub, Int32.reduceOfInt, Int64.reduceOfInt, Int64.reduceOfNat, true_and, and_true, false_and, and_false, or_false, false_or, true_or, or_true, Int.reduceEq, reduceCtorEq, or_self, and_self, ne_eq, not_false_eq_true, not_true_eq_false, eq_self, Nat.le_refl, Nat.zero_le, zr_eI, zr_eL, zr_eR, zr_pI, zr_pL, zr_pR, zr_pO, zr_pV, zq_pA0, zq_pA, zr_get, zr_put_n, zr_put, zr_rem_n, zr_rem, zr_cat_i, zr_cat_l, zr_cat_q, zr_w_n, zr_w, zr_args_n, zr_args, zr_tl_s, zr_tl_n, zr_hIsI, zr_hLsL, zr_hRsR, zr_hIsL, zr_hIsR, zr_hLsI, zr_hLsR, zr_hRsI, zr_hRsL, zr_hNsI, zr_hNsL, zr_hNsR, zr_hZsI, zr_hZsL, zr_hZsR, b2_01, Classical.not_not, Int32.toInt_toInt64, Int64.reduceToInt, zc_1000, zc_100, zc_10, zc_9, zc_2, ci_f, hM, mR_1, aLen_301, aCod_301, ma_1 e, ms_13 e, ms_14 e, ms_15 e, ms_16 e, ms_17 e, ms_18 e, ms_19 e, ms_20 e, ms_21 e, mR_42, aLen_342, aCod_342, ma_42 e]
      refine qi' ?_ (by repeat (first | exact z_sC.rf | exact hsc | refine z_sC.I ?_ (by decide) | refine z_sC.L ?_ (by decide))) hM'
      simp only [mv_thr, e]
      unfold o_count
      (repeat' split) <;> (first | rfl | (exfalso; omega))
    · by_cases qt3 : (what).toInt = 2
      · refine z_swA 78 2 qt3 rfl ?_
        refine st b_X12_count_78 _ _ k_X12_count_78 _ _ _ _ _ ?_
        simp only [b_X12_count_78, zr_T, zr_aload_n0, zr_get0, zr_iret, zr_rt_a, zr_rt_i, zr_rt_l, zr_rt_n, zr_rt_z, zr_nil, zr_cons, ↓reduceIte, Nat.reduceAdd, Nat.reduceEqDiff, Nat.reduceLeDiff, Nat.reduceMul, Nat.reduceSub, Int32.reduceOfInt, Int64.reduceOfInt, Int64.reduceOfNat, true_and, and_true, false_and, and_false, or_false, false_or, true_or, or_true, Int.reduceEq, reduceCtorEq, or_self, and_self, ne_eq, not_false_eq_true, not_true_eq_false, eq_self, Nat.le_refl, Nat.zero_le, zr_eI, zr_eL, zr_eR, zr_pI, zr_pL, zr_pR, zr_pO, zr_pV, zq_pA0, zq_pA, zr_get, zr_put_n, zr_put, zr_rem_n, zr_rem, zr_cat_i, zr_cat_l, zr_cat_q, zr_w_n, zr_w, zr_args_n, zr_args, zr_tl_s, zr_tl_n, zr_hIsI, zr_hLsL, zr_hRsR, zr_hIsL, zr_hIsR, zr_hLsI, zr_hLsR, zr_hRsI, zr_hRsL, zr_hNsI, zr_hNsL, zr_hNsR, zr_hZsI, zr_hZsL, zr_hZsR, b2_01, Classical.not_not, Int32.toInt_toInt64, Int64.reduceToInt, zc_1000, zc_100, zc_10, zc_9, zc_2, ci_f, hM, mR_1, aLen_301, aCod_301, ma_1 e, ms_13 e, ms_14 e, ms_15 e, ms_16 e, ms_17 e, ms_18 e, ms_19 e, ms_20 e, ms_21 e, mR_42, aLen_342, aCod_342, ma_42 e]
        refine qi' ?_ (by repeat (first | exact z_sC.rf | exact hsc | refine z_sC.I ?_ (by decide) | refine z_sC.L ?_ (by decide))) hM'
        simp only [mv_thr, e]
        unfold o_count
        (repeat' split) <;> (first | rfl | (exfalso; omega))
      · by_cases qt4 : (what).toInt = 3
        · refine z_swA 83 3 qt4 rfl ?_
          refine st b_X12_count_83 _ _ k_X12_count_83 _ _ _ _ _ ?_
          simp only [b_X12_count_83, zr_T, zr_aload_n0, zr_get0, zr_iret, zr_rt_a, zr_rt_i, zr_rt_l, zr_rt_n, zr_rt_z, zr_nil, zr_cons, ↓reduceIte, Nat.reduceAdd, Nat.reduceEqDiff, Nat.reduceLeDiff, Nat.reduceMul, Nat.reduceSub, Int32.reduceOfInt, Int64.reduceOfInt, Int64.reduceOfNat, true_and, and_true, false_and, and_false, or_false, false_or, true_or, or_true, Int.reduceEq, reduceCtorEq, or_self, and_self, ne_eq, not_false_eq_true, not_true_eq_false, eq_self, Nat.le_refl, Nat.zero_le, zr_eI, zr_eL, zr_eR, zr_pI, zr_pL, zr_pR, zr_pO, zr_pV, zq_pA0, zq_pA, zr_get, zr_put_n, zr_put, zr_rem_n, zr_rem, zr_cat_i, zr_cat_l, zr_cat_q, zr_w_n, zr_w, zr_args_n, zr_args, zr_tl_s, zr_tl_n, zr_hIsI, zr_hLsL, zr_hRsR, zr_hIsL, zr_hIsR, zr_hLsI, zr_hLsR, zr_hRsI, zr_hRsL, zr_hNsI, zr_hNsL, zr_hNsR, zr_hZsI, zr_hZsL, zr_hZsR, b2_01, Classical.not_not, Int32.toInt_toInt64, Int64.reduceToInt, zc_1000, zc_100, zc_10, zc_9, zc_2, ci_f, hM, mR_1, aLen_301, aCod_301, ma_1 e, ms_13 e, ms_14 e, ms_15 e, ms_16 e, ms_17 e, ms_18 e, ms_19 e, ms_20 e, ms_21 e, mR_42, aLen_342, aCod_342, ma_42 e]
          refine qi' ?_ (by repeat (first | exact z_sC.rf | exact hsc | refine z_sC.I ?_ (by decide) | refine z_sC.L ?_ (by decide))) hM'
          simp only [mv_thr, e]
          unfold o_count
          (repeat' split) <;> (first | rfl | (exfalso; omega))
        · by_cases qt5 : (what).toInt = 4
          · refine z_swA 88 4 qt5 rfl ?_
            refine st b_X12_count_88 _ _ k_X12_count_88 _ _ _ _ _ ?_
            simp only [b_X12_count_88, zr_iconst, zr_istore_n3, zr_nil, zr_cons, ↓reduceIte, Nat.reduceAdd, Nat.reduceEqDiff, Nat.reduceLeDiff, Nat.reduceMul, Nat.reduceSub, Int32.reduceOfInt, Int64.reduceOfInt, Int64.reduceOfNat, true_and, and_true, false_and, and_false, or_false, false_or, true_or, or_true, Int.reduceEq, reduceCtorEq, or_self, and_self, ne_eq, not_false_eq_true, not_true_eq_false, eq_self, Nat.le_refl, Nat.zero_le, zr_eI, zr_eL, zr_eR, zr_pI, zr_pL, zr_pR, zr_pO, zr_pV, zq_pA0, zq_pA, zr_get, zr_put_n, zr_put, zr_rem_n, zr_rem, zr_cat_i, zr_cat_l, zr_cat_q, zr_w_n, zr_w, zr_args_n, zr_args, zr_tl_s, zr_tl_n, zr_hIsI, zr_hLsL, zr_hRsR, zr_hIsL, zr_hIsR, zr_hLsI, zr_hLsR, zr_hRsI, zr_hRsL, zr_hNsI, zr_hNsL, zr_hNsR, zr_hZsI, zr_hZsL, zr_hZsR, b2_01, Classical.not_not, Int32.toInt_toInt64, Int64.reduceToInt, zc_1000, zc_100, zc_10, zc_9, zc_2, ci_f, hM, mR_1, aLen_301, aCod_301, ma_1 e, ms_13 e, ms_14 e, ms_15 e, ms_16 e, ms_17 e, ms_18 e, ms_19 e, ms_20 e, ms_21 e, mR_42, aLen_342, aCod_342, ma_42 e]
            refine (show ∀ i, i ≤ nO S → A 90 [(0, z_r 14 0), (1, z_i what), (2, z_i (nI (o_wt (mA S 42) i))), (3, z_i (nI i))] [] (sI h 14 0 0 0) 0 0 from z_loop (fun i hi ih => ?_)) 0 (Nat.zero_le _)
            have ti := toIntS (show i < 2000000000 by omega)
            have ki := nI_clampS (show i < 2000000000 by omega)
            refine st b_X12_count_90 _ _ k_X12_count_90 _ _ _ _ _ ?_
            simp only [b_X12_count_90, zr_aload_n0, zr_cP_ge, zr_cP_ne, zr_get0, zr_get2, zr_goto, zr_iald, zr_icmp, zr_iconst, zr_ifc, zr_iload_n2, zr_iload_n3, zr_nil, zr_cons, ↓reduceIte, Nat.reduceAdd, Nat.reduceEqDiff, Nat.reduceLeDiff, Nat.reduceMul, Nat.reduceSub, Int32.reduceOfInt, Int64.reduceOfInt, Int64.reduceOfNat, true_and, and_true, false_and, and_false, or_false, false_or, true_or, or_true, Int.reduceEq, reduceCtorEq, or_self, and_self, ne_eq, not_false_eq_true, not_true_eq_false, eq_self, Nat.le_refl, Nat.zero_le, zr_eI, zr_eL, zr_eR, zr_pI, zr_pL, zr_pR, zr_pO, zr_pV, zq_pA0, zq_pA, zr_get, zr_put_n, zr_put, zr_rem_n, zr_rem, zr_cat_i, zr_cat_l, zr_cat_q, zr_w_n, zr_w, zr_args_n, zr_args, zr_tl_s, zr_tl_n, zr_hIsI, zr_hLsL, zr_hRsR, zr_hIsL, zr_hIsR, zr_hLsI, zr_hLsR, zr_hRsI, zr_hRsL, zr_hNsI, zr_hNsL, zr_hNsR, zr_hZsI, zr_hZsL, zr_hZsR, b2_01, Classical.not_not, Int32.toInt_toInt64, Int64.reduceToInt, zc_1000, zc_100, zc_10, zc_9, zc_2, ci_f, hM, mR_1, aLen_301, aCod_301, ma_1 e, ms_13 e, ms_14 e, ms_15 e, ms_16 e, ms_17 e, ms_18 e, ms_19 e, ms_20 e, ms_21 e, mR_42, aLen_342, aCod_342, ma_42 e, ki]
            refine ⟨fun qc21 => ?_, fun qc21 => ?_⟩
            · try simp only [b2_0, Classical.not_not] at qc21
              try simp only [Int64.le_iff_toInt_le, Int64.lt_iff_toInt_lt, Int32.lt_iff_toInt_lt, Int32.le_iff_toInt_le, Int32.toInt_toInt64, Int64.reduceToInt, Int32.reduceToInt, Int.reduceNeg, Classical.not_not, i32e, l_add] at qc21
              refine st b_X12_count_121 _ _ k_X12_count_121 _ _ _ _ _ ?_
              simp only [b_X12_count_121, zr_T, zr_iload_n2, zr_iret, zr_rt_a, zr_rt_i, zr_rt_l, zr_rt_n, zr_rt_z, zr_nil, zr_cons, ↓reduceIte, Nat.reduceAdd, Nat.reduceEqDiff, Nat.reduceLeDiff, Nat.reduceMul, Nat.reduceSub, Int32.reduceOfInt, Int64.reduceOfInt, Int64.reduceOfNat, true_and, and_true, false_and, and_false, or_false, false_or, true_or, or_true, Int.reduceEq, reduceCtorEq, or_self, and_self, ne_eq, not_false_eq_true, not_true_eq_false, eq_self, Nat.le_refl, Nat.zero_le, zr_eI, zr_eL, zr_eR, zr_pI, zr_pL, zr_pR, zr_pO, zr_pV, zq_pA0, zq_pA, zr_get, zr_put_n, zr_put, zr_rem_n, zr_rem, zr_cat_i, zr_cat_l, zr_cat_q, zr_w_n, zr_w, zr_args_n, zr_args, zr_tl_s, zr_tl_n, zr_hIsI, zr_hLsL, zr_hRsR, zr_hIsL, zr_hIsR, zr_hLsI, zr_hLsR, zr_hRsI, zr_hRsL, zr_hNsI, zr_hNsL, zr_hNsR, zr_hZsI, zr_hZsL, zr_hZsR, b2_01, Classical.not_not, Int32.toInt_toInt64, Int64.reduceToInt, zc_1000, zc_100, zc_10, zc_9, zc_2, ci_f, hM, mR_1, aLen_301, aCod_301, ma_1 e, ms_13 e, ms_14 e, ms_15 e, ms_16 e, ms_17 e, ms_18 e, ms_19 e, ms_20 e, ms_21 e, mR_42, aLen_342, aCod_342, ma_42 e, ki]
              have ei : i = nO S := by omega
              subst ei
              refine qi' ?_ (by repeat (first | exact z_sC.rf | exact hsc | refine z_sC.I ?_ (by decide) | refine z_sC.L ?_ (by decide))) hM'
              simp only [mv_thr, e]
              unfold o_count
              (repeat' split) <;> (first | rfl | (exfalso; omega))
            · try simp only [b2_0, Classical.not_not] at qc21
              try simp only [Int64.le_iff_toInt_le, Int64.lt_iff_toInt_lt, Int32.lt_iff_toInt_lt, Int32.le_iff_toInt_le, Int32.toInt_toInt64, Int64.reduceToInt, Int32.reduceToInt, Int.reduceNeg, Classical.not_not, i32e, l_add] at qc21
              refine ⟨by first | exact vpi (by omega) | with_reducible exact vp_in_nI (by omega) (by omega), ?_⟩
              refine ⟨fun qc22 => ?_, fun qc22 => ?_⟩
              · try simp only [b2_0, Classical.not_not] at qc22
                try simp only [Int64.le_iff_toInt_le, Int64.lt_iff_toInt_lt, Int32.lt_iff_toInt_lt, Int32.le_iff_toInt_le, Int32.toInt_toInt64, Int64.reduceToInt, Int32.reduceToInt, Int.reduceNeg, Classical.not_not, i32e, l_add] at qc22
                refine st b_X12_count_112 _ _ k_X12_count_112 _ _ _ _ _ ?_
                simp only [b_X12_count_112, zr_iconst, zr_nil, zr_cons, ↓reduceIte, Nat.reduceAdd, Nat.reduceEqDiff, Nat.reduceLeDiff, Nat.reduceMul, Nat.reduceSub, Int32.reduceOfInt, Int64.reduceOfInt, Int64.reduceOfNat, true_and, and_true, false_and, and_false, or_false, false_or, true_or, or_true, Int.reduceEq, reduceCtorEq, or_self, and_self, ne_eq, not_false_eq_true, not_true_eq_false, eq_self, Nat.le_refl, Nat.zero_le, zr_eI, zr_eL, zr_eR, zr_pI, zr_pL, zr_pR, zr_pO, zr_pV, zq_pA0, zq_pA, zr_get, zr_put_n, zr_put, zr_rem_n, zr_rem, zr_cat_i, zr_cat_l, zr_cat_q, zr_w_n, zr_w, zr_args_n, zr_args, zr_tl_s, zr_tl_n, zr_hIsI, zr_hLsL, zr_hRsR, zr_hIsL, zr_hIsR, zr_hLsI, zr_hLsR, zr_hRsI, zr_hRsL, zr_hNsI, zr_hNsL, zr_hNsR, zr_hZsI, zr_hZsL, zr_hZsR, b2_01, Classical.not_not, Int32.toInt_toInt64, Int64.reduceToInt, zc_1000, zc_100, zc_10, zc_9, zc_2, ci_f, hM, mR_1, aLen_301, aCod_301, ma_1 e, ms_13 e, ms_14 e, ms_15 e, ms_16 e, ms_17 e, ms_18 e, ms_19 e, ms_20 e, ms_21 e, mR_42, aLen_342, aCod_342, ma_42 e, ki]
                refine st b_X12_count_113 _ _ k_X12_count_113 _ _ _ _ _ ?_
                simp only [b_X12_count_113, zr_goto, zr_iadd, zr_iinc, zr_istore_n2, zr_nil, zr_cons, ↓reduceIte, Nat.reduceAdd, Nat.reduceEqDiff, Nat.reduceLeDiff, Nat.reduceMul, Nat.reduceSub, Int32.reduceOfInt, Int64.reduceOfInt, Int64.reduceOfNat, true_and, and_true, false_and, and_false, or_false, false_or, true_or, or_true, Int.reduceEq, reduceCtorEq, or_self, and_self, ne_eq, not_false_eq_true, not_true_eq_false, eq_self, Nat.le_refl, Nat.zero_le, zr_eI, zr_eL, zr_eR, zr_pI, zr_pL, zr_pR, zr_pO, zr_pV, zq_pA0, zq_pA, zr_get, zr_put_n, zr_put, zr_rem_n, zr_rem, zr_cat_i, zr_cat_l, zr_cat_q, zr_w_n, zr_w, zr_args_n, zr_args, zr_tl_s, zr_tl_n, zr_hIsI, zr_hLsL, zr_hRsR, zr_hIsL, zr_hIsR, zr_hLsI, zr_hLsR, zr_hRsI, zr_hRsL, zr_hNsI, zr_hNsL, zr_hNsR, zr_hZsI, zr_hZsL, zr_hZsR, b2_01, Classical.not_not, Int32.toInt_toInt64, Int64.reduceToInt, zc_1000, zc_100, zc_10, zc_9, zc_2, ci_f, hM, mR_1, aLen_301, aCod_301, ma_1 e, ms_13 e, ms_14 e, ms_15 e, ms_16 e, ms_17 e, ms_18 e, ms_19 e, ms_20 e, ms_21 e, mR_42, aLen_342, aCod_342, ma_42 e, ki]
                have ih' := ih (by omega)
                simp only [o_wt] at ih'
                simp only [nI_1, Int32.add_zero]
                (repeat' split at ih') <;> (try simp only [Nat.add_zero] at ih') <;> (first | exact ih' | exact wk _ _ _ _ _ _ _ ih' | (exfalso; omega))
              · try simp only [b2_0, Classical.not_not] at qc22
                try simp only [Int64.le_iff_toInt_le, Int64.lt_iff_toInt_lt, Int32.lt_iff_toInt_lt, Int32.le_iff_toInt_le, Int32.toInt_toInt64, Int64.reduceToInt, Int32.reduceToInt, Int.reduceNeg, Classical.not_not, i32e, l_add] at qc22
                refine st b_X12_count_113 _ _ k_X12_count_113 _ _ _ _ _ ?_
                simp only [b_X12_count_113, zr_goto, zr_iadd, zr_iinc, zr_istore_n2, zr_nil, zr_cons, ↓reduceIte, Nat.reduceAdd, Nat.reduceEqDiff, Nat.reduceLeDiff, Nat.reduceMul, Nat.reduceSub, Int32.reduceOfInt, Int64.reduceOfInt, Int64.reduceOfNat, true_and, and_true, false_and, and_false, or_false, false_or, true_or, or_true, Int.reduceEq, reduceCtorEq, or_self, and_self, ne_eq, not_false_eq_true, not_true_eq_false, eq_self, Nat.le_refl, Nat.zero_le, zr_eI, zr_eL, zr_eR, zr_pI, zr_pL, zr_pR, zr_pO, zr_pV, zq_pA0, zq_pA, zr_get, zr_put_n, zr_put, zr_rem_n, zr_rem, zr_cat_i, zr_cat_l, zr_cat_q, zr_w_n, zr_w, zr_args_n, zr_args, zr_tl_s, zr_tl_n, zr_hIsI, zr_hLsL, zr_hRsR, zr_hIsL, zr_hIsR, zr_hLsI, zr_hLsR, zr_hRsI, zr_hRsL, zr_hNsI, zr_hNsL, zr_hNsR, zr_hZsI, zr_hZsL, zr_hZsR, b2_01, Classical.not_not, Int32.toInt_toInt64, Int64.reduceToInt, zc_1000, zc_100, zc_10, zc_9, zc_2, ci_f, hM, mR_1, aLen_301, aCod_301, ma_1 e, ms_13 e, ms_14 e, ms_15 e, ms_16 e, ms_17 e, ms_18 e, ms_19 e, ms_20 e, ms_21 e, mR_42, aLen_342, aCod_342, ma_42 e, ki]
                have ih' := ih (by omega)
                simp only [o_wt] at ih'
                simp only [nI_1, Int32.add_zero]
                (repeat' split at ih') <;> (try simp only [Nat.add_zero] at ih') <;> (first | exact ih' | exact wk _ _ _ _ _ _ _ ih' | (exfalso; omega))
          · by_cases qt6 : (what).toInt = 5
            · refine z_swA 123 5 qt6 rfl ?_
              refine st b_X12_count_123 _ _ k_X12_count_123 _ _ _ _ _ ?_
              simp only [b_X12_count_123, zr_T, zr_aload_n0, zr_get0, zr_iret, zr_rt_a, zr_rt_i, zr_rt_l, zr_rt_n, zr_rt_z, zr_nil, zr_cons, ↓reduceIte, Nat.reduceAdd, Nat.reduceEqDiff, Nat.reduceLeDiff, Nat.reduceMul, Nat.reduceSub, Int32.reduceOfInt, Int64.reduceOfInt, Int64.reduceOfNat, true_and, and_true, false_and, and_false, or_false, false_or, true_or, or_true, Int.reduceEq, reduceCtorEq, or_self, and_self, ne_eq, not_false_eq_true, not_true_eq_false, eq_self, Nat.le_refl, Nat.zero_le, zr_eI, zr_eL, zr_eR, zr_pI, zr_pL, zr_pR, zr_pO, zr_pV, zq_pA0, zq_pA, zr_get, zr_put_n, zr_put, zr_rem_n, zr_rem, zr_cat_i, zr_cat_l, zr_cat_q, zr_w_n, zr_w, zr_args_n, zr_args, zr_tl_s, zr_tl_n, zr_hIsI, zr_hLsL, zr_hRsR, zr_hIsL, zr_hIsR, zr_hLsI, zr_hLsR, zr_hRsI, zr_hRsL, zr_hNsI, zr_hNsL, zr_hNsR, zr_hZsI, zr_hZsL, zr_hZsR, b2_01, Classical.not_not, Int32.toInt_toInt64, Int64.reduceToInt, zc_1000, zc_100, zc_10, zc_9, zc_2, ci_f, hM, mR_1, aLen_301, aCod_301, ma_1 e, ms_13 e, ms_14 e, ms_15 e, ms_16 e, ms_17 e, ms_18 e, ms_19 e, ms_20 e, ms_21 e, mR_42, aLen_342, aCod_342, ma_42 e]
              refine qi' ?_ (by repeat (first | exact z_sC.rf | exact hsc | refine z_sC.I ?_ (by decide) | refine z_sC.L ?_ (by decide))) hM'
              simp only [mv_thr, e]
              unfold o_count
              (repeat' split) <;> (first | rfl | (exfalso; omega))
            · by_cases qt7 : (what).toInt = 6
              · refine z_swA 128 6 qt7 rfl ?_
                refine st b_X12_count_128 _ _ k_X12_count_128 _ _ _ _ _ ?_
                simp only [b_X12_count_128, zr_T, zr_aload_n0, zr_get0, zr_iret, zr_rt_a, zr_rt_i, zr_rt_l, zr_rt_n, zr_rt_z, zr_nil, zr_cons, ↓reduceIte, Nat.reduceAdd, Nat.reduceEqDiff, Nat.reduceLeDiff, Nat.reduceMul, Nat.reduceSub, Int32.reduceOfInt, Int64.reduceOfInt, Int64.reduceOfNat, true_and, and_true, false_and, and_false, or_false, false_or, true_or, or_true, Int.reduceEq, reduceCtorEq, or_self, and_self, ne_eq, not_false_eq_true, not_true_eq_false, eq_self, Nat.le_refl, Nat.zero_le, zr_eI, zr_eL, zr_eR, zr_pI, zr_pL, zr_pR, zr_pO, zr_pV, zq_pA0, zq_pA, zr_get, zr_put_n, zr_put, zr_rem_n, zr_rem, zr_cat_i, zr_cat_l, zr_cat_q, zr_w_n, zr_w, zr_args_n, zr_args, zr_tl_s, zr_tl_n, zr_hIsI, zr_hLsL, zr_hRsR, zr_hIsL, zr_hIsR, zr_hLsI, zr_hLsR, zr_hRsI, zr_hRsL, zr_hNsI, zr_hNsL, zr_hNsR, zr_hZsI, zr_hZsL, zr_hZsR, b2_01, Classical.not_not, Int32.toInt_toInt64, Int64.reduceToInt, zc_1000, zc_100, zc_10, zc_9, zc_2, ci_f, hM, mR_1, aLen_301, aCod_301, ma_1 e, ms_13 e, ms_14 e, ms_15 e, ms_16 e, ms_17 e, ms_18 e, ms_19 e, ms_20 e, ms_21 e, mR_42, aLen_342, aCod_342, ma_42 e]
                refine qi' ?_ (by repeat (first | exact z_sC.rf | exact hsc | refine z_sC.I ?_ (by decide) | refine z_sC.L ?_ (by decide))) hM'
                simp only [mv_thr, e]
                unfold o_count
                (repeat' split) <;> (first | rfl | (exfalso; omega))
              · by_cases qt8 : (what).toInt = 7
                · refine z_swA 133 7 qt8 rfl ?_
                  refine st b_X12_count_133 _ _ k_X12_count_133 _ _ _ _ _ ?_
                  simp only [b_X12_count_133, zr_T, zr_aload_n0, zr_get0, zr_iret, zr_rt_a, zr_rt_i, zr_rt_l, zr_rt_n, zr_rt_z, zr_nil, zr_cons, ↓reduceIte, Nat.reduceAdd, Nat.reduceEqDiff, Nat.reduceLeDiff, Nat.reduceMul, Nat.reduceSub, Int32.reduceOfInt, Int64.reduceOfInt, Int64.reduceOfNat, true_and, and_true, false_and, and_false, or_false, false_or, true_or, or_true, Int.reduceEq, reduceCtorEq, or_self, and_self, ne_eq, not_false_eq_true, not_true_eq_false, eq_self, Nat.le_refl, Nat.zero_le, zr_eI, zr_eL, zr_eR, zr_pI, zr_pL, zr_pR, zr_pO, zr_pV, zq_pA0, zq_pA, zr_get, zr_put_n, zr_put, zr_rem_n, zr_rem, zr_cat_i, zr_cat_l, zr_cat_q, zr_w_n, zr_w, zr_args_n, zr_args, zr_tl_s, zr_tl_n, zr_hIsI, zr_hLsL, zr_hRsR, zr_hIsL, zr_hIsR, zr_hLsI, zr_hLsR, zr_hRsI, zr_hRsL, zr_hNsI, zr_hNsL, zr_hNsR, zr_hZsI, zr_hZsL, zr_hZsR, b2_01, Classical.not_not, Int32.toInt_toInt64, Int64.reduceToInt, zc_1000, zc_100, zc_10, zc_9, zc_2, ci_f, hM, mR_1, aLen_301, aCod_301, ma_1 e, ms_13 e, ms_14 e, ms_15 e, ms_16 e, ms_17 e, ms_18 e, ms_19 e, ms_20 e, ms_21 e, mR_42, aLen_342, aCod_342, ma_42 e]
                  refine qi' ?_ (by repeat (first | exact z_sC.rf | exact hsc | refine z_sC.I ?_ (by decide) | refine z_sC.L ?_ (by decide))) hM'
                  simp only [mv_thr, e]
                  unfold o_count
                  (repeat' split) <;> (first | rfl | (exfalso; omega))
                · by_cases qt9 : (what).toInt = 8
                  · refine z_swA 138 8 qt9 rfl ?_
                    refine st b_X12_count_138 _ _ k_X12_count_138 _ _ _ _ _ ?_
                    simp only [b_X12_count_138, zr_T, zr_aload_n0, zr_get0, zr_iret, zr_rt_a, zr_rt_i, zr_rt_l, zr_rt_n, zr_rt_z, zr_nil, zr_cons, ↓reduceIte, Nat.reduceAdd, Nat.reduceEqDiff, Nat.reduceLeDiff, Nat.reduceMul, Nat.reduceSub, Int32.reduceOfInt, Int64.reduceOfInt, Int64.reduceOfNat, true_and, and_true, false_and, and_false, or_false, false_or, true_or, or_true, Int.reduceEq, reduceCtorEq, or_self, and_self, ne_eq, not_false_eq_true, not_true_eq_false, eq_self, Nat.le_refl, Nat.zero_le, zr_eI, zr_eL, zr_eR, zr_pI, zr_pL, zr_pR, zr_pO, zr_pV, zq_pA0, zq_pA, zr_get, zr_put_n, zr_put, zr_rem_n, zr_rem, zr_cat_i, zr_cat_l, zr_cat_q, zr_w_n, zr_w, zr_args_n, zr_args, zr_tl_s, zr_tl_n, zr_hIsI, zr_hLsL, zr_hRsR, zr_hIsL, zr_hIsR, zr_hLsI, zr_hLsR, zr_hRsI, zr_hRsL, zr_hNsI, zr_hNsL, zr_hNsR, zr_hZsI, zr_hZsL, zr_hZsR, b2_01, Classical.not_not, Int32.toInt_toInt64, Int64.reduceToInt, zc_1000, zc_100, zc_10, zc_9, zc_2, ci_f, hM, mR_1, aLen_301, aCod_301, ma_1 e, ms_13 e, ms_14 e, ms_15 e, ms_16 e, ms_17 e, ms_18 e, ms_19 e, ms_20 e, ms_21 e, mR_42, aLen_342, aCod_342, ma_42 e]
                    refine qi' ?_ (by repeat (first | exact z_sC.rf | exact hsc | refine z_sC.I ?_ (by decide) | refine z_sC.L ?_ (by decide))) hM'
                    simp only [mv_thr, e]
                    unfold o_count
                    (repeat' split) <;> (first | rfl | (exfalso; omega))
                  · by_cases qt10 : (what).toInt = 9
                    · refine z_swA 143 9 qt10 rfl ?_
                      refine st b_X12_count_143 _ _ k_X12_count_143 _ _ _ _ _ ?_
                      simp only [b_X12_count_143, zr_T, zr_aload_n0, zr_get0, zr_iret, zr_rt_a, zr_rt_i, zr_rt_l, zr_rt_n, zr_rt_z, zr_nil, zr_cons, ↓reduceIte, Nat.reduceAdd, Nat.reduceEqDiff, Nat.reduceLeDiff, Nat.reduceMul, Nat.reduceSub, Int32.reduceOfInt, Int64.reduceOfInt, Int64.reduceOfNat, true_and, and_true, false_and, and_false, or_false, false_or, true_or, or_true, Int.reduceEq, reduceCtorEq, or_self, and_self, ne_eq, not_false_eq_true, not_true_eq_false, eq_self, Nat.le_refl, Nat.zero_le, zr_eI, zr_eL, zr_eR, zr_pI, zr_pL, zr_pR, zr_pO, zr_pV, zq_pA0, zq_pA, zr_get, zr_put_n, zr_put, zr_rem_n, zr_rem, zr_cat_i, zr_cat_l, zr_cat_q, zr_w_n, zr_w, zr_args_n, zr_args, zr_tl_s, zr_tl_n, zr_hIsI, zr_hLsL, zr_hRsR, zr_hIsL, zr_hIsR, zr_hLsI, zr_hLsR, zr_hRsI, zr_hRsL, zr_hNsI, zr_hNsL, zr_hNsR, zr_hZsI, zr_hZsL, zr_hZsR, b2_01, Classical.not_not, Int32.toInt_toInt64, Int64.reduceToInt, zc_1000, zc_100, zc_10, zc_9, zc_2, ci_f, hM, mR_1, aLen_301, aCod_301, ma_1 e, ms_13 e, ms_14 e, ms_15 e, ms_16 e, ms_17 e, ms_18 e, ms_19 e, ms_20 e, ms_21 e, mR_42, aLen_342, aCod_342, ma_42 e]
                      refine qi' ?_ (by repeat (first | exact z_sC.rf | exact hsc | refine z_sC.I ?_ (by decide) | refine z_sC.L ?_ (by decide))) hM'
                      simp only [mv_thr, e]
                      unfold o_count
                      (repeat' split) <;> (first | rfl | (exfalso; omega))
                    · by_cases qt11 : (what).toInt = 10
                      · refine z_swA 148 10 qt11 rfl ?_
                        refine st b_X12_count_148 _ _ k_X12_count_148 _ _ _ _ _ ?_
                        simp only [b_X12_count_148, zr_iconst, zr_istore_n3, zr_nil, zr_cons, ↓reduceIte, Nat.reduceAdd, Nat.reduceEqDiff, Nat.reduceLeDiff, Nat.reduceMul, Nat.reduceSub, Int32.reduceOfInt, Int64.reduceOfInt, Int64.reduceOfNat, true_and, and_true, false_and, and_false, or_false, false_or, true_or, or_true, Int.reduceEq, reduceCtorEq, or_self, and_self, ne_eq, not_false_eq_true, not_true_eq_false, eq_self, Nat.le_refl, Nat.zero_le, zr_eI, zr_eL, zr_eR, zr_pI, zr_pL, zr_pR, zr_pO, zr_pV, zq_pA0, zq_pA, zr_get, zr_put_n, zr_put, zr_rem_n, zr_rem, zr_cat_i, zr_cat_l, zr_cat_q, zr_w_n, zr_w, zr_args_n, zr_args, zr_tl_s, zr_tl_n, zr_hIsI, zr_hLsL, zr_hRsR, zr_hIsL, zr_hIsR, zr_hLsI, zr_hLsR, zr_hRsI, zr_hRsL, zr_hNsI, zr_hNsL, zr_hNsR, zr_hZsI, zr_hZsL, zr_hZsR, b2_01, Classical.not_not, Int32.toInt_toInt64, Int64.reduceToInt, zc_1000, zc_100, zc_10, zc_9, zc_2, ci_f, hM, mR_1, aLen_301, aCod_301, ma_1 e, ms_13 e, ms_14 e, ms_15 e, ms_16 e, ms_17 e, ms_18 e, ms_19 e, ms_20 e, ms_21 e, mR_42, aLen_342, aCod_342, ma_42 e]
                        refine (show ∀ i, i ≤ 4 → A 150 [(0, z_r 14 0), (1, z_i what), (2, z_i (nI (o_rows (mA S 1) i))), (3, z_i (nI i))] [] (sI h 14 0 0 0) 0 0 from z_loop (fun i hi ih => ?_)) 0 (Nat.zero_le _)
                        have ti := toIntS (show i < 2000000000 by omega)
                        have ki := nI_clampS (show i < 2000000000 by omega)
                        refine st b_X12_count_150 _ _ k_X12_count_150 _ _ _ _ _ ?_
                        simp only [b_X12_count_150, zr_aload_n0, zr_cP_ge, zr_cP_lt, zr_get2, zr_goto, zr_iald, zr_icmp, zr_iconst, zr_ifc, zr_iload_n2, zr_iload_n3, zr_nil, zr_cons, ↓reduceIte, Nat.reduceAdd, Nat.reduceEqDiff, Nat.reduceLeDiff, Nat.reduceMul, Nat.reduceSub, Int32.reduceOfInt, Int64.reduceOfInt, Int64.reduceOfNat, true_and, and_true, false_and, and_false, or_false, false_or, true_or, or_true, Int.reduceEq, reduceCtorEq, or_self, and_self, ne_eq, not_false_eq_true, not_true_eq_false, eq_self, Nat.le_refl, Nat.zero_le, zr_eI, zr_eL, zr_eR, zr_pI, zr_pL, zr_pR, zr_pO, zr_pV, zq_pA0, zq_pA, zr_get, zr_put_n, zr_put, zr_rem_n, zr_rem, zr_cat_i, zr_cat_l, zr_cat_q, zr_w_n, zr_w, zr_args_n, zr_args, zr_tl_s, zr_tl_n, zr_hIsI, zr_hLsL, zr_hRsR, zr_hIsL, zr_hIsR, zr_hLsI, zr_hLsR, zr_hRsI, zr_hRsL, zr_hNsI, zr_hNsL, zr_hNsR, zr_hZsI, zr_hZsL, zr_hZsR, b2_01, Classical.not_not, Int32.toInt_toInt64, Int64.reduceToInt, zc_1000, zc_100, zc_10, zc_9, zc_2, ci_f, hM, mR_1, aLen_301, aCod_301, ma_1 e, ms_13 e, ms_14 e, ms_15 e, ms_16 e, ms_17 e, ms_18 e, ms_19 e, ms_20 e, ms_21 e, mR_42, aLen_342, aCod_342, ma_42 e, ki]
                        refine ⟨fun qc41 => ?_, fun qc41 => ?_⟩
                        · try simp only [b2_0, Classical.not_not] at qc41
                          try simp only [Int64.le_iff_toInt_le, Int64.lt_iff_toInt_lt, Int32.lt_iff_toInt_lt, Int32.le_iff_toInt_le, Int32.toInt_toInt64, Int64.reduceToInt, Int32.reduceToInt, Int.reduceNeg, Classical.not_not, i32e, l_add] at qc41
                          refine st b_X12_count_178 _ _ k_X12_count_178 _ _ _ _ _ ?_
                          simp only [b_X12_count_178, zr_T, zr_iload_n2, zr_iret, zr_rt_a, zr_rt_i, zr_rt_l, zr_rt_n, zr_rt_z, zr_nil, zr_cons, ↓reduceIte, Nat.reduceAdd, Nat.reduceEqDiff, Nat.reduceLeDiff, Nat.reduceMul, Nat.reduceSub, Int32.reduceOfInt, Int64.reduceOfInt, Int64.reduceOfNat, true_and, and_true, false_and, and_false, or_false, false_or, true_or, or_true, Int.reduceEq, reduceCtorEq, or_self, and_self, ne_eq, not_false_eq_true, not_true_eq_false, eq_self, Nat.le_refl, Nat.zero_le, zr_eI, zr_eL, zr_eR, zr_pI, zr_pL, zr_pR, zr_pO, zr_pV, zq_pA0, zq_pA, zr_get, zr_put_n, zr_put, zr_rem_n, zr_rem, zr_cat_i, zr_cat_l, zr_cat_q, zr_w_n, zr_w, zr_args_n, zr_args, zr_tl_s, zr_tl_n, zr_hIsI, zr_hLsL, zr_hRsR, zr_hIsL, zr_hIsR, zr_hLsI, zr_hLsR, zr_hRsI, zr_hRsL, zr_hNsI, zr_hNsL, zr_hNsR, zr_hZsI, zr_hZsL, zr_hZsR, b2_01, Classical.not_not, Int32.toInt_toInt64, Int64.reduceToInt, zc_1000, zc_100, zc_10, zc_9, zc_2, ci_f, hM, mR_1, aLen_301, aCod_301, ma_1 e, ms_13 e, ms_14 e, ms_15 e, ms_16 e, ms_17 e, ms_18 e, ms_19 e, ms_20 e, ms_21 e, mR_42, aLen_342, aCod_342, ma_42 e, ki]
                          have ei : i = 4 := by omega
                          subst ei
                          refine qi' ?_ (by repeat (first | exact z_sC.rf | exact hsc | refine z_sC.I ?_ (by decide) | refine z_sC.L ?_ (by decide))) hM'
                          simp only [mv_thr, e]
                          unfold o_count
                          (repeat' split) <;> (first | rfl | (exfalso; omega))
                        · try simp only [b2_0, Classical.not_not] at qc41
                          try simp only [Int64.le_iff_toInt_le, Int64.lt_iff_toInt_lt, Int32.lt_iff_toInt_lt, Int32.le_iff_toInt_le, Int32.toInt_toInt64, Int64.reduceToInt, Int32.reduceToInt, Int.reduceNeg, Classical.not_not, i32e, l_add] at qc41
                          refine ⟨by first | exact vpi (by omega) | with_reducible exact vp_in_nI (by omega) (by omega), ?_⟩
                          refine ⟨fun qc42 => ?_, fun qc42 => ?_⟩
                          · try simp only [b2_0, Classical.not_not] at qc42
                            try simp only [Int64.le_iff_toInt_le, Int64.lt_iff_toInt_lt, Int32.lt_iff_toInt_lt, Int32.le_iff_toInt_le, Int32.toInt_toInt64, Int64.reduceToInt, Int32.reduceToInt, Int.reduceNeg, Classical.not_not, i32e, l_add] at qc42
                            refine st b_X12_count_169 _ _ k_X12_count_169 _ _ _ _ _ ?_
                            simp only [b_X12_count_169, zr_iconst, zr_nil, zr_cons, ↓reduceIte, Nat.reduceAdd, Nat.reduceEqDiff, Nat.reduceLeDiff, Nat.reduceMul, Nat.reduceSub, Int32.reduceOfInt, Int64.reduceOfInt, Int64.reduceOfNat, true_and, and_true, false_and, and_false, or_false, false_or, true_or, or_true, Int.reduceEq, reduceCtorEq, or_self, and_self, ne_eq, not_false_eq_true, not_true_eq_false, eq_self, Nat.le_refl, Nat.zero_le, zr_eI, zr_eL, zr_eR, zr_pI, zr_pL, zr_pR, zr_pO, zr_pV, zq_pA0, zq_pA, zr_get, zr_put_n, zr_put, zr_rem_n, zr_rem, zr_cat_i, zr_cat_l, zr_cat_q, zr_w_n, zr_w, zr_args_n, zr_args, zr_tl_s, zr_tl_n, zr_hIsI, zr_hLsL, zr_hRsR, zr_hIsL, zr_hIsR, zr_hLsI, zr_hLsR, zr_hRsI, zr_hRsL, zr_hNsI, zr_hNsL, zr_hNsR, zr_hZsI, zr_hZsL, zr_hZsR, b2_01, Classical.not_not, Int32.toInt_toInt64, Int64.reduceToInt, zc_1000, zc_100, zc_10, zc_9, zc_2, ci_f, hM, mR_1, aLen_301, aCod_301, ma_1 e, ms_13 e, ms_14 e, ms_15 e, ms_16 e, ms_17 e, ms_18 e, ms_19 e, ms_20 e, ms_21 e, mR_42, aLen_342, aCod_342, ma_42 e, ki]
                            refine st b_X12_count_170 _ _ k_X12_count_170 _ _ _ _ _ ?_
                            simp only [b_X12_count_170, zr_goto, zr_iadd, zr_iinc, zr_istore_n2, zr_nil, zr_cons, ↓reduceIte, Nat.reduceAdd, Nat.reduceEqDiff, Nat.reduceLeDiff, Nat.reduceMul, Nat.reduceSub, Int32.reduceOfInt, Int64.reduceOfInt, Int64.reduceOfNat, true_and, and_true, false_and, and_false, or_false, false_or, true_or, or_true, Int.reduceEq, reduceCtorEq, or_self, and_self, ne_eq, not_false_eq_true, not_true_eq_false, eq_self, Nat.le_refl, Nat.zero_le, zr_eI, zr_eL, zr_eR, zr_pI, zr_pL, zr_pR, zr_pO, zr_pV, zq_pA0, zq_pA, zr_get, zr_put_n, zr_put, zr_rem_n, zr_rem, zr_cat_i, zr_cat_l, zr_cat_q, zr_w_n, zr_w, zr_args_n, zr_args, zr_tl_s, zr_tl_n, zr_hIsI, zr_hLsL, zr_hRsR, zr_hIsL, zr_hIsR, zr_hLsI, zr_hLsR, zr_hRsI, zr_hRsL, zr_hNsI, zr_hNsL, zr_hNsR, zr_hZsI, zr_hZsL, zr_hZsR, b2_01, Classical.not_not, Int32.toInt_toInt64, Int64.reduceToInt, zc_1000, zc_100, zc_10, zc_9, zc_2, ci_f, hM, mR_1, aLen_301, aCod_301, ma_1 e, ms_13 e, ms_14 e, ms_15 e, ms_16 e, ms_17 e, ms_18 e, ms_19 e, ms_20 e, ms_21 e, mR_42, aLen_342, aCod_342, ma_42 e, ki]
                            have ih' := ih (by omega)
                            simp only [o_rows] at ih'
                            simp only [nI_1, Int32.add_zero]
                            (repeat' split at ih') <;> (try simp only [Nat.add_zero] at ih') <;> (first | exact ih' | exact wk _ _ _ _ _ _ _ ih' | (exfalso; omega))
                          · try simp only [b2_0, Classical.not_not] at qc42
                            try simp only [Int64.le_iff_toInt_le, Int64.lt_iff_toInt_lt, Int32.lt_iff_toInt_lt, Int32.le_iff_toInt_le, Int32.toInt_toInt64, Int64.reduceToInt, Int32.reduceToInt, Int.reduceNeg, Classical.not_not, i32e, l_add] at qc42
                            refine st b_X12_count_170 _ _ k_X12_count_170 _ _ _ _ _ ?_
                            simp only [b_X12_count_170, zr_goto, zr_iadd, zr_iinc, zr_istore_n2, zr_nil, zr_cons, ↓reduceIte, Nat.reduceAdd, Nat.reduceEqDiff, Nat.reduceLeDiff, Nat.reduceMul, Nat.reduceSub, Int32.reduceOfInt, Int64.reduceOfInt, Int64.reduceOfNat, true_and, and_true, false_and, and_false, or_false, false_or, true_or, or_true, Int.reduceEq, reduceCtorEq, or_self, and_self, ne_eq, not_false_eq_true, not_true_eq_false, eq_self, Nat.le_refl, Nat.zero_le, zr_eI, zr_eL, zr_eR, zr_pI, zr_pL, zr_pR, zr_pO, zr_pV, zq_pA0, zq_pA, zr_get, zr_put_n, zr_put, zr_rem_n, zr_rem, zr_cat_i, zr_cat_l, zr_cat_q, zr_w_n, zr_w, zr_args_n, zr_args, zr_tl_s, zr_tl_n, zr_hIsI, zr_hLsL, zr_hRsR, zr_hIsL, zr_hIsR, zr_hLsI, zr_hLsR, zr_hRsI, zr_hRsL, zr_hNsI, zr_hNsL, zr_hNsR, zr_hZsI, zr_hZsL, zr_hZsR, b2_01, Classical.not_not, Int32.toInt_toInt64, Int64.reduceToInt, zc_1000, zc_100, zc_10, zc_9, zc_2, ci_f, hM, mR_1, aLen_301, aCod_301, ma_1 e, ms_13 e, ms_14 e, ms_15 e, ms_16 e, ms_17 e, ms_18 e, ms_19 e, ms_20 e, ms_21 e, mR_42, aLen_342, aCod_342, ma_42 e, ki]
                            have ih' := ih (by omega)
                            simp only [o_rows] at ih'
                            simp only [nI_1, Int32.add_zero]
                            (repeat' split at ih') <;> (try simp only [Nat.add_zero] at ih') <;> (first | exact ih' | exact wk _ _ _ _ _ _ _ ih' | (exfalso; omega))
                      · refine z_swD 180 (by omega) rfl ?_
                        refine st b_X12_count_180 _ _ k_X12_count_180 _ _ _ _ _ ?_
                        simp only [b_X12_count_180, zr_T, zr_iconst, zr_iret, zr_rt_a, zr_rt_i, zr_rt_l, zr_rt_n, zr_rt_z, zr_nil, zr_cons, ↓reduceIte, Nat.reduceAdd, Nat.reduceEqDiff, Nat.reduceLeDiff, Nat.reduceMul, Nat.reduceSub, Int32.reduceOfInt, Int64.reduceOfInt, Int64.reduceOfNat, true_and, and_true, false_and, and_false, or_false, false_or, true_or, or_true, Int.reduceEq, reduceCtorEq, or_self, and_self, ne_eq, not_false_eq_true, not_true_eq_false, eq_self, Nat.le_refl, Nat.zero_le, zr_eI, zr_eL, zr_eR, zr_pI, zr_pL, zr_pR, zr_pO, zr_pV, zq_pA0, zq_pA, zr_get, zr_put_n, zr_put, zr_rem_n, zr_rem, zr_cat_i, zr_cat_l, zr_cat_q, zr_w_n, zr_w, zr_args_n, zr_args, zr_tl_s, zr_tl_n, zr_hIsI, zr_hLsL, zr_hRsR, zr_hIsL, zr_hIsR, zr_hLsI, zr_hLsR, zr_hRsI, zr_hRsL, zr_hNsI, zr_hNsL, zr_hNsR, zr_hZsI, zr_hZsL, zr_hZsR, b2_01, Classical.not_not, Int32.toInt_toInt64, Int64.reduceToInt, zc_1000, zc_100, zc_10, zc_9, zc_2, ci_f, hM, mR_1, aLen_301, aCod_301, ma_1 e, ms_13 e, ms_14 e, ms_15 e, ms_16 e, ms_17 e, ms_18 e, ms_19 e, ms_20 e, ms_21 e, mR_42, aLen_342, aCod_342, ma_42 e]
                        refine qi' ?_ (by repeat (first | exact z_sC.rf | exact hsc | refine z_sC.I ?_ (by decide) | refine z_sC.L ?_ (by decide))) hM'
                        simp only [mv_thr, e]
                        unfold o_count
                        (repeat' split) <;> (first | rfl | (exfalso; omega))
theorem m_weighed (l : Launch) (G : z_G) (d : Nat) (hd : 3 ≤ d) (S : z_M) (h : z_H) (e : mv h = S) (hM : z_MR h) (inv : INV S) (k s what : Int32) : z_MT l G d yX12_weighed cX12_weighed 15 (some .long) [z_r 14 0, z_i k, z_i s, z_i what] h 0 0 (Ql h (o_weighed S k s what, S)) := by
  have hM' := hM
  unfold z_MR at hM
  have huK : nK S = ci (mS S 15) := rfl
  have htK := inv.cK.t
  have hbK := inv.cK.2
  have hpK : (mS S 15 - 1).toInt = (ci (mS S 15) : Int) - 1 := by
    rw [sub32 (by rw [htK, show (1 : Int32).toInt = 1 from rfl]; omega) (by rw [htK, show (1 : Int32).toInt = 1 from rfl]; omega), htK]
    rfl
  refine z_mt2 14 false ⟨by decide, rfl, fun q => absurd q (by decide)⟩ (by show 4 ≤ 15; decide) (fun A st wk => ?_)
  refine st b_X12_weighed_0 _ _ k_X12_weighed_0 _ _ _ _ _ ?_
  simp only [b_X12_weighed_0, zr_aload_n0, zr_cP_eq, zr_cP_ne, zr_call0, zr_call1, zr_i2l, zr_iconst, zr_ifc, zr_iload_n1, zr_iload_n2, zr_iload_n3, zr_lconst0, zr_ldc2, zr_put0, zr_nil, zr_cons, ↓reduceIte, Nat.reduceAdd, Nat.reduceEqDiff, Nat.reduceLeDiff, Nat.reduceMul, Nat.reduceSub, Int32.reduceOfInt, Int64.reduceOfInt, Int64.reduceOfNat, true_and, and_true, false_and, and_false, or_false, false_or, true_or, or_true, Int.reduceEq, reduceCtorEq, or_self, and_self, ne_eq, not_false_eq_true, not_true_eq_false, eq_self, Nat.le_refl, Nat.zero_le, zr_eI, zr_eL, zr_eR, zr_pI, zr_pL, zr_pR, zr_pO, zr_pV, zq_pA0, zq_pA, zr_get, zr_put_n, zr_put, zr_rem_n, zr_rem, zr_cat_i, zr_cat_l, zr_cat_q, zr_w_n, zr_w, zr_args_n, zr_args, zr_tl_s, zr_tl_n, zr_hIsI, zr_hLsL, zr_hRsR, zr_hIsL, zr_hIsR, zr_hLsI, zr_hLsR, zr_hRsI, zr_hRsL, zr_hNsI, zr_hNsL, zr_hNsR, zr_hZsI, zr_hZsL, zr_hZsR, b2_01, Classical.not_not, Int32.toInt_toInt64, Int64.reduceToInt, zc_1000, zc_100, zc_10, zc_9, zc_2, ci_f, hM, mR_1, aLen_301, aCod_301, ma_1 e, mR_2, aLen_302, aCod_302, ma_2 e, mR_3, aLen_303, aCod_303, mb_3 e]
  refine cp0 (by omega) lk_X12_225 (rc_14 rfl) (m_isKind l G _ (by omega) S _ (by simp only [mv_thr, e]) (z_MR.I hM') inv _) (Nat.le_refl _) (Nat.le_refl _) ?_
  simp only [zr_cP_eq, zr_cP_ne, zr_call1, zr_i2l, zr_ifc, zr_iload_n2, zr_iload_n3, zr_lconst0, zr_ldc2, zr_nil, zr_cons, ↓reduceIte, Nat.reduceAdd, Nat.reduceEqDiff, Nat.reduceLeDiff, Nat.reduceMul, Nat.reduceSub, Int32.reduceOfInt, Int64.reduceOfInt, Int64.reduceOfNat, true_and, and_true, false_and, and_false, or_false, false_or, true_or, or_true, Int.reduceEq, reduceCtorEq, or_self, and_self, ne_eq, not_false_eq_true, not_true_eq_false, eq_self, Nat.le_refl, Nat.zero_le, zr_eI, zr_eL, zr_eR, zr_pI, zr_pL, zr_pR, zr_pO, zr_pV, zq_pA0, zq_pA, zr_get, zr_put_n, zr_put, zr_rem_n, zr_rem, zr_cat_i, zr_cat_l, zr_cat_q, zr_w_n, zr_w, zr_args_n, zr_args, zr_tl_s, zr_tl_n, zr_hIsI, zr_hLsL, zr_hRsR, zr_hIsL, zr_hIsR, zr_hLsI, zr_hLsR, zr_hRsI, zr_hRsL, zr_hNsI, zr_hNsL, zr_hNsR, zr_hZsI, zr_hZsL, zr_hZsR, b2_01, Classical.not_not, Int32.toInt_toInt64, Int64.reduceToInt, zc_1000, zc_100, zc_10, zc_9, zc_2, ci_f, hM, mR_1, aLen_301, aCod_301, ma_1 e, mR_2, aLen_302, aCod_302, ma_2 e, mR_3, aLen_303, aCod_303, mb_3 e]
  refine ⟨fun qc1 => ?_, fun qc1 => ?_⟩
  · try simp only [b2_0, Classical.not_not] at qc1
    try simp only [Int64.le_iff_toInt_le, Int64.lt_iff_toInt_lt, Int32.lt_iff_toInt_lt, Int32.le_iff_toInt_le, Int32.toInt_toInt64, Int64.reduceToInt, Int32.reduceToInt, Int.reduceNeg, Classical.not_not, i32e, l_add] at qc1
    refine st b_X12_weighed_32 _ _ k_X12_weighed_32 _ _ _ _ _ ?_
    simp only [b_X12_weighed_32, zr_T, zr_ldc2, zr_lret, zr_rt_a, zr_rt_i, zr_rt_l, zr_rt_n, zr_rt_z, zr_nil, zr_cons, ↓reduceIte, Nat.reduceAdd, Nat.reduceEqDiff, Nat.reduceLeDiff, Nat.reduceMul, Nat.reduceSub, Int32.reduceOfInt, Int64.reduceOfInt, Int64.reduceOfNat, true_and, and_true, false_and, and_false, or_false, false_or, true_or, or_true, Int.reduceEq, reduceCtorEq, or_self, and_self, ne_eq, not_false_eq_true, not_true_eq_false, eq_self, Nat.le_refl, Nat.zero_le, zr_eI, zr_eL, zr_eR, zr_pI, zr_pL, zr_pR, zr_pO, zr_pV, zq_pA0, zq_pA, zr_get, zr_put_n, zr_put, zr_rem_n, zr_rem, zr_cat_i, zr_cat_l, zr_cat_q, zr_w_n, zr_w, zr_args_n, zr_args, zr_tl_s, zr_tl_n, zr_hIsI, zr_hLsL, zr_hRsR, zr_hIsL, zr_hIsR, zr_hLsI, zr_hLsR, zr_hRsI, zr_hRsL, zr_hNsI, zr_hNsL, zr_hNsR, zr_hZsI, zr_hZsL, zr_hZsR, b2_01, Classical.not_not, Int32.toInt_toInt64, Int64.reduceToInt, zc_1000, zc_100, zc_10, zc_9, zc_2, ci_f, hM, mR_1, aLen_301, aCod_301, ma_1 e, mR_2, aLen_302, aCod_302, ma_2 e, mR_3, aLen_303, aCod_303, mb_3 e]
    refine ql' ?_ (by repeat (first | exact z_sC.rf | exact hsc | refine z_sC.I ?_ (by decide) | refine z_sC.L ?_ (by decide))) hM'
    simp only [mv_thr, e]
    unfold o_weighed
    (repeat' split) <;> (first | rfl | (exfalso; omega))
  · try simp only [b2_0, Classical.not_not] at qc1
    try simp only [Int64.le_iff_toInt_le, Int64.lt_iff_toInt_lt, Int32.lt_iff_toInt_lt, Int32.le_iff_toInt_le, Int32.toInt_toInt64, Int64.reduceToInt, Int32.reduceToInt, Int.reduceNeg, Classical.not_not, i32e, l_add] at qc1
    refine cp0 (by omega) lk_X12_181 trivial (m_isSlot l G _ (by omega) _ _) (Nat.le_refl _) (Nat.le_refl _) ?_
    simp only [zr_cP_eq, zr_cP_ne, zr_call1, zr_i2l, zr_ifc, zr_iload_n3, zr_lconst0, zr_ldc2, zr_nil, zr_cons, ↓reduceIte, Nat.reduceAdd, Nat.reduceEqDiff, Nat.reduceLeDiff, Nat.reduceMul, Nat.reduceSub, Int32.reduceOfInt, Int64.reduceOfInt, Int64.reduceOfNat, true_and, and_true, false_and, and_false, or_false, false_or, true_or, or_true, Int.reduceEq, reduceCtorEq, or_self, and_self, ne_eq, not_false_eq_true, not_true_eq_false, eq_self, Nat.le_refl, Nat.zero_le, zr_eI, zr_eL, zr_eR, zr_pI, zr_pL, zr_pR, zr_pO, zr_pV, zq_pA0, zq_pA, zr_get, zr_put_n, zr_put, zr_rem_n, zr_rem, zr_cat_i, zr_cat_l, zr_cat_q, zr_w_n, zr_w, zr_args_n, zr_args, zr_tl_s, zr_tl_n, zr_hIsI, zr_hLsL, zr_hRsR, zr_hIsL, zr_hIsR, zr_hLsI, zr_hLsR, zr_hRsI, zr_hRsL, zr_hNsI, zr_hNsL, zr_hNsR, zr_hZsI, zr_hZsL, zr_hZsR, b2_01, Classical.not_not, Int32.toInt_toInt64, Int64.reduceToInt, zc_1000, zc_100, zc_10, zc_9, zc_2, ci_f, hM, mR_1, aLen_301, aCod_301, ma_1 e, mR_2, aLen_302, aCod_302, ma_2 e, mR_3, aLen_303, aCod_303, mb_3 e]
    refine ⟨fun qc2 => ?_, fun qc2 => ?_⟩
    · try simp only [b2_0, Classical.not_not] at qc2
      try simp only [Int64.le_iff_toInt_le, Int64.lt_iff_toInt_lt, Int32.lt_iff_toInt_lt, Int32.le_iff_toInt_le, Int32.toInt_toInt64, Int64.reduceToInt, Int32.reduceToInt, Int.reduceNeg, Classical.not_not, i32e, l_add] at qc2
      refine st b_X12_weighed_32 _ _ k_X12_weighed_32 _ _ _ _ _ ?_
      simp only [b_X12_weighed_32, zr_T, zr_ldc2, zr_lret, zr_rt_a, zr_rt_i, zr_rt_l, zr_rt_n, zr_rt_z, zr_nil, zr_cons, ↓reduceIte, Nat.reduceAdd, Nat.reduceEqDiff, Nat.reduceLeDiff, Nat.reduceMul, Nat.reduceSub, Int32.reduceOfInt, Int64.reduceOfInt, Int64.reduceOfNat, true_and, and_true, false_and, and_false, or_false, false_or, true_or, or_true, Int.reduceEq, reduceCtorEq, or_self, and_self, ne_eq, not_false_eq_true, not_true_eq_false, eq_self, Nat.le_refl, Nat.zero_le, zr_eI, zr_eL, zr_eR, zr_pI, zr_pL, zr_pR, zr_pO, zr_pV, zq_pA0, zq_pA, zr_get, zr_put_n, zr_put, zr_rem_n, zr_rem, zr_cat_i, zr_cat_l, zr_cat_q, zr_w_n, zr_w, zr_args_n, zr_args, zr_tl_s, zr_tl_n, zr_hIsI, zr_hLsL, zr_hRsR, zr_hIsL, zr_hIsR, zr_hLsI, zr_hLsR, zr_hRsI, zr_hRsL, zr_hNsI, zr_hNsL, zr_hNsR, zr_hZsI, zr_hZsL, zr_hZsR, b2_01, Classical.not_not, Int32.toInt_toInt64, Int64.reduceToInt, zc_1000, zc_100, zc_10, zc_9, zc_2, ci_f, hM, mR_1, aLen_301, aCod_301, ma_1 e, mR_2, aLen_302, aCod_302, ma_2 e, mR_3, aLen_303, aCod_303, mb_3 e]
      refine ql' ?_ (by repeat (first | exact z_sC.rf | exact hsc | refine z_sC.I ?_ (by decide) | refine z_sC.L ?_ (by decide))) hM'
      simp only [mv_thr, e]
      unfold o_weighed
      (repeat' split) <;> (first | rfl | (exfalso; omega))
    · try simp only [b2_0, Classical.not_not] at qc2
      try simp only [Int64.le_iff_toInt_le, Int64.lt_iff_toInt_lt, Int32.lt_iff_toInt_lt, Int32.le_iff_toInt_le, Int32.toInt_toInt64, Int64.reduceToInt, Int32.reduceToInt, Int.reduceNeg, Classical.not_not, i32e, l_add] at qc2
      refine cp0 (by omega) lk_X12_177 trivial (m_in l G _ _ _ _ _) (Nat.le_refl _) (Nat.le_refl _) ?_
      simp only [zr_cP_ne, zr_ifc, zr_nil, zr_cons, ↓reduceIte, Nat.reduceAdd, Nat.reduceEqDiff, Nat.reduceLeDiff, Nat.reduceMul, Nat.reduceSub, Int32.reduceOfInt, Int64.reduceOfInt, Int64.reduceOfNat, true_and, and_true, false_and, and_false, or_false, false_or, true_or, or_true, Int.reduceEq, reduceCtorEq, or_self, and_self, ne_eq, not_false_eq_true, not_true_eq_false, eq_self, Nat.le_refl, Nat.zero_le, zr_eI, zr_eL, zr_eR, zr_pI, zr_pL, zr_pR, zr_pO, zr_pV, zq_pA0, zq_pA, zr_get, zr_put_n, zr_put, zr_rem_n, zr_rem, zr_cat_i, zr_cat_l, zr_cat_q, zr_w_n, zr_w, zr_args_n, zr_args, zr_tl_s, zr_tl_n, zr_hIsI, zr_hLsL, zr_hRsR, zr_hIsL, zr_hIsR, zr_hLsI, zr_hLsR, zr_hRsI, zr_hRsL, zr_hNsI, zr_hNsL, zr_hNsR, zr_hZsI, zr_hZsL, zr_hZsR, b2_01, Classical.not_not, Int32.toInt_toInt64, Int64.reduceToInt, zc_1000, zc_100, zc_10, zc_9, zc_2, ci_f, hM, mR_1, aLen_301, aCod_301, ma_1 e, mR_2, aLen_302, aCod_302, ma_2 e, mR_3, aLen_303, aCod_303, mb_3 e]
      refine ⟨fun qc3 => ?_, fun qc3 => ?_⟩
      · try simp only [b2_0, Classical.not_not] at qc3
        try simp only [Int64.le_iff_toInt_le, Int64.lt_iff_toInt_lt, Int32.lt_iff_toInt_lt, Int32.le_iff_toInt_le, Int32.toInt_toInt64, Int64.reduceToInt, Int32.reduceToInt, Int.reduceNeg, Classical.not_not, i32e, l_add] at qc3
        refine st b_X12_weighed_36 _ _ k_X12_weighed_36 _ _ _ _ _ ?_
        simp only [b_X12_weighed_36, zr_T, zr_aload_n0, zr_cP_ge, zr_get2, zr_iald, zr_ifc, zr_iload_n2, zr_ldc2, zr_lret, zr_rt_a, zr_rt_i, zr_rt_l, zr_rt_n, zr_rt_z, zr_nil, zr_cons, ↓reduceIte, Nat.reduceAdd, Nat.reduceEqDiff, Nat.reduceLeDiff, Nat.reduceMul, Nat.reduceSub, Int32.reduceOfInt, Int64.reduceOfInt, Int64.reduceOfNat, true_and, and_true, false_and, and_false, or_false, false_or, true_or, or_true, Int.reduceEq, reduceCtorEq, or_self, and_self, ne_eq, not_false_eq_true, not_true_eq_false, eq_self, Nat.le_refl, Nat.zero_le, zr_eI, zr_eL, zr_eR, zr_pI, zr_pL, zr_pR, zr_pO, zr_pV, zq_pA0, zq_pA, zr_get, zr_put_n, zr_put, zr_rem_n, zr_rem, zr_cat_i, zr_cat_l, zr_cat_q, zr_w_n, zr_w, zr_args_n, zr_args, zr_tl_s, zr_tl_n, zr_hIsI, zr_hLsL, zr_hRsR, zr_hIsL, zr_hIsR, zr_hLsI, zr_hLsR, zr_hRsI, zr_hRsL, zr_hNsI, zr_hNsL, zr_hNsR, zr_hZsI, zr_hZsL, zr_hZsR, b2_01, Classical.not_not, Int32.toInt_toInt64, Int64.reduceToInt, zc_1000, zc_100, zc_10, zc_9, zc_2, ci_f, hM, mR_1, aLen_301, aCod_301, ma_1 e, mR_2, aLen_302, aCod_302, ma_2 e, mR_3, aLen_303, aCod_303, mb_3 e]
        refine ⟨by first | exact vpi (by omega) | with_reducible exact vp_in_nI (by omega) (by omega), ?_⟩
        refine ⟨fun qc4 => ?_, fun qc4 => ?_⟩
        · try simp only [b2_0, Classical.not_not] at qc4
          try simp only [Int64.le_iff_toInt_le, Int64.lt_iff_toInt_lt, Int32.lt_iff_toInt_lt, Int32.le_iff_toInt_le, Int32.toInt_toInt64, Int64.reduceToInt, Int32.reduceToInt, Int.reduceNeg, Classical.not_not, i32e, l_add] at qc4
          refine st b_X12_weighed_49 _ _ k_X12_weighed_49 _ _ _ _ _ ?_
          simp only [b_X12_weighed_49, zr_iconst, zr_istore, zr_lconst0, zr_ldc2, zr_lstore, zr_nil, zr_cons, ↓reduceIte, Nat.reduceAdd, Nat.reduceEqDiff, Nat.reduceLeDiff, Nat.reduceMul, Nat.reduceSub, Int32.reduceOfInt, Int64.reduceOfInt, Int64.reduceOfNat, true_and, and_true, false_and, and_false, or_false, false_or, true_or, or_true, Int.reduceEq, reduceCtorEq, or_self, and_self, ne_eq, not_false_eq_true, not_true_eq_false, eq_self, Nat.le_refl, Nat.zero_le, zr_eI, zr_eL, zr_eR, zr_pI, zr_pL, zr_pR, zr_pO, zr_pV, zq_pA0, zq_pA, zr_get, zr_put_n, zr_put, zr_rem_n, zr_rem, zr_cat_i, zr_cat_l, zr_cat_q, zr_w_n, zr_w, zr_args_n, zr_args, zr_tl_s, zr_tl_n, zr_hIsI, zr_hLsL, zr_hRsR, zr_hIsL, zr_hIsR, zr_hLsI, zr_hLsR, zr_hRsI, zr_hRsL, zr_hNsI, zr_hNsL, zr_hNsR, zr_hZsI, zr_hZsL, zr_hZsR, b2_01, Classical.not_not, Int32.toInt_toInt64, Int64.reduceToInt, zc_1000, zc_100, zc_10, zc_9, zc_2, ci_f, hM, mR_1, aLen_301, aCod_301, ma_1 e, mR_2, aLen_302, aCod_302, ma_2 e, mR_3, aLen_303, aCod_303, mb_3 e]
          have js := inv.row (ci s) (by have := ci_int (x := s) (by omega); omega)
          have ks := ci_int (x := s) (by omega)
          have kz := ci_int (x := mA S 2 (ci s)) (by omega)
          have uz : o_sz S s = ci (mA S 2 (ci s)) := rfl
          refine (show ∀ i, i ≤ o_sz S s → A 66 [(0, z_r 14 0), (1, z_i k), (2, z_i s), (3, z_i what), (4, z_l (o_mi (mA S 23 (ci k)) (mA S 22 (ci k)) (mB S 3) (60 * ci s) i)), (6, z_l (o_ma (mA S 23 (ci k)) (mA S 22 (ci k)) (mB S 3) (60 * ci s) i)), (8, z_l (nI (o_tn (mA S 23 (ci k)) (mA S 22 (ci k)) (mB S 3) (60 * ci s) i)).toInt64), (10, z_l (o_tw (mA S 23 (ci k)) (mA S 22 (ci k)) (mB S 3) (60 * ci s) i)), (12, z_i (nI i))] [] (sI h 14 0 0 0) 0 0 from z_loop (fun i hi ih => ?_)) 0 (Nat.zero_le _)
          have ti := toIntS (show i < 2000000000 by omega)
          have ki := nI_clampS (show i < 2000000000 by omega)
          have nb := o_tn_le (lo := mA S 23 (ci k)) (hi := mA S 22 (ci k)) (c := mB S 3) (b := 60 * ci s) i
          have tn := toIntS (show o_tn (mA S 23 (ci k)) (mA S 22 (ci k)) (mB S 3) (60 * ci s) i < 2000000000 by omega)
          have kk := ci_int (x := k) (by omega)
          have ln := l_nI1 (show o_tn (mA S 23 (ci k)) (mA S 22 (ci k)) (mB S 3) (60 * ci s) i < 2000000000 by omega)
          refine st b_X12_weighed_66 _ _ k_X12_weighed_66 _ _ _ _ _ ?_
          simp only [b_X12_weighed_66, zr_aload_n0, zr_bipush, zr_cP_ge, zr_cP_ne, zr_call0, zr_get2, zr_goto, zr_iadd, zr_iald, zr_icmp, zr_ifc, zr_iload, zr_iload_n1, zr_iload_n2, zr_imul, zr_lald, zr_lload, zr_lstore, zr_nil, zr_cons, ↓reduceIte, Nat.reduceAdd, Nat.reduceEqDiff, Nat.reduceLeDiff, Nat.reduceMul, Nat.reduceSub, Int32.reduceOfInt, Int64.reduceOfInt, Int64.reduceOfNat, true_and, and_true, false_and, and_false, or_false, false_or, true_or, or_true, Int.reduceEq, reduceCtorEq, or_self, and_self, ne_eq, not_false_eq_true, not_true_eq_false, eq_self, Nat.le_refl, Nat.zero_le, zr_eI, zr_eL, zr_eR, zr_pI, zr_pL, zr_pR, zr_pO, zr_pV, zq_pA0, zq_pA, zr_get, zr_put_n, zr_put, zr_rem_n, zr_rem, zr_cat_i, zr_cat_l, zr_cat_q, zr_w_n, zr_w, zr_args_n, zr_args, zr_tl_s, zr_tl_n, zr_hIsI, zr_hLsL, zr_hRsR, zr_hIsL, zr_hIsR, zr_hLsI, zr_hLsR, zr_hRsI, zr_hRsL, zr_hNsI, zr_hNsL, zr_hNsR, zr_hZsI, zr_hZsL, zr_hZsR, b2_01, Classical.not_not, Int32.toInt_toInt64, Int64.reduceToInt, zc_1000, zc_100, zc_10, zc_9, zc_2, ci_f, hM, mR_1, aLen_301, aCod_301, ma_1 e, mR_2, aLen_302, aCod_302, ma_2 e, mR_3, aLen_303, aCod_303, mb_3 e, ki]
          refine ⟨by first | exact vpi (by omega) | with_reducible exact vp_in_nI (by omega) (by omega), ?_⟩
          refine ⟨fun qc21 => ?_, fun qc21 => ?_⟩
          · try simp only [b2_0, Classical.not_not] at qc21
            try simp only [Int64.le_iff_toInt_le, Int64.lt_iff_toInt_lt, Int32.lt_iff_toInt_lt, Int32.le_iff_toInt_le, Int32.toInt_toInt64, Int64.reduceToInt, Int32.reduceToInt, Int.reduceNeg, Classical.not_not, i32e, l_add, i64e] at qc21
            refine st b_X12_weighed_141 _ _ k_X12_weighed_141 _ _ _ _ _ ?_
            simp only [b_X12_weighed_141, lg_cmp_eq, lg_cmp_ge, lg_cmp_gt, lg_cmp_le, lg_cmp_lt, zr_T, zr_cP_ge, zr_cP_ne, zr_icmp, zr_iconst, zr_ifc, zr_iload_n3, zr_lcmp, zr_lconst0, zr_ldc2, zr_lload, zr_lret, zr_rt_a, zr_rt_i, zr_rt_l, zr_rt_n, zr_rt_z, zr_nil, zr_cons, ↓reduceIte, Nat.reduceAdd, Nat.reduceEqDiff, Nat.reduceLeDiff, Nat.reduceMul, Nat.reduceSub, Int32.reduceOfInt, Int64.reduceOfInt, Int64.reduceOfNat, true_and, and_true, false_and, and_false, or_false, false_or, true_or, or_true, Int.reduceEq, reduceCtorEq, or_self, and_self, ne_eq, not_false_eq_true, not_true_eq_false, eq_self, Nat.le_refl, Nat.zero_le, zr_eI, zr_eL, zr_eR, zr_pI, zr_pL, zr_pR, zr_pO, zr_pV, zq_pA0, zq_pA, zr_get, zr_put_n, zr_put, zr_rem_n, zr_rem, zr_cat_i, zr_cat_l, zr_cat_q, zr_w_n, zr_w, zr_args_n, zr_args, zr_tl_s, zr_tl_n, zr_hIsI, zr_hLsL, zr_hRsR, zr_hIsL, zr_hIsR, zr_hLsI, zr_hLsR, zr_hRsI, zr_hRsL, zr_hNsI, zr_hNsL, zr_hNsR, zr_hZsI, zr_hZsL, zr_hZsR, b2_01, Classical.not_not, Int32.toInt_toInt64, Int64.reduceToInt, zc_1000, zc_100, zc_10, zc_9, zc_2, ci_f, hM, mR_1, aLen_301, aCod_301, ma_1 e, mR_2, aLen_302, aCod_302, ma_2 e, mR_3, aLen_303, aCod_303, mb_3 e, ki]
            refine ⟨fun qc22 => ?_, fun qc22 => ?_⟩
            · try simp only [b2_0, Classical.not_not] at qc22
              try simp only [Int64.le_iff_toInt_le, Int64.lt_iff_toInt_lt, Int32.lt_iff_toInt_lt, Int32.le_iff_toInt_le, Int32.toInt_toInt64, Int64.reduceToInt, Int32.reduceToInt, Int.reduceNeg, Classical.not_not, i32e, l_add, i64e] at qc22
              refine st b_X12_weighed_157 _ _ k_X12_weighed_157 _ _ _ _ _ ?_
              simp only [b_X12_weighed_157, zr_cP_ne, zr_goto, zr_ifc, zr_iload_n3, zr_lload, zr_nil, zr_cons, ↓reduceIte, Nat.reduceAdd, Nat.reduceEqDiff, Nat.reduceLeDiff, Nat.reduceMul, Nat.reduceSub, Int32.reduceOfInt, Int64.reduceOfInt, Int64.reduceOfNat, true_and, and_true, false_and, and_false, or_false, false_or, true_or, or_true, Int.reduceEq, reduceCtorEq, or_self, and_self, ne_eq, not_false_eq_true, not_true_eq_false, eq_self, Nat.le_refl, Nat.zero_le, zr_eI, zr_eL, zr_eR, zr_pI, zr_pL, zr_pR, zr_pO, zr_pV, zq_pA0, zq_pA, zr_get, zr_put_n, zr_put, zr_rem_n, zr_rem, zr_cat_i, zr_cat_l, zr_cat_q, zr_w_n, zr_w, zr_args_n, zr_args, zr_tl_s, zr_tl_n, zr_hIsI, zr_hLsL, zr_hRsR, zr_hIsL, zr_hIsR, zr_hLsI, zr_hLsR, zr_hRsI, zr_hRsL, zr_hNsI, zr_hNsL, zr_hNsR, zr_hZsI, zr_hZsL, zr_hZsR, b2_01, Classical.not_not, Int32.toInt_toInt64, Int64.reduceToInt, zc_1000, zc_100, zc_10, zc_9, zc_2, ci_f, hM, mR_1, aLen_301, aCod_301, ma_1 e, mR_2, aLen_302, aCod_302, ma_2 e, mR_3, aLen_303, aCod_303, mb_3 e, ki]
              refine ⟨fun qc23 => ?_, fun qc23 => ?_⟩
              · try simp only [b2_0, Classical.not_not] at qc23
                try simp only [Int64.le_iff_toInt_le, Int64.lt_iff_toInt_lt, Int32.lt_iff_toInt_lt, Int32.le_iff_toInt_le, Int32.toInt_toInt64, Int64.reduceToInt, Int32.reduceToInt, Int.reduceNeg, Classical.not_not, i32e, l_add, i64e] at qc23
                refine st b_X12_weighed_166 _ _ k_X12_weighed_166 _ _ _ _ _ ?_
                simp only [b_X12_weighed_166, zr_cP_ne, zr_goto, zr_icmp, zr_iconst, zr_iload_n3, zr_lload, zr_nil, zr_cons, ↓reduceIte, Nat.reduceAdd, Nat.reduceEqDiff, Nat.reduceLeDiff, Nat.reduceMul, Nat.reduceSub, Int32.reduceOfInt, Int64.reduceOfInt, Int64.reduceOfNat, true_and, and_true, false_and, and_false, or_false, false_or, true_or, or_true, Int.reduceEq, reduceCtorEq, or_self, and_self, ne_eq, not_false_eq_true, not_true_eq_false, eq_self, Nat.le_refl, Nat.zero_le, zr_eI, zr_eL, zr_eR, zr_pI, zr_pL, zr_pR, zr_pO, zr_pV, zq_pA0, zq_pA, zr_get, zr_put_n, zr_put, zr_rem_n, zr_rem, zr_cat_i, zr_cat_l, zr_cat_q, zr_w_n, zr_w, zr_args_n, zr_args, zr_tl_s, zr_tl_n, zr_hIsI, zr_hLsL, zr_hRsR, zr_hIsL, zr_hIsR, zr_hLsI, zr_hLsR, zr_hRsI, zr_hRsL, zr_hNsI, zr_hNsL, zr_hNsR, zr_hZsI, zr_hZsL, zr_hZsR, b2_01, Classical.not_not, Int32.toInt_toInt64, Int64.reduceToInt, zc_1000, zc_100, zc_10, zc_9, zc_2, ci_f, hM, mR_1, aLen_301, aCod_301, ma_1 e, mR_2, aLen_302, aCod_302, ma_2 e, mR_3, aLen_303, aCod_303, mb_3 e, ki]
                refine ⟨fun qc24 => ?_, fun qc24 => ?_⟩
                · try simp only [b2_0, Classical.not_not] at qc24
                  try simp only [Int64.le_iff_toInt_le, Int64.lt_iff_toInt_lt, Int32.lt_iff_toInt_lt, Int32.le_iff_toInt_le, Int32.toInt_toInt64, Int64.reduceToInt, Int32.reduceToInt, Int.reduceNeg, Classical.not_not, i32e, l_add, i64e] at qc24
                  refine st b_X12_weighed_176 _ _ k_X12_weighed_176 _ _ _ _ _ ?_
                  simp only [b_X12_weighed_176, zr_cP_ne, zr_goto, zr_icmp, zr_iconst, zr_iload_n3, zr_lload, zr_nil, zr_cons, ↓reduceIte, Nat.reduceAdd, Nat.reduceEqDiff, Nat.reduceLeDiff, Nat.reduceMul, Nat.reduceSub, Int32.reduceOfInt, Int64.reduceOfInt, Int64.reduceOfNat, true_and, and_true, false_and, and_false, or_false, false_or, true_or, or_true, Int.reduceEq, reduceCtorEq, or_self, and_self, ne_eq, not_false_eq_true, not_true_eq_false, eq_self, Nat.le_refl, Nat.zero_le, zr_eI, zr_eL, zr_eR, zr_pI, zr_pL, zr_pR, zr_pO, zr_pV, zq_pA0, zq_pA, zr_get, zr_put_n, zr_put, zr_rem_n, zr_rem, zr_cat_i, zr_cat_l, zr_cat_q, zr_w_n, zr_w, zr_args_n, zr_args, zr_tl_s, zr_tl_n, zr_hIsI, zr_hLsL, zr_hRsR, zr_hIsL, zr_hIsR, zr_hLsI, zr_hLsR, zr_hRsI, zr_hRsL, zr_hNsI, zr_hNsL, zr_hNsR, zr_hZsI, zr_hZsL, zr_hZsR, b2_01, Classical.not_not, Int32.toInt_toInt64, Int64.reduceToInt, zc_1000, zc_100, zc_10, zc_9, zc_2, ci_f, hM, mR_1, aLen_301, aCod_301, ma_1 e, mR_2, aLen_302, aCod_302, ma_2 e, mR_3, aLen_303, aCod_303, mb_3 e, ki]
                  refine ⟨fun qc25 => ?_, fun qc25 => ?_⟩
                  · try simp only [b2_0, Classical.not_not] at qc25
                    try simp only [Int64.le_iff_toInt_le, Int64.lt_iff_toInt_lt, Int32.lt_iff_toInt_lt, Int32.le_iff_toInt_le, Int32.toInt_toInt64, Int64.reduceToInt, Int32.reduceToInt, Int.reduceNeg, Classical.not_not, i32e, l_add, i64e] at qc25
                    refine st b_X12_weighed_186 _ _ k_X12_weighed_186 _ _ _ _ _ ?_
                    simp only [b_X12_weighed_186, zr_cP_ne, zr_goto, zr_icmp, zr_iconst, zr_iload_n3, zr_lload, zr_nil, zr_cons, ↓reduceIte, Nat.reduceAdd, Nat.reduceEqDiff, Nat.reduceLeDiff, Nat.reduceMul, Nat.reduceSub, Int32.reduceOfInt, Int64.reduceOfInt, Int64.reduceOfNat, true_and, and_true, false_and, and_false, or_false, false_or, true_or, or_true, Int.reduceEq, reduceCtorEq, or_self, and_self, ne_eq, not_false_eq_true, not_true_eq_false, eq_self, Nat.le_refl, Nat.zero_le, zr_eI, zr_eL, zr_eR, zr_pI, zr_pL, zr_pR, zr_pO, zr_pV, zq_pA0, zq_pA, zr_get, zr_put_n, zr_put, zr_rem_n, zr_rem, zr_cat_i, zr_cat_l, zr_cat_q, zr_w_n, zr_w, zr_args_n, zr_args, zr_tl_s, zr_tl_n, zr_hIsI, zr_hLsL, zr_hRsR, zr_hIsL, zr_hIsR, zr_hLsI, zr_hLsR, zr_hRsI, zr_hRsL, zr_hNsI, zr_hNsL, zr_hNsR, zr_hZsI, zr_hZsL, zr_hZsR, b2_01, Classical.not_not, Int32.toInt_toInt64, Int64.reduceToInt, zc_1000, zc_100, zc_10, zc_9, zc_2, ci_f, hM, mR_1, aLen_301, aCod_301, ma_1 e, mR_2, aLen_302, aCod_302, ma_2 e, mR_3, aLen_303, aCod_303, mb_3 e, ki]
                    refine ⟨fun qc26 => ?_, fun qc26 => ?_⟩
                    · try simp only [b2_0, Classical.not_not] at qc26
                      try simp only [Int64.le_iff_toInt_le, Int64.lt_iff_toInt_lt, Int32.lt_iff_toInt_lt, Int32.le_iff_toInt_le, Int32.toInt_toInt64, Int64.reduceToInt, Int32.reduceToInt, Int.reduceNeg, Classical.not_not, i32e, l_add, i64e] at qc26
                      refine st b_X12_weighed_196 _ _ k_X12_weighed_196 _ _ _ _ _ ?_
                      simp only [b_X12_weighed_196, zr_aload_n0, zr_call0, zr_iload_n1, zr_lload, zr_nil, zr_cons, ↓reduceIte, Nat.reduceAdd, Nat.reduceEqDiff, Nat.reduceLeDiff, Nat.reduceMul, Nat.reduceSub, Int32.reduceOfInt, Int64.reduceOfInt, Int64.reduceOfNat, true_and, and_true, false_and, and_false, or_false, false_or, true_or, or_true, Int.reduceEq, reduceCtorEq, or_self, and_self, ne_eq, not_false_eq_true, not_true_eq_false, eq_self, Nat.le_refl, Nat.zero_le, zr_eI, zr_eL, zr_eR, zr_pI, zr_pL, zr_pR, zr_pO, zr_pV, zq_pA0, zq_pA, zr_get, zr_put_n, zr_put, zr_rem_n, zr_rem, zr_cat_i, zr_cat_l, zr_cat_q, zr_w_n, zr_w, zr_args_n, zr_args, zr_tl_s, zr_tl_n, zr_hIsI, zr_hLsL, zr_hRsR, zr_hIsL, zr_hIsR, zr_hLsI, zr_hLsR, zr_hRsI, zr_hRsL, zr_hNsI, zr_hNsL, zr_hNsR, zr_hZsI, zr_hZsL, zr_hZsR, b2_01, Classical.not_not, Int32.toInt_toInt64, Int64.reduceToInt, zc_1000, zc_100, zc_10, zc_9, zc_2, ci_f, hM, mR_1, aLen_301, aCod_301, ma_1 e, mR_2, aLen_302, aCod_302, ma_2 e, mR_3, aLen_303, aCod_303, mb_3 e, ki]
                      refine cp0 (by omega) lk_X12_239 (rc_14 rfl) (m_bookOf l G _ S _ (by simp only [mv_thr, e]) (z_MR.I hM') inv _ (by omega) _) (Nat.le_refl _) (Nat.le_refl _) ?_
                      simp only [zr_nil, zr_cons, ↓reduceIte, Nat.reduceAdd, Nat.reduceEqDiff, Nat.reduceLeDiff, Nat.reduceMul, Nat.reduceSub, Int32.reduceOfInt, Int64.reduceOfInt, Int64.reduceOfNat, true_and, and_true, false_and, and_false, or_false, false_or, true_or, or_true, Int.reduceEq, reduceCtorEq, or_self, and_self, ne_eq, not_false_eq_true, not_true_eq_false, eq_self, Nat.le_refl, Nat.zero_le, zr_eI, zr_eL, zr_eR, zr_pI, zr_pL, zr_pR, zr_pO, zr_pV, zq_pA0, zq_pA, zr_get, zr_put_n, zr_put, zr_rem_n, zr_rem, zr_cat_i, zr_cat_l, zr_cat_q, zr_w_n, zr_w, zr_args_n, zr_args, zr_tl_s, zr_tl_n, zr_hIsI, zr_hLsL, zr_hRsR, zr_hIsL, zr_hIsR, zr_hLsI, zr_hLsR, zr_hRsI, zr_hRsL, zr_hNsI, zr_hNsL, zr_hNsR, zr_hZsI, zr_hZsL, zr_hZsR, b2_01, Classical.not_not, Int32.toInt_toInt64, Int64.reduceToInt, zc_1000, zc_100, zc_10, zc_9, zc_2, ci_f, hM, mR_1, aLen_301, aCod_301, ma_1 e, mR_2, aLen_302, aCod_302, ma_2 e, mR_3, aLen_303, aCod_303, mb_3 e, ki]
                      refine st b_X12_weighed_203 _ _ k_X12_weighed_203 _ _ _ _ _ ?_
                      simp only [b_X12_weighed_203, zr_T, zr_lret, zr_rt_a, zr_rt_i, zr_rt_l, zr_rt_n, zr_rt_z, zr_nil, zr_cons, ↓reduceIte, Nat.reduceAdd, Nat.reduceEqDiff, Nat.reduceLeDiff, Nat.reduceMul, Nat.reduceSub, Int32.reduceOfInt, Int64.reduceOfInt, Int64.reduceOfNat, true_and, and_true, false_and, and_false, or_false, false_or, true_or, or_true, Int.reduceEq, reduceCtorEq, or_self, and_self, ne_eq, not_false_eq_true, not_true_eq_false, eq_self, Nat.le_refl, Nat.zero_le, zr_eI, zr_eL, zr_eR, zr_pI, zr_pL, zr_pR, zr_pO, zr_pV, zq_pA0, zq_pA, zr_get, zr_put_n, zr_put, zr_rem_n, zr_rem, zr_cat_i, zr_cat_l, zr_cat_q, zr_w_n, zr_w, zr_args_n, zr_args, zr_tl_s, zr_tl_n, zr_hIsI, zr_hLsL, zr_hRsR, zr_hIsL, zr_hIsR, zr_hLsI, zr_hLsR, zr_hRsI, zr_hRsL, zr_hNsI, zr_hNsL, zr_hNsR, zr_hZsI, zr_hZsL, zr_hZsR, b2_01, Classical.not_not, Int32.toInt_toInt64, Int64.reduceToInt, zc_1000, zc_100, zc_10, zc_9, zc_2, ci_f, hM, mR_1, aLen_301, aCod_301, ma_1 e, mR_2, aLen_302, aCod_302, ma_2 e, mR_3, aLen_303, aCod_303, mb_3 e, ki]
                      have ei : i = o_sz S s := by omega
                      subst ei
                      have hn9 : o_tN S k s = o_tn (mA S 23 (ci k)) (mA S 22 (ci k)) (mB S 3) (60 * ci s) (o_sz S s) := rfl
                      refine ql' ?_ (by repeat (first | exact z_sC.rf | exact hsc | refine z_sC.I ?_ (by decide) | refine z_sC.L ?_ (by decide))) hM'
                      simp only [mv_thr, e]
                      unfold o_weighed
                      (repeat' split) <;> (first | rfl | (exfalso; omega))
                    · try simp only [b2_0, Classical.not_not] at qc26
                      try simp only [Int64.le_iff_toInt_le, Int64.lt_iff_toInt_lt, Int32.lt_iff_toInt_lt, Int32.le_iff_toInt_le, Int32.toInt_toInt64, Int64.reduceToInt, Int32.reduceToInt, Int.reduceNeg, Classical.not_not, i32e, l_add, i64e] at qc26
                      refine st b_X12_weighed_203 _ _ k_X12_weighed_203 _ _ _ _ _ ?_
                      simp only [b_X12_weighed_203, zr_T, zr_lret, zr_rt_a, zr_rt_i, zr_rt_l, zr_rt_n, zr_rt_z, zr_nil, zr_cons, ↓reduceIte, Nat.reduceAdd, Nat.reduceEqDiff, Nat.reduceLeDiff, Nat.reduceMul, Nat.reduceSub, Int32.reduceOfInt, Int64.reduceOfInt, Int64.reduceOfNat, true_and, and_true, false_and, and_false, or_false, false_or, true_or, or_true, Int.reduceEq, reduceCtorEq, or_self, and_self, ne_eq, not_false_eq_true, not_true_eq_false, eq_self, Nat.le_refl, Nat.zero_le, zr_eI, zr_eL, zr_eR, zr_pI, zr_pL, zr_pR, zr_pO, zr_pV, zq_pA0, zq_pA, zr_get, zr_put_n, zr_put, zr_rem_n, zr_rem, zr_cat_i, zr_cat_l, zr_cat_q, zr_w_n, zr_w, zr_args_n, zr_args, zr_tl_s, zr_tl_n, zr_hIsI, zr_hLsL, zr_hRsR, zr_hIsL, zr_hIsR, zr_hLsI, zr_hLsR, zr_hRsI, zr_hRsL, zr_hNsI, zr_hNsL, zr_hNsR, zr_hZsI, zr_hZsL, zr_hZsR, b2_01, Classical.not_not, Int32.toInt_toInt64, Int64.reduceToInt, zc_1000, zc_100, zc_10, zc_9, zc_2, ci_f, hM, mR_1, aLen_301, aCod_301, ma_1 e, mR_2, aLen_302, aCod_302, ma_2 e, mR_3, aLen_303, aCod_303, mb_3 e, ki]
                      have ei : i = o_sz S s := by omega
                      subst ei
                      have hn9 : o_tN S k s = o_tn (mA S 23 (ci k)) (mA S 22 (ci k)) (mB S 3) (60 * ci s) (o_sz S s) := rfl
                      refine ql' ?_ (by repeat (first | exact z_sC.rf | exact hsc | refine z_sC.I ?_ (by decide) | refine z_sC.L ?_ (by decide))) hM'
                      simp only [mv_thr, e]
                      unfold o_weighed
                      (repeat' split) <;> (first | rfl | (exfalso; omega))
                  · try simp only [b2_0, Classical.not_not] at qc25
                    try simp only [Int64.le_iff_toInt_le, Int64.lt_iff_toInt_lt, Int32.lt_iff_toInt_lt, Int32.le_iff_toInt_le, Int32.toInt_toInt64, Int64.reduceToInt, Int32.reduceToInt, Int.reduceNeg, Classical.not_not, i32e, l_add, i64e] at qc25
                    refine st b_X12_weighed_203 _ _ k_X12_weighed_203 _ _ _ _ _ ?_
                    simp only [b_X12_weighed_203, zr_T, zr_lret, zr_rt_a, zr_rt_i, zr_rt_l, zr_rt_n, zr_rt_z, zr_nil, zr_cons, ↓reduceIte, Nat.reduceAdd, Nat.reduceEqDiff, Nat.reduceLeDiff, Nat.reduceMul, Nat.reduceSub, Int32.reduceOfInt, Int64.reduceOfInt, Int64.reduceOfNat, true_and, and_true, false_and, and_false, or_false, false_or, true_or, or_true, Int.reduceEq, reduceCtorEq, or_self, and_self, ne_eq, not_false_eq_true, not_true_eq_false, eq_self, Nat.le_refl, Nat.zero_le, zr_eI, zr_eL, zr_eR, zr_pI, zr_pL, zr_pR, zr_pO, zr_pV, zq_pA0, zq_pA, zr_get, zr_put_n, zr_put, zr_rem_n, zr_rem, zr_cat_i, zr_cat_l, zr_cat_q, zr_w_n, zr_w, zr_args_n, zr_args, zr_tl_s, zr_tl_n, zr_hIsI, zr_hLsL, zr_hRsR, zr_hIsL, zr_hIsR, zr_hLsI, zr_hLsR, zr_hRsI, zr_hRsL, zr_hNsI, zr_hNsL, zr_hNsR, zr_hZsI, zr_hZsL, zr_hZsR, b2_01, Classical.not_not, Int32.toInt_toInt64, Int64.reduceToInt, zc_1000, zc_100, zc_10, zc_9, zc_2, ci_f, hM, mR_1, aLen_301, aCod_301, ma_1 e, mR_2, aLen_302, aCod_302, ma_2 e, mR_3, aLen_303, aCod_303, mb_3 e, ki]
                    have ei : i = o_sz S s := by omega
                    subst ei
                    have hn9 : o_tN S k s = o_tn (mA S 23 (ci k)) (mA S 22 (ci k)) (mB S 3) (60 * ci s) (o_sz S s) := rfl
                    refine ql' ?_ (by repeat (first | exact z_sC.rf | exact hsc | refine z_sC.I ?_ (by decide) | refine z_sC.L ?_ (by decide))) hM'
                    simp only [mv_thr, e]
                    unfold o_weighed
                    (repeat' split) <;> (first | rfl | (exfalso; omega))
                · try simp only [b2_0, Classical.not_not] at qc24
                  try simp only [Int64.le_iff_toInt_le, Int64.lt_iff_toInt_lt, Int32.lt_iff_toInt_lt, Int32.le_iff_toInt_le, Int32.toInt_toInt64, Int64.reduceToInt, Int32.reduceToInt, Int.reduceNeg, Classical.not_not, i32e, l_add, i64e] at qc24
                  refine st b_X12_weighed_203 _ _ k_X12_weighed_203 _ _ _ _ _ ?_
                  simp only [b_X12_weighed_203, zr_T, zr_lret, zr_rt_a, zr_rt_i, zr_rt_l, zr_rt_n, zr_rt_z, zr_nil, zr_cons, ↓reduceIte, Nat.reduceAdd, Nat.reduceEqDiff, Nat.reduceLeDiff, Nat.reduceMul, Nat.reduceSub, Int32.reduceOfInt, Int64.reduceOfInt, Int64.reduceOfNat, true_and, and_true, false_and, and_false, or_false, false_or, true_or, or_true, Int.reduceEq, reduceCtorEq, or_self, and_self, ne_eq, not_false_eq_true, not_true_eq_false, eq_self, Nat.le_refl, Nat.zero_le, zr_eI, zr_eL, zr_eR, zr_pI, zr_pL, zr_pR, zr_pO, zr_pV, zq_pA0, zq_pA, zr_get, zr_put_n, zr_put, zr_rem_n, zr_rem, zr_cat_i, zr_cat_l, zr_cat_q, zr_w_n, zr_w, zr_args_n, zr_args, zr_tl_s, zr_tl_n, zr_hIsI, zr_hLsL, zr_hRsR, zr_hIsL, zr_hIsR, zr_hLsI, zr_hLsR, zr_hRsI, zr_hRsL, zr_hNsI, zr_hNsL, zr_hNsR, zr_hZsI, zr_hZsL, zr_hZsR, b2_01, Classical.not_not, Int32.toInt_toInt64, Int64.reduceToInt, zc_1000, zc_100, zc_10, zc_9, zc_2, ci_f, hM, mR_1, aLen_301, aCod_301, ma_1 e, mR_2, aLen_302, aCod_302, ma_2 e, mR_3, aLen_303, aCod_303, mb_3 e, ki]
                  have ei : i = o_sz S s := by omega
                  subst ei
                  have hn9 : o_tN S k s = o_tn (mA S 23 (ci k)) (mA S 22 (ci k)) (mB S 3) (60 * ci s) (o_sz S s) := rfl
                  refine ql' ?_ (by repeat (first | exact z_sC.rf | exact hsc | refine z_sC.I ?_ (by decide) | refine z_sC.L ?_ (by decide))) hM'
                  simp only [mv_thr, e]
                  unfold o_weighed
                  (repeat' split) <;> (first | rfl | (exfalso; omega))
              · try simp only [b2_0, Classical.not_not] at qc23
                try simp only [Int64.le_iff_toInt_le, Int64.lt_iff_toInt_lt, Int32.lt_iff_toInt_lt, Int32.le_iff_toInt_le, Int32.toInt_toInt64, Int64.reduceToInt, Int32.reduceToInt, Int.reduceNeg, Classical.not_not, i32e, l_add, i64e] at qc23
                refine st b_X12_weighed_203 _ _ k_X12_weighed_203 _ _ _ _ _ ?_
                simp only [b_X12_weighed_203, zr_T, zr_lret, zr_rt_a, zr_rt_i, zr_rt_l, zr_rt_n, zr_rt_z, zr_nil, zr_cons, ↓reduceIte, Nat.reduceAdd, Nat.reduceEqDiff, Nat.reduceLeDiff, Nat.reduceMul, Nat.reduceSub, Int32.reduceOfInt, Int64.reduceOfInt, Int64.reduceOfNat, true_and, and_true, false_and, and_false, or_false, false_or, true_or, or_true, Int.reduceEq, reduceCtorEq, or_self, and_self, ne_eq, not_false_eq_true, not_true_eq_false, eq_self, Nat.le_refl, Nat.zero_le, zr_eI, zr_eL, zr_eR, zr_pI, zr_pL, zr_pR, zr_pO, zr_pV, zq_pA0, zq_pA, zr_get, zr_put_n, zr_put, zr_rem_n, zr_rem, zr_cat_i, zr_cat_l, zr_cat_q, zr_w_n, zr_w, zr_args_n, zr_args, zr_tl_s, zr_tl_n, zr_hIsI, zr_hLsL, zr_hRsR, zr_hIsL, zr_hIsR, zr_hLsI, zr_hLsR, zr_hRsI, zr_hRsL, zr_hNsI, zr_hNsL, zr_hNsR, zr_hZsI, zr_hZsL, zr_hZsR, b2_01, Classical.not_not, Int32.toInt_toInt64, Int64.reduceToInt, zc_1000, zc_100, zc_10, zc_9, zc_2, ci_f, hM, mR_1, aLen_301, aCod_301, ma_1 e, mR_2, aLen_302, aCod_302, ma_2 e, mR_3, aLen_303, aCod_303, mb_3 e, ki]
                have ei : i = o_sz S s := by omega
                subst ei
                have hn9 : o_tN S k s = o_tn (mA S 23 (ci k)) (mA S 22 (ci k)) (mB S 3) (60 * ci s) (o_sz S s) := rfl
                refine ql' ?_ (by repeat (first | exact z_sC.rf | exact hsc | refine z_sC.I ?_ (by decide) | refine z_sC.L ?_ (by decide))) hM'
                simp only [mv_thr, e]
                unfold o_weighed
                (repeat' split) <;> (first | rfl | (exfalso; omega))
            · try simp only [b2_0, Classical.not_not] at qc22
              try simp only [Int64.le_iff_toInt_le, Int64.lt_iff_toInt_lt, Int32.lt_iff_toInt_lt, Int32.le_iff_toInt_le, Int32.toInt_toInt64, Int64.reduceToInt, Int32.reduceToInt, Int.reduceNeg, Classical.not_not, i32e, l_add, i64e] at qc22
              refine ⟨fun qc27 => ?_, fun qc27 => ?_⟩
              · try simp only [b2_0, Classical.not_not] at qc27
                try simp only [Int64.le_iff_toInt_le, Int64.lt_iff_toInt_lt, Int32.lt_iff_toInt_lt, Int32.le_iff_toInt_le, Int32.toInt_toInt64, Int64.reduceToInt, Int32.reduceToInt, Int.reduceNeg, Classical.not_not, i32e, l_add, i64e] at qc27
                refine st b_X12_weighed_157 _ _ k_X12_weighed_157 _ _ _ _ _ ?_
                simp only [b_X12_weighed_157, zr_cP_ne, zr_goto, zr_ifc, zr_iload_n3, zr_lload, zr_nil, zr_cons, ↓reduceIte, Nat.reduceAdd, Nat.reduceEqDiff, Nat.reduceLeDiff, Nat.reduceMul, Nat.reduceSub, Int32.reduceOfInt, Int64.reduceOfInt, Int64.reduceOfNat, true_and, and_true, false_and, and_false, or_false, false_or, true_or, or_true, Int.reduceEq, reduceCtorEq, or_self, and_self, ne_eq, not_false_eq_true, not_true_eq_false, eq_self, Nat.le_refl, Nat.zero_le, zr_eI, zr_eL, zr_eR, zr_pI, zr_pL, zr_pR, zr_pO, zr_pV, zq_pA0, zq_pA, zr_get, zr_put_n, zr_put, zr_rem_n, zr_rem, zr_cat_i, zr_cat_l, zr_cat_q, zr_w_n, zr_w, zr_args_n, zr_args, zr_tl_s, zr_tl_n, zr_hIsI, zr_hLsL, zr_hRsR, zr_hIsL, zr_hIsR, zr_hLsI, zr_hLsR, zr_hRsI, zr_hRsL, zr_hNsI, zr_hNsL, zr_hNsR, zr_hZsI, zr_hZsL, zr_hZsR, b2_01, Classical.not_not, Int32.toInt_toInt64, Int64.reduceToInt, zc_1000, zc_100, zc_10, zc_9, zc_2, ci_f, hM, mR_1, aLen_301, aCod_301, ma_1 e, mR_2, aLen_302, aCod_302, ma_2 e, mR_3, aLen_303, aCod_303, mb_3 e, ki]
                refine ⟨fun qc28 => ?_, fun qc28 => ?_⟩
                · try simp only [b2_0, Classical.not_not] at qc28
                  try simp only [Int64.le_iff_toInt_le, Int64.lt_iff_toInt_lt, Int32.lt_iff_toInt_lt, Int32.le_iff_toInt_le, Int32.toInt_toInt64, Int64.reduceToInt, Int32.reduceToInt, Int.reduceNeg, Classical.not_not, i32e, l_add, i64e] at qc28
                  refine st b_X12_weighed_166 _ _ k_X12_weighed_166 _ _ _ _ _ ?_
                  simp only [b_X12_weighed_166, zr_cP_ne, zr_goto, zr_icmp, zr_iconst, zr_iload_n3, zr_lload, zr_nil, zr_cons, ↓reduceIte, Nat.reduceAdd, Nat.reduceEqDiff, Nat.reduceLeDiff, Nat.reduceMul, Nat.reduceSub, Int32.reduceOfInt, Int64.reduceOfInt, Int64.reduceOfNat, true_and, and_true, false_and, and_false, or_false, false_or, true_or, or_true, Int.reduceEq, reduceCtorEq, or_self, and_self, ne_eq, not_false_eq_true, not_true_eq_false, eq_self, Nat.le_refl, Nat.zero_le, zr_eI, zr_eL, zr_eR, zr_pI, zr_pL, zr_pR, zr_pO, zr_pV, zq_pA0, zq_pA, zr_get, zr_put_n, zr_put, zr_rem_n, zr_rem, zr_cat_i, zr_cat_l, zr_cat_q, zr_w_n, zr_w, zr_args_n, zr_args, zr_tl_s, zr_tl_n, zr_hIsI, zr_hLsL, zr_hRsR, zr_hIsL, zr_hIsR, zr_hLsI, zr_hLsR, zr_hRsI, zr_hRsL, zr_hNsI, zr_hNsL, zr_hNsR, zr_hZsI, zr_hZsL, zr_hZsR, b2_01, Classical.not_not, Int32.toInt_toInt64, Int64.reduceToInt, zc_1000, zc_100, zc_10, zc_9, zc_2, ci_f, hM, mR_1, aLen_301, aCod_301, ma_1 e, mR_2, aLen_302, aCod_302, ma_2 e, mR_3, aLen_303, aCod_303, mb_3 e, ki]
                  refine ⟨fun qc29 => ?_, fun qc29 => ?_⟩
                  · try simp only [b2_0, Classical.not_not] at qc29
                    try simp only [Int64.le_iff_toInt_le, Int64.lt_iff_toInt_lt, Int32.lt_iff_toInt_lt, Int32.le_iff_toInt_le, Int32.toInt_toInt64, Int64.reduceToInt, Int32.reduceToInt, Int.reduceNeg, Classical.not_not, i32e, l_add, i64e] at qc29
                    refine st b_X12_weighed_176 _ _ k_X12_weighed_176 _ _ _ _ _ ?_
                    simp only [b_X12_weighed_176, zr_cP_ne, zr_goto, zr_icmp, zr_iconst, zr_iload_n3, zr_lload, zr_nil, zr_cons, ↓reduceIte, Nat.reduceAdd, Nat.reduceEqDiff, Nat.reduceLeDiff, Nat.reduceMul, Nat.reduceSub, Int32.reduceOfInt, Int64.reduceOfInt, Int64.reduceOfNat, true_and, and_true, false_and, and_false, or_false, false_or, true_or, or_true, Int.reduceEq, reduceCtorEq, or_self, and_self, ne_eq, not_false_eq_true, not_true_eq_false, eq_self, Nat.le_refl, Nat.zero_le, zr_eI, zr_eL, zr_eR, zr_pI, zr_pL, zr_pR, zr_pO, zr_pV, zq_pA0, zq_pA, zr_get, zr_put_n, zr_put, zr_rem_n, zr_rem, zr_cat_i, zr_cat_l, zr_cat_q, zr_w_n, zr_w, zr_args_n, zr_args, zr_tl_s, zr_tl_n, zr_hIsI, zr_hLsL, zr_hRsR, zr_hIsL, zr_hIsR, zr_hLsI, zr_hLsR, zr_hRsI, zr_hRsL, zr_hNsI, zr_hNsL, zr_hNsR, zr_hZsI, zr_hZsL, zr_hZsR, b2_01, Classical.not_not, Int32.toInt_toInt64, Int64.reduceToInt, zc_1000, zc_100, zc_10, zc_9, zc_2, ci_f, hM, mR_1, aLen_301, aCod_301, ma_1 e, mR_2, aLen_302, aCod_302, ma_2 e, mR_3, aLen_303, aCod_303, mb_3 e, ki]
                    refine ⟨fun qc30 => ?_, fun qc30 => ?_⟩
                    · try simp only [b2_0, Classical.not_not] at qc30
                      try simp only [Int64.le_iff_toInt_le, Int64.lt_iff_toInt_lt, Int32.lt_iff_toInt_lt, Int32.le_iff_toInt_le, Int32.toInt_toInt64, Int64.reduceToInt, Int32.reduceToInt, Int.reduceNeg, Classical.not_not, i32e, l_add, i64e] at qc30
                      refine st b_X12_weighed_186 _ _ k_X12_weighed_186 _ _ _ _ _ ?_
                      simp only [b_X12_weighed_186, zr_cP_ne, zr_goto, zr_icmp, zr_iconst, zr_iload_n3, zr_lload, zr_nil, zr_cons, ↓reduceIte, Nat.reduceAdd, Nat.reduceEqDiff, Nat.reduceLeDiff, Nat.reduceMul, Nat.reduceSub, Int32.reduceOfInt, Int64.reduceOfInt, Int64.reduceOfNat, true_and, and_true, false_and, and_false, or_false, false_or, true_or, or_true, Int.reduceEq, reduceCtorEq, or_self, and_self, ne_eq, not_false_eq_true, not_true_eq_false, eq_self, Nat.le_refl, Nat.zero_le, zr_eI, zr_eL, zr_eR, zr_pI, zr_pL, zr_pR, zr_pO, zr_pV, zq_pA0, zq_pA, zr_get, zr_put_n, zr_put, zr_rem_n, zr_rem, zr_cat_i, zr_cat_l, zr_cat_q, zr_w_n, zr_w, zr_args_n, zr_args, zr_tl_s, zr_tl_n, zr_hIsI, zr_hLsL, zr_hRsR, zr_hIsL, zr_hIsR, zr_hLsI, zr_hLsR, zr_hRsI, zr_hRsL, zr_hNsI, zr_hNsL, zr_hNsR, zr_hZsI, zr_hZsL, zr_hZsR, b2_01, Classical.not_not, Int32.toInt_toInt64, Int64.reduceToInt, zc_1000, zc_100, zc_10, zc_9, zc_2, ci_f, hM, mR_1, aLen_301, aCod_301, ma_1 e, mR_2, aLen_302, aCod_302, ma_2 e, mR_3, aLen_303, aCod_303, mb_3 e, ki]
                      refine ⟨fun qc31 => ?_, fun qc31 => ?_⟩
                      · try simp only [b2_0, Classical.not_not] at qc31
                        try simp only [Int64.le_iff_toInt_le, Int64.lt_iff_toInt_lt, Int32.lt_iff_toInt_lt, Int32.le_iff_toInt_le, Int32.toInt_toInt64, Int64.reduceToInt, Int32.reduceToInt, Int.reduceNeg, Classical.not_not, i32e, l_add, i64e] at qc31
                        refine st b_X12_weighed_196 _ _ k_X12_weighed_196 _ _ _ _ _ ?_
                        simp only [b_X12_weighed_196, zr_aload_n0, zr_call0, zr_iload_n1, zr_lload, zr_nil, zr_cons, ↓reduceIte, Nat.reduceAdd, Nat.reduceEqDiff, Nat.reduceLeDiff, Nat.reduceMul, Nat.reduceSub, Int32.reduceOfInt, Int64.reduceOfInt, Int64.reduceOfNat, true_and, and_true, false_and, and_false, or_false, false_or, true_or, or_true, Int.reduceEq, reduceCtorEq, or_self, and_self, ne_eq, not_false_eq_true, not_true_eq_false, eq_self, Nat.le_refl, Nat.zero_le, zr_eI, zr_eL, zr_eR, zr_pI, zr_pL, zr_pR, zr_pO, zr_pV, zq_pA0, zq_pA, zr_get, zr_put_n, zr_put, zr_rem_n, zr_rem, zr_cat_i, zr_cat_l, zr_cat_q, zr_w_n, zr_w, zr_args_n, zr_args, zr_tl_s, zr_tl_n, zr_hIsI, zr_hLsL, zr_hRsR, zr_hIsL, zr_hIsR, zr_hLsI, zr_hLsR, zr_hRsI, zr_hRsL, zr_hNsI, zr_hNsL, zr_hNsR, zr_hZsI, zr_hZsL, zr_hZsR, b2_01, Classical.not_not, Int32.toInt_toInt64, Int64.reduceToInt, zc_1000, zc_100, zc_10, zc_9, zc_2, ci_f, hM, mR_1, aLen_301, aCod_301, ma_1 e, mR_2, aLen_302, aCod_302, ma_2 e, mR_3, aLen_303, aCod_303, mb_3 e, ki]
                        refine cp0 (by omega) lk_X12_239 (rc_14 rfl) (m_bookOf l G _ S _ (by simp only [mv_thr, e]) (z_MR.I hM') inv _ (by omega) _) (Nat.le_refl _) (Nat.le_refl _) ?_
                        simp only [zr_nil, zr_cons, ↓reduceIte, Nat.reduceAdd, Nat.reduceEqDiff, Nat.reduceLeDiff, Nat.reduceMul, Nat.reduceSub, Int32.reduceOfInt, Int64.reduceOfInt, Int64.reduceOfNat, true_and, and_true, false_and, and_false, or_false, false_or, true_or, or_true, Int.reduceEq, reduceCtorEq, or_self, and_self, ne_eq, not_false_eq_true, not_true_eq_false, eq_self, Nat.le_refl, Nat.zero_le, zr_eI, zr_eL, zr_eR, zr_pI, zr_pL, zr_pR, zr_pO, zr_pV, zq_pA0, zq_pA, zr_get, zr_put_n, zr_put, zr_rem_n, zr_rem, zr_cat_i, zr_cat_l, zr_cat_q, zr_w_n, zr_w, zr_args_n, zr_args, zr_tl_s, zr_tl_n, zr_hIsI, zr_hLsL, zr_hRsR, zr_hIsL, zr_hIsR, zr_hLsI, zr_hLsR, zr_hRsI, zr_hRsL, zr_hNsI, zr_hNsL, zr_hNsR, zr_hZsI, zr_hZsL, zr_hZsR, b2_01, Classical.not_not, Int32.toInt_toInt64, Int64.reduceToInt, zc_1000, zc_100, zc_10, zc_9, zc_2, ci_f, hM, mR_1, aLen_301, aCod_301, ma_1 e, mR_2, aLen_302, aCod_302, ma_2 e, mR_3, aLen_303, aCod_303, mb_3 e, ki]
                        refine st b_X12_weighed_203 _ _ k_X12_weighed_203 _ _ _ _ _ ?_
                        simp only [b_X12_weighed_203, zr_T, zr_lret, zr_rt_a, zr_rt_i, zr_rt_l, zr_rt_n, zr_rt_z, zr_nil, zr_cons, ↓reduceIte, Nat.reduceAdd, Nat.reduceEqDiff, Nat.reduceLeDiff, Nat.reduceMul, Nat.reduceSub, Int32.reduceOfInt, Int64.reduceOfInt, Int64.reduceOfNat, true_and, and_true, false_and, and_false, or_false, false_or, true_or, or_true, Int.reduceEq, reduceCtorEq, or_self, and_self, ne_eq, not_false_eq_true, not_true_eq_false, eq_self, Nat.le_refl, Nat.zero_le, zr_eI, zr_eL, zr_eR, zr_pI, zr_pL, zr_pR, zr_pO, zr_pV, zq_pA0, zq_pA, zr_get, zr_put_n, zr_put, zr_rem_n, zr_rem, zr_cat_i, zr_cat_l, zr_cat_q, zr_w_n, zr_w, zr_args_n, zr_args, zr_tl_s, zr_tl_n, zr_hIsI, zr_hLsL, zr_hRsR, zr_hIsL, zr_hIsR, zr_hLsI, zr_hLsR, zr_hRsI, zr_hRsL, zr_hNsI, zr_hNsL, zr_hNsR, zr_hZsI, zr_hZsL, zr_hZsR, b2_01, Classical.not_not, Int32.toInt_toInt64, Int64.reduceToInt, zc_1000, zc_100, zc_10, zc_9, zc_2, ci_f, hM, mR_1, aLen_301, aCod_301, ma_1 e, mR_2, aLen_302, aCod_302, ma_2 e, mR_3, aLen_303, aCod_303, mb_3 e, ki]
                        have ei : i = o_sz S s := by omega
                        subst ei
                        have hn9 : o_tN S k s = o_tn (mA S 23 (ci k)) (mA S 22 (ci k)) (mB S 3) (60 * ci s) (o_sz S s) := rfl
                        refine ql' ?_ (by repeat (first | exact z_sC.rf | exact hsc | refine z_sC.I ?_ (by decide) | refine z_sC.L ?_ (by decide))) hM'
                        simp only [mv_thr, e]
                        unfold o_weighed
                        (repeat' split) <;> (first | rfl | (exfalso; omega))
                      · try simp only [b2_0, Classical.not_not] at qc31
                        try simp only [Int64.le_iff_toInt_le, Int64.lt_iff_toInt_lt, Int32.lt_iff_toInt_lt, Int32.le_iff_toInt_le, Int32.toInt_toInt64, Int64.reduceToInt, Int32.reduceToInt, Int.reduceNeg, Classical.not_not, i32e, l_add, i64e] at qc31
                        refine st b_X12_weighed_203 _ _ k_X12_weighed_203 _ _ _ _ _ ?_
                        simp only [b_X12_weighed_203, zr_T, zr_lret, zr_rt_a, zr_rt_i, zr_rt_l, zr_rt_n, zr_rt_z, zr_nil, zr_cons, ↓reduceIte, Nat.reduceAdd, Nat.reduceEqDiff, Nat.reduceLeDiff, Nat.reduceMul, Nat.reduceSub, Int32.reduceOfInt, Int64.reduceOfInt, Int64.reduceOfNat, true_and, and_true, false_and, and_false, or_false, false_or, true_or, or_true, Int.reduceEq, reduceCtorEq, or_self, and_self, ne_eq, not_false_eq_true, not_true_eq_false, eq_self, Nat.le_refl, Nat.zero_le, zr_eI, zr_eL, zr_eR, zr_pI, zr_pL, zr_pR, zr_pO, zr_pV, zq_pA0, zq_pA, zr_get, zr_put_n, zr_put, zr_rem_n, zr_rem, zr_cat_i, zr_cat_l, zr_cat_q, zr_w_n, zr_w, zr_args_n, zr_args, zr_tl_s, zr_tl_n, zr_hIsI, zr_hLsL, zr_hRsR, zr_hIsL, zr_hIsR, zr_hLsI, zr_hLsR, zr_hRsI, zr_hRsL, zr_hNsI, zr_hNsL, zr_hNsR, zr_hZsI, zr_hZsL, zr_hZsR, b2_01, Classical.not_not, Int32.toInt_toInt64, Int64.reduceToInt, zc_1000, zc_100, zc_10, zc_9, zc_2, ci_f, hM, mR_1, aLen_301, aCod_301, ma_1 e, mR_2, aLen_302, aCod_302, ma_2 e, mR_3, aLen_303, aCod_303, mb_3 e, ki]
                        have ei : i = o_sz S s := by omega
                        subst ei
                        have hn9 : o_tN S k s = o_tn (mA S 23 (ci k)) (mA S 22 (ci k)) (mB S 3) (60 * ci s) (o_sz S s) := rfl
                        refine ql' ?_ (by repeat (first | exact z_sC.rf | exact hsc | refine z_sC.I ?_ (by decide) | refine z_sC.L ?_ (by decide))) hM'
                        simp only [mv_thr, e]
                        unfold o_weighed
                        (repeat' split) <;> (first | rfl | (exfalso; omega))
                    · try simp only [b2_0, Classical.not_not] at qc30
                      try simp only [Int64.le_iff_toInt_le, Int64.lt_iff_toInt_lt, Int32.lt_iff_toInt_lt, Int32.le_iff_toInt_le, Int32.toInt_toInt64, Int64.reduceToInt, Int32.reduceToInt, Int.reduceNeg, Classical.not_not, i32e, l_add, i64e] at qc30
                      refine st b_X12_weighed_203 _ _ k_X12_weighed_203 _ _ _ _ _ ?_
                      simp only [b_X12_weighed_203, zr_T, zr_lret, zr_rt_a, zr_rt_i, zr_rt_l, zr_rt_n, zr_rt_z, zr_nil, zr_cons, ↓reduceIte, Nat.reduceAdd, Nat.reduceEqDiff, Nat.reduceLeDiff, Nat.reduceMul, Nat.reduceSub, Int32.reduceOfInt, Int64.reduceOfInt, Int64.reduceOfNat, true_and, and_true, false_and, and_false, or_false, false_or, true_or, or_true, Int.reduceEq, reduceCtorEq, or_self, and_self, ne_eq, not_false_eq_true, not_true_eq_false, eq_self, Nat.le_refl, Nat.zero_le, zr_eI, zr_eL, zr_eR, zr_pI, zr_pL, zr_pR, zr_pO, zr_pV, zq_pA0, zq_pA, zr_get, zr_put_n, zr_put, zr_rem_n, zr_rem, zr_cat_i, zr_cat_l, zr_cat_q, zr_w_n, zr_w, zr_args_n, zr_args, zr_tl_s, zr_tl_n, zr_hIsI, zr_hLsL, zr_hRsR, zr_hIsL, zr_hIsR, zr_hLsI, zr_hLsR, zr_hRsI, zr_hRsL, zr_hNsI, zr_hNsL, zr_hNsR, zr_hZsI, zr_hZsL, zr_hZsR, b2_01, Classical.not_not, Int32.toInt_toInt64, Int64.reduceToInt, zc_1000, zc_100, zc_10, zc_9, zc_2, ci_f, hM, mR_1, aLen_301, aCod_301, ma_1 e, mR_2, aLen_302, aCod_302, ma_2 e, mR_3, aLen_303, aCod_303, mb_3 e, ki]
                      have ei : i = o_sz S s := by omega
                      subst ei
                      have hn9 : o_tN S k s = o_tn (mA S 23 (ci k)) (mA S 22 (ci k)) (mB S 3) (60 * ci s) (o_sz S s) := rfl
                      refine ql' ?_ (by repeat (first | exact z_sC.rf | exact hsc | refine z_sC.I ?_ (by decide) | refine z_sC.L ?_ (by decide))) hM'
                      simp only [mv_thr, e]
                      unfold o_weighed
                      (repeat' split) <;> (first | rfl | (exfalso; omega))
                  · try simp only [b2_0, Classical.not_not] at qc29
                    try simp only [Int64.le_iff_toInt_le, Int64.lt_iff_toInt_lt, Int32.lt_iff_toInt_lt, Int32.le_iff_toInt_le, Int32.toInt_toInt64, Int64.reduceToInt, Int32.reduceToInt, Int.reduceNeg, Classical.not_not, i32e, l_add, i64e] at qc29
                    refine st b_X12_weighed_203 _ _ k_X12_weighed_203 _ _ _ _ _ ?_
                    simp only [b_X12_weighed_203, zr_T, zr_lret, zr_rt_a, zr_rt_i, zr_rt_l, zr_rt_n, zr_rt_z, zr_nil, zr_cons, ↓reduceIte, Nat.reduceAdd, Nat.reduceEqDiff, Nat.reduceLeDiff, Nat.reduceMul, Nat.reduceSub, Int32.reduceOfInt, Int64.reduceOfInt, Int64.reduceOfNat, true_and, and_true, false_and, and_false, or_false, false_or, true_or, or_true, Int.reduceEq, reduceCtorEq, or_self, and_self, ne_eq, not_false_eq_true, not_true_eq_false, eq_self, Nat.le_refl, Nat.zero_le, zr_eI, zr_eL, zr_eR, zr_pI, zr_pL, zr_pR, zr_pO, zr_pV, zq_pA0, zq_pA, zr_get, zr_put_n, zr_put, zr_rem_n, zr_rem, zr_cat_i, zr_cat_l, zr_cat_q, zr_w_n, zr_w, zr_args_n, zr_args, zr_tl_s, zr_tl_n, zr_hIsI, zr_hLsL, zr_hRsR, zr_hIsL, zr_hIsR, zr_hLsI, zr_hLsR, zr_hRsI, zr_hRsL, zr_hNsI, zr_hNsL, zr_hNsR, zr_hZsI, zr_hZsL, zr_hZsR, b2_01, Classical.not_not, Int32.toInt_toInt64, Int64.reduceToInt, zc_1000, zc_100, zc_10, zc_9, zc_2, ci_f, hM, mR_1, aLen_301, aCod_301, ma_1 e, mR_2, aLen_302, aCod_302, ma_2 e, mR_3, aLen_303, aCod_303, mb_3 e, ki]
                    have ei : i = o_sz S s := by omega
                    subst ei
                    have hn9 : o_tN S k s = o_tn (mA S 23 (ci k)) (mA S 22 (ci k)) (mB S 3) (60 * ci s) (o_sz S s) := rfl
                    refine ql' ?_ (by repeat (first | exact z_sC.rf | exact hsc | refine z_sC.I ?_ (by decide) | refine z_sC.L ?_ (by decide))) hM'
                    simp only [mv_thr, e]
                    unfold o_weighed
                    (repeat' split) <;> (first | rfl | (exfalso; omega))
                · try simp only [b2_0, Classical.not_not] at qc28
                  try simp only [Int64.le_iff_toInt_le, Int64.lt_iff_toInt_lt, Int32.lt_iff_toInt_lt, Int32.le_iff_toInt_le, Int32.toInt_toInt64, Int64.reduceToInt, Int32.reduceToInt, Int.reduceNeg, Classical.not_not, i32e, l_add, i64e] at qc28
                  refine st b_X12_weighed_203 _ _ k_X12_weighed_203 _ _ _ _ _ ?_
                  simp only [b_X12_weighed_203, zr_T, zr_lret, zr_rt_a, zr_rt_i, zr_rt_l, zr_rt_n, zr_rt_z, zr_nil, zr_cons, ↓reduceIte, Nat.reduceAdd, Nat.reduceEqDiff, Nat.reduceLeDiff, Nat.reduceMul, Nat.reduceSub, Int32.reduceOfInt, Int64.reduceOfInt, Int64.reduceOfNat, true_and, and_true, false_and, and_false, or_false, false_or, true_or, or_true, Int.reduceEq, reduceCtorEq, or_self, and_self, ne_eq, not_false_eq_true, not_true_eq_false, eq_self, Nat.le_refl, Nat.zero_le, zr_eI, zr_eL, zr_eR, zr_pI, zr_pL, zr_pR, zr_pO, zr_pV, zq_pA0, zq_pA, zr_get, zr_put_n, zr_put, zr_rem_n, zr_rem, zr_cat_i, zr_cat_l, zr_cat_q, zr_w_n, zr_w, zr_args_n, zr_args, zr_tl_s, zr_tl_n, zr_hIsI, zr_hLsL, zr_hRsR, zr_hIsL, zr_hIsR, zr_hLsI, zr_hLsR, zr_hRsI, zr_hRsL, zr_hNsI, zr_hNsL, zr_hNsR, zr_hZsI, zr_hZsL, zr_hZsR, b2_01, Classical.not_not, Int32.toInt_toInt64, Int64.reduceToInt, zc_1000, zc_100, zc_10, zc_9, zc_2, ci_f, hM, mR_1, aLen_301, aCod_301, ma_1 e, mR_2, aLen_302, aCod_302, ma_2 e, mR_3, aLen_303, aCod_303, mb_3 e, ki]
                  have ei : i = o_sz S s := by omega
                  subst ei
                  have hn9 : o_tN S k s = o_tn (mA S 23 (ci k)) (mA S 22 (ci k)) (mB S 3) (60 * ci s) (o_sz S s) := rfl
                  refine ql' ?_ (by repeat (first | exact z_sC.rf | exact hsc | refine z_sC.I ?_ (by decide) | refine z_sC.L ?_ (by decide))) hM'
                  simp only [mv_thr, e]
                  unfold o_weighed
                  (repeat' split) <;> (first | rfl | (exfalso; omega))
              · try simp only [b2_0, Classical.not_not] at qc27
                try simp only [Int64.le_iff_toInt_le, Int64.lt_iff_toInt_lt, Int32.lt_iff_toInt_lt, Int32.le_iff_toInt_le, Int32.toInt_toInt64, Int64.reduceToInt, Int32.reduceToInt, Int.reduceNeg, Classical.not_not, i32e, l_add, i64e] at qc27
                have ei : i = o_sz S s := by omega
                subst ei
                have hn9 : o_tN S k s = o_tn (mA S 23 (ci k)) (mA S 22 (ci k)) (mB S 3) (60 * ci s) (o_sz S s) := rfl
                refine ql' ?_ (by repeat (first | exact z_sC.rf | exact hsc | refine z_sC.I ?_ (by decide) | refine z_sC.L ?_ (by decide))) hM'
                simp only [mv_thr, e]
                unfold o_weighed
                (repeat' split) <;> (first | rfl | (exfalso; omega))
          · try simp only [b2_0, Classical.not_not] at qc21
            try simp only [Int64.le_iff_toInt_le, Int64.lt_iff_toInt_lt, Int32.lt_iff_toInt_lt, Int32.le_iff_toInt_le, Int32.toInt_toInt64, Int64.reduceToInt, Int32.reduceToInt, Int.reduceNeg, Classical.not_not, i32e, l_add, i64e] at qc21
            rw [show (60 : Int32) * s + nI i = nI (60 * ci s + i) from by rw [← ix60, ← ci_e (by omega)]]
            simp only [nI_clampS (show 60 * ci s + i < 2000000000 by omega)]
            refine ⟨by first | exact vpi (by omega) | with_reducible exact vp_in_nI (by omega) (by omega), ?_⟩
            refine cp0 (by omega) lk_X12_235 (rc_14 rfl) (m_isTaken l G _ (by omega) S _ (by simp only [mv_thr, e]) (z_MR.I hM') inv _ (by omega) _) (Nat.le_refl _) (Nat.le_refl _) ?_
            simp only [zr_cP_ne, zr_goto, zr_ifc, zr_nil, zr_cons, ↓reduceIte, Nat.reduceAdd, Nat.reduceEqDiff, Nat.reduceLeDiff, Nat.reduceMul, Nat.reduceSub, Int32.reduceOfInt, Int64.reduceOfInt, Int64.reduceOfNat, true_and, and_true, false_and, and_false, or_false, false_or, true_or, or_true, Int.reduceEq, reduceCtorEq, or_self, and_self, ne_eq, not_false_eq_true, not_true_eq_false, eq_self, Nat.le_refl, Nat.zero_le, zr_eI, zr_eL, zr_eR, zr_pI, zr_pL, zr_pR, zr_pO, zr_pV, zq_pA0, zq_pA, zr_get, zr_put_n, zr_put, zr_rem_n, zr_rem, zr_cat_i, zr_cat_l, zr_cat_q, zr_w_n, zr_w, zr_args_n, zr_args, zr_tl_s, zr_tl_n, zr_hIsI, zr_hLsL, zr_hRsR, zr_hIsL, zr_hIsR, zr_hLsI, zr_hLsR, zr_hRsI, zr_hRsL, zr_hNsI, zr_hNsL, zr_hNsR, zr_hZsI, zr_hZsL, zr_hZsR, b2_01, Classical.not_not, Int32.toInt_toInt64, Int64.reduceToInt, zc_1000, zc_100, zc_10, zc_9, zc_2, ci_f, hM, mR_1, aLen_301, aCod_301, ma_1 e, mR_2, aLen_302, aCod_302, ma_2 e, mR_3, aLen_303, aCod_303, mb_3 e, ki]
            refine ⟨fun qc32 => ?_, fun qc32 => ?_⟩
            · try simp only [b2_0, Classical.not_not] at qc32
              try simp only [Int64.le_iff_toInt_le, Int64.lt_iff_toInt_lt, Int32.lt_iff_toInt_lt, Int32.le_iff_toInt_le, Int32.toInt_toInt64, Int64.reduceToInt, Int32.reduceToInt, Int.reduceNeg, Classical.not_not, i32e, l_add, i64e] at qc32
              refine st b_X12_weighed_104 _ _ k_X12_weighed_104 _ _ _ _ _ ?_
              simp only [b_X12_weighed_104, zr_call1, zr_ladd, zr_lconst1, zr_lload, zr_lstore, zr_nil, zr_cons, ↓reduceIte, Nat.reduceAdd, Nat.reduceEqDiff, Nat.reduceLeDiff, Nat.reduceMul, Nat.reduceSub, Int32.reduceOfInt, Int64.reduceOfInt, Int64.reduceOfNat, true_and, and_true, false_and, and_false, or_false, false_or, true_or, or_true, Int.reduceEq, reduceCtorEq, or_self, and_self, ne_eq, not_false_eq_true, not_true_eq_false, eq_self, Nat.le_refl, Nat.zero_le, zr_eI, zr_eL, zr_eR, zr_pI, zr_pL, zr_pR, zr_pO, zr_pV, zq_pA0, zq_pA, zr_get, zr_put_n, zr_put, zr_rem_n, zr_rem, zr_cat_i, zr_cat_l, zr_cat_q, zr_w_n, zr_w, zr_args_n, zr_args, zr_tl_s, zr_tl_n, zr_hIsI, zr_hLsL, zr_hRsR, zr_hIsL, zr_hIsR, zr_hLsI, zr_hLsR, zr_hRsI, zr_hRsL, zr_hNsI, zr_hNsL, zr_hNsR, zr_hZsI, zr_hZsL, zr_hZsR, b2_01, Classical.not_not, Int32.toInt_toInt64, Int64.reduceToInt, zc_1000, zc_100, zc_10, zc_9, zc_2, ci_f, hM, mR_1, aLen_301, aCod_301, ma_1 e, mR_2, aLen_302, aCod_302, ma_2 e, mR_3, aLen_303, aCod_303, mb_3 e, ki]
              refine cp_lmin (by omega) lk_X12_283.2 (Nat.le_refl _) (Nat.le_refl _) ?_
              simp only [zr_call1, zr_ladd, zr_lconst1, zr_lload, zr_lstore, zr_nil, zr_cons, ↓reduceIte, Nat.reduceAdd, Nat.reduceEqDiff, Nat.reduceLeDiff, Nat.reduceMul, Nat.reduceSub, Int32.reduceOfInt, Int64.reduceOfInt, Int64.reduceOfNat, true_and, and_true, false_and, and_false, or_false, false_or, true_or, or_true, Int.reduceEq, reduceCtorEq, or_self, and_self, ne_eq, not_false_eq_true, not_true_eq_false, eq_self, Nat.le_refl, Nat.zero_le, zr_eI, zr_eL, zr_eR, zr_pI, zr_pL, zr_pR, zr_pO, zr_pV, zq_pA0, zq_pA, zr_get, zr_put_n, zr_put, zr_rem_n, zr_rem, zr_cat_i, zr_cat_l, zr_cat_q, zr_w_n, zr_w, zr_args_n, zr_args, zr_tl_s, zr_tl_n, zr_hIsI, zr_hLsL, zr_hRsR, zr_hIsL, zr_hIsR, zr_hLsI, zr_hLsR, zr_hRsI, zr_hRsL, zr_hNsI, zr_hNsL, zr_hNsR, zr_hZsI, zr_hZsL, zr_hZsR, b2_01, Classical.not_not, Int32.toInt_toInt64, Int64.reduceToInt, zc_1000, zc_100, zc_10, zc_9, zc_2, ci_f, hM, mR_1, aLen_301, aCod_301, ma_1 e, mR_2, aLen_302, aCod_302, ma_2 e, mR_3, aLen_303, aCod_303, mb_3 e, ki]
              refine cp_lmax (by omega) lk_X12_296.2 (Nat.le_refl _) (Nat.le_refl _) ?_
              simp only [zr_ladd, zr_lconst1, zr_lload, zr_lstore, zr_nil, zr_cons, ↓reduceIte, Nat.reduceAdd, Nat.reduceEqDiff, Nat.reduceLeDiff, Nat.reduceMul, Nat.reduceSub, Int32.reduceOfInt, Int64.reduceOfInt, Int64.reduceOfNat, true_and, and_true, false_and, and_false, or_false, false_or, true_or, or_true, Int.reduceEq, reduceCtorEq, or_self, and_self, ne_eq, not_false_eq_true, not_true_eq_false, eq_self, Nat.le_refl, Nat.zero_le, zr_eI, zr_eL, zr_eR, zr_pI, zr_pL, zr_pR, zr_pO, zr_pV, zq_pA0, zq_pA, zr_get, zr_put_n, zr_put, zr_rem_n, zr_rem, zr_cat_i, zr_cat_l, zr_cat_q, zr_w_n, zr_w, zr_args_n, zr_args, zr_tl_s, zr_tl_n, zr_hIsI, zr_hLsL, zr_hRsR, zr_hIsL, zr_hIsR, zr_hLsI, zr_hLsR, zr_hRsI, zr_hRsL, zr_hNsI, zr_hNsL, zr_hNsR, zr_hZsI, zr_hZsL, zr_hZsR, b2_01, Classical.not_not, Int32.toInt_toInt64, Int64.reduceToInt, zc_1000, zc_100, zc_10, zc_9, zc_2, ci_f, hM, mR_1, aLen_301, aCod_301, ma_1 e, mR_2, aLen_302, aCod_302, ma_2 e, mR_3, aLen_303, aCod_303, mb_3 e, ki]
              refine st b_X12_weighed_135 _ _ k_X12_weighed_135 _ _ _ _ _ ?_
              simp only [b_X12_weighed_135, zr_goto, zr_iinc, zr_nil, zr_cons, ↓reduceIte, Nat.reduceAdd, Nat.reduceEqDiff, Nat.reduceLeDiff, Nat.reduceMul, Nat.reduceSub, Int32.reduceOfInt, Int64.reduceOfInt, Int64.reduceOfNat, true_and, and_true, false_and, and_false, or_false, false_or, true_or, or_true, Int.reduceEq, reduceCtorEq, or_self, and_self, ne_eq, not_false_eq_true, not_true_eq_false, eq_self, Nat.le_refl, Nat.zero_le, zr_eI, zr_eL, zr_eR, zr_pI, zr_pL, zr_pR, zr_pO, zr_pV, zq_pA0, zq_pA, zr_get, zr_put_n, zr_put, zr_rem_n, zr_rem, zr_cat_i, zr_cat_l, zr_cat_q, zr_w_n, zr_w, zr_args_n, zr_args, zr_tl_s, zr_tl_n, zr_hIsI, zr_hLsL, zr_hRsR, zr_hIsL, zr_hIsR, zr_hLsI, zr_hLsR, zr_hRsI, zr_hRsL, zr_hNsI, zr_hNsL, zr_hNsR, zr_hZsI, zr_hZsL, zr_hZsR, b2_01, Classical.not_not, Int32.toInt_toInt64, Int64.reduceToInt, zc_1000, zc_100, zc_10, zc_9, zc_2, ci_f, hM, mR_1, aLen_301, aCod_301, ma_1 e, mR_2, aLen_302, aCod_302, ma_2 e, mR_3, aLen_303, aCod_303, mb_3 e, ki]
              have ih' := ih (by omega)
              rw [nI_1]
              first
                | (have hq : o_tk (mA S 23 (ci k)) (mA S 22 (ci k)) (mB S 3 (60 * ci s + i)) := by omega
                   simp only [o_tn, o_tw, o_mi, o_ma, if_pos hq] at ih'
                   rw [ln]
                   exact wk _ _ _ _ _ _ _ ih')
                | (have hq : ¬ o_tk (mA S 23 (ci k)) (mA S 22 (ci k)) (mB S 3 (60 * ci s + i)) := by omega
                   simp only [o_tn, o_tw, o_mi, o_ma, if_neg hq] at ih'
                   exact wk _ _ _ _ _ _ _ ih')
            · try simp only [b2_0, Classical.not_not] at qc32
              try simp only [Int64.le_iff_toInt_le, Int64.lt_iff_toInt_lt, Int32.lt_iff_toInt_lt, Int32.le_iff_toInt_le, Int32.toInt_toInt64, Int64.reduceToInt, Int32.reduceToInt, Int.reduceNeg, Classical.not_not, i32e, l_add, i64e] at qc32
              refine st b_X12_weighed_135 _ _ k_X12_weighed_135 _ _ _ _ _ ?_
              simp only [b_X12_weighed_135, zr_goto, zr_iinc, zr_nil, zr_cons, ↓reduceIte, Nat.reduceAdd, Nat.reduceEqDiff, Nat.reduceLeDiff, Nat.reduceMul, Nat.reduceSub, Int32.reduceOfInt, Int64.reduceOfInt, Int64.reduceOfNat, true_and, and_true, false_and, and_false, or_false, false_or, true_or, or_true, Int.reduceEq, reduceCtorEq, or_self, and_self, ne_eq, not_false_eq_true, not_true_eq_false, eq_self, Nat.le_refl, Nat.zero_le, zr_eI, zr_eL, zr_eR, zr_pI, zr_pL, zr_pR, zr_pO, zr_pV, zq_pA0, zq_pA, zr_get, zr_put_n, zr_put, zr_rem_n, zr_rem, zr_cat_i, zr_cat_l, zr_cat_q, zr_w_n, zr_w, zr_args_n, zr_args, zr_tl_s, zr_tl_n, zr_hIsI, zr_hLsL, zr_hRsR, zr_hIsL, zr_hIsR, zr_hLsI, zr_hLsR, zr_hRsI, zr_hRsL, zr_hNsI, zr_hNsL, zr_hNsR, zr_hZsI, zr_hZsL, zr_hZsR, b2_01, Classical.not_not, Int32.toInt_toInt64, Int64.reduceToInt, zc_1000, zc_100, zc_10, zc_9, zc_2, ci_f, hM, mR_1, aLen_301, aCod_301, ma_1 e, mR_2, aLen_302, aCod_302, ma_2 e, mR_3, aLen_303, aCod_303, mb_3 e, ki]
              have ih' := ih (by omega)
              rw [nI_1]
              first
                | (have hq : o_tk (mA S 23 (ci k)) (mA S 22 (ci k)) (mB S 3 (60 * ci s + i)) := by omega
                   simp only [o_tn, o_tw, o_mi, o_ma, if_pos hq] at ih'
                   rw [ln]
                   exact wk _ _ _ _ _ _ _ ih')
                | (have hq : ¬ o_tk (mA S 23 (ci k)) (mA S 22 (ci k)) (mB S 3 (60 * ci s + i)) := by omega
                   simp only [o_tn, o_tw, o_mi, o_ma, if_neg hq] at ih'
                   exact wk _ _ _ _ _ _ _ ih')
        · try simp only [b2_0, Classical.not_not] at qc4
          try simp only [Int64.le_iff_toInt_le, Int64.lt_iff_toInt_lt, Int32.lt_iff_toInt_lt, Int32.le_iff_toInt_le, Int32.toInt_toInt64, Int64.reduceToInt, Int32.reduceToInt, Int.reduceNeg, Classical.not_not, i32e, l_add] at qc4
          refine ql' ?_ (by repeat (first | exact z_sC.rf | exact hsc | refine z_sC.I ?_ (by decide) | refine z_sC.L ?_ (by decide))) hM'
          simp only [mv_thr, e]
          unfold o_weighed
          (repeat' split) <;> (first | rfl | (exfalso; omega))
      · try simp only [b2_0, Classical.not_not] at qc3
        try simp only [Int64.le_iff_toInt_le, Int64.lt_iff_toInt_lt, Int32.lt_iff_toInt_lt, Int32.le_iff_toInt_le, Int32.toInt_toInt64, Int64.reduceToInt, Int32.reduceToInt, Int.reduceNeg, Classical.not_not, i32e, l_add] at qc3
        refine st b_X12_weighed_32 _ _ k_X12_weighed_32 _ _ _ _ _ ?_
        simp only [b_X12_weighed_32, zr_T, zr_ldc2, zr_lret, zr_rt_a, zr_rt_i, zr_rt_l, zr_rt_n, zr_rt_z, zr_nil, zr_cons, ↓reduceIte, Nat.reduceAdd, Nat.reduceEqDiff, Nat.reduceLeDiff, Nat.reduceMul, Nat.reduceSub, Int32.reduceOfInt, Int64.reduceOfInt, Int64.reduceOfNat, true_and, and_true, false_and, and_false, or_false, false_or, true_or, or_true, Int.reduceEq, reduceCtorEq, or_self, and_self, ne_eq, not_false_eq_true, not_true_eq_false, eq_self, Nat.le_refl, Nat.zero_le, zr_eI, zr_eL, zr_eR, zr_pI, zr_pL, zr_pR, zr_pO, zr_pV, zq_pA0, zq_pA, zr_get, zr_put_n, zr_put, zr_rem_n, zr_rem, zr_cat_i, zr_cat_l, zr_cat_q, zr_w_n, zr_w, zr_args_n, zr_args, zr_tl_s, zr_tl_n, zr_hIsI, zr_hLsL, zr_hRsR, zr_hIsL, zr_hIsR, zr_hLsI, zr_hLsR, zr_hRsI, zr_hRsL, zr_hNsI, zr_hNsL, zr_hNsR, zr_hZsI, zr_hZsL, zr_hZsR, b2_01, Classical.not_not, Int32.toInt_toInt64, Int64.reduceToInt, zc_1000, zc_100, zc_10, zc_9, zc_2, ci_f, hM, mR_1, aLen_301, aCod_301, ma_1 e, mR_2, aLen_302, aCod_302, ma_2 e, mR_3, aLen_303, aCod_303, mb_3 e]
        refine ql' ?_ (by repeat (first | exact z_sC.rf | exact hsc | refine z_sC.I ?_ (by decide) | refine z_sC.L ?_ (by decide))) hM'
        simp only [mv_thr, e]
        unfold o_weighed
        (repeat' split) <;> (first | rfl | (exfalso; omega))
