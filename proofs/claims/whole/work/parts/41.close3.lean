/-! the orders of a day; receipts that lapse; the agio; the close -/
theorem c_coo (l : Launch) (G : z_G) (d : Nat) (hd : 13 ≤ d) (tr : z_TR) (S : z_M) (h : z_H) (C : CR tr S h) (inv : INV S) (h0 : tr = (0, nI (o_wt (mA S 42) (nO S)))) : z_MT l G d yX11_carryOutOrders cX11_carryOutOrders 5 (some .int) [z_r 13 0] h (8 * (o_wt (mA S 42) (nO S) - o_wt (mA (o_cl (nO S) 24 (0, 0, S)).2.2 42) (nO S))) (12080 * (o_wt (mA S 42) (nO S) - o_wt (mA (o_cl (nO S) 24 (0, 0, S)).2.2 42) (nO S))) (fun r h' => r = some (z_i (nI (o_cl (nO S) 24 (0, 0, S)).1)) ∧ CR ((o_cl (nO S) 24 (0, 0, S)).2.1, nI (o_wt (mA (o_cl (nO S) 24 (0, 0, S)).2.2 42) (nO S))) (o_cl (nO S) 24 (0, 0, S)).2.2 h' ∧ z_sM h h') := by
  have hO := inv.cO.2
  have hwb := o_wt_b (w := mA S 42) (nO S)
  have huO : nO S = ci (mS S 18) := rfl
  obtain ⟨R, hR⟩ : ∃ R, o_cl (nO S) 24 (0, 0, S) = R := ⟨_, rfl⟩
  rw [hR]
  obtain ⟨wf, hwf⟩ : ∃ wf, o_wt (mA R.2.2 42) (nO S) = wf := ⟨_, rfl⟩
  rw [hwf]
  obtain ⟨w0, hw0⟩ : ∃ w0, o_wt (mA S 42) (nO S) = w0 := ⟨_, rfl⟩
  rw [hw0]
  rw [hw0] at h0 hwb
  refine z_mt2 13 false ⟨by decide, rfl, fun q => absurd q (by decide)⟩ (by show 1 ≤ 5; decide) (fun A st wk => ?_)
  refine st b_X11_carryOutOrders_0 _ _ k_X11_carryOutOrders_0 _ _ _ _ _ ?_
  simp only [b_X11_carryOutOrders_0, zr_aload_n0, zr_get0, zr_iconst, zr_istore_n1, zr_istore_n2, zr_nil, zr_cons, ↓reduceIte, Nat.reduceAdd, Nat.reduceEqDiff, Nat.reduceLeDiff, Nat.reduceMul, Nat.reduceSub, Int32.reduceOfInt, Int64.reduceOfInt, Int64.reduceOfNat, true_and, and_true, false_and, and_false, or_false, false_or, true_or, or_true, Int.reduceEq, reduceCtorEq, or_self, and_self, ne_eq, not_false_eq_true, not_true_eq_false, eq_self, Nat.le_refl, Nat.zero_le, zr_eI, zr_eL, zr_eR, zr_pI, zr_pL, zr_pR, zr_pO, zr_pV, zq_pA0, zq_pA, zr_get, zr_put_n, zr_put, zr_rem_n, zr_rem, zr_cat_i, zr_cat_l, zr_cat_q, zr_w_n, zr_w, zr_args_n, zr_args, zr_tl_s, zr_tl_n, zq_hIsI, zq_hLsL, zq_hRsR, zq_hIsL, zq_hIsR, zq_hLsI, zq_hLsR, zq_hRsI, zq_hRsL, zq_hNsI, zq_hNsL, zq_hNsR, zq_hZsI, zq_hZsL, zq_hZsR, b2_01, Classical.not_not, Int32.toInt_toInt64, Int64.reduceToInt, zc_1000, zc_100, zc_10, zc_9, zc_2, ci_f, C.r0, C.r1, C.r2, C.r3, C.r4, C.r5, C.r6, C.r7, C.r8, C.r9, C.q0, C.q1, C.q2, zl_200, zl_201, zl_202, zl_203, zl_204, zl_205, zl_206, zl_207, lT_200, lT_201, lT_202, lT_203, lT_204, lT_205, lT_206, C.zK, C.zA, C.zR, C.zO, C.zE, C.zS, C.zL, C.wai, h0]
  have key : ∀ (w : Nat) (q : z_Q) (h1 : z_H), QI S q → o_wt (mA q.2.2 42) (nO S) = w → w ≤ w0 → CR (q.2.1, nI w) q.2.2 h1 → z_sM h h1 → o_cl (nO S) 24 q = R → A 7 [(0, z_r 13 0), (1, z_i (nI q.1)), (2, z_i (nI w))] [] h1 (8 * (w0 - w)) (12080 * (w0 - w)) := by
    intro w
    induction w with
    | zero =>
      intro q h1 qi hw hw0' C1 m1 hF
      have hq : q = R := by
        rw [← hF]
        exact (cl_id (fun r _ j hj z => wt_0 hw hj z.1)).symm
      have hf0 : wf = 0 := by rw [← hwf, ← hq]; exact hw
      have t0 : (nI 0).toInt = 0 := rfl
      refine st b_X11_carryOutOrders_7 _ _ k_X11_carryOutOrders_7 _ _ _ _ _ ?_
      simp only [b_X11_carryOutOrders_7, zr_aload, zr_aload_n0, zr_astore, zr_cP_le, zr_call0, zr_goto, zr_ifc, zr_ifnonnull, zr_iload_n2, zr_iload_n3, zr_istore_n3, zr_nil, zr_cons, ↓reduceIte, Nat.reduceAdd, Nat.reduceEqDiff, Nat.reduceLeDiff, Nat.reduceMul, Nat.reduceSub, Int32.reduceOfInt, Int64.reduceOfInt, Int64.reduceOfNat, true_and, and_true, false_and, and_false, or_false, false_or, true_or, or_true, Int.reduceEq, reduceCtorEq, or_self, and_self, ne_eq, not_false_eq_true, not_true_eq_false, eq_self, Nat.le_refl, Nat.zero_le, zr_eI, zr_eL, zr_eR, zr_pI, zr_pL, zr_pR, zr_pO, zr_pV, zq_pA0, zq_pA, zr_get, zr_put_n, zr_put, zr_rem_n, zr_rem, zr_cat_i, zr_cat_l, zr_cat_q, zr_w_n, zr_w, zr_args_n, zr_args, zr_tl_s, zr_tl_n, zq_hIsI, zq_hLsL, zq_hRsR, zq_hIsL, zq_hIsR, zq_hLsI, zq_hLsR, zq_hRsI, zq_hRsL, zq_hNsI, zq_hNsL, zq_hNsR, zq_hZsI, zq_hZsL, zq_hZsR, b2_01, Classical.not_not, Int32.toInt_toInt64, Int64.reduceToInt, zc_1000, zc_100, zc_10, zc_9, zc_2, ci_f]
      refine ⟨fun qc21 => ?_, fun qc21 => ?_⟩
      · try simp only [b2_0, Classical.not_not] at qc21
        try simp only [Int64.le_iff_toInt_le, Int64.lt_iff_toInt_lt, Int32.lt_iff_toInt_lt, Int32.le_iff_toInt_le, Int32.toInt_toInt64, Int64.reduceToInt, Int32.reduceToInt, Int.reduceNeg, Classical.not_not, i32e, l_add] at qc21
        refine st b_X11_carryOutOrders_66 _ _ k_X11_carryOutOrders_66 _ _ _ _ _ ?_
        simp only [b_X11_carryOutOrders_66, zr_T, zr_iload_n1, zr_iret, zr_rt_a, zr_rt_i, zr_rt_l, zr_rt_n, zr_rt_z, zr_nil, zr_cons, ↓reduceIte, Nat.reduceAdd, Nat.reduceEqDiff, Nat.reduceLeDiff, Nat.reduceMul, Nat.reduceSub, Int32.reduceOfInt, Int64.reduceOfInt, Int64.reduceOfNat, true_and, and_true, false_and, and_false, or_false, false_or, true_or, or_true, Int.reduceEq, reduceCtorEq, or_self, and_self, ne_eq, not_false_eq_true, not_true_eq_false, eq_self, Nat.le_refl, Nat.zero_le, zr_eI, zr_eL, zr_eR, zr_pI, zr_pL, zr_pR, zr_pO, zr_pV, zq_pA0, zq_pA, zr_get, zr_put_n, zr_put, zr_rem_n, zr_rem, zr_cat_i, zr_cat_l, zr_cat_q, zr_w_n, zr_w, zr_args_n, zr_args, zr_tl_s, zr_tl_n, zq_hIsI, zq_hLsL, zq_hRsR, zq_hIsL, zq_hIsR, zq_hLsI, zq_hLsR, zq_hRsI, zq_hRsL, zq_hNsI, zq_hNsL, zq_hNsR, zq_hZsI, zq_hZsL, zq_hZsR, b2_01, Classical.not_not, Int32.toInt_toInt64, Int64.reduceToInt, zc_1000, zc_100, zc_10, zc_9, zc_2, ci_f]
        refine ⟨by omega, by omega, ?_⟩
        rw [hq] at C1 ⊢
        rw [hf0]
        exact ⟨rfl, C1, m1⟩
      · try simp only [b2_0, Classical.not_not] at qc21
        try simp only [Int64.le_iff_toInt_le, Int64.lt_iff_toInt_lt, Int32.lt_iff_toInt_lt, Int32.le_iff_toInt_le, Int32.toInt_toInt64, Int64.reduceToInt, Int32.reduceToInt, Int.reduceNeg, Classical.not_not, i32e, l_add] at qc21
        exfalso; omega
    | succ w ih =>
      intro q h1 qi hw hw0' C1 m1 hF
      have tw := toIntS (show w + 1 < 2000000000 by omega)
      have eo : nO q.2.2 = nO S := by show ci _ = ci _; rw [qi.2.1 18 (by decide)]
      have lm : (-1 : Int32).toInt = -1 := rfl
      rcases nd_spec (S := q.2.2) (n := nO q.2.2) (by omega) (fun j hj => by have := (qi.1.ord.1 j hj).2.2.1; omega) with ⟨n1, n2⟩ | ⟨k, k1, k2, k3, k4, k5⟩
      · have hq : q = R := by
          rw [← hF]
          exact (cl_id (fun r _ j hj z => n2 j (by omega) r z)).symm
        have hf0 : wf = w + 1 := by rw [← hwf, ← hq]; exact hw
        refine st b_X11_carryOutOrders_7 _ _ k_X11_carryOutOrders_7 _ _ _ _ _ ?_
        simp only [b_X11_carryOutOrders_7, zr_aload, zr_aload_n0, zr_astore, zr_cP_le, zr_call0, zr_goto, zr_ifc, zr_ifnonnull, zr_iload_n2, zr_iload_n3, zr_istore_n3, zr_nil, zr_cons, ↓reduceIte, Nat.reduceAdd, Nat.reduceEqDiff, Nat.reduceLeDiff, Nat.reduceMul, Nat.reduceSub, Int32.reduceOfInt, Int64.reduceOfInt, Int64.reduceOfNat, true_and, and_true, false_and, and_false, or_false, false_or, true_or, or_true, Int.reduceEq, reduceCtorEq, or_self, and_self, ne_eq, not_false_eq_true, not_true_eq_false, eq_self, Nat.le_refl, Nat.zero_le, zr_eI, zr_eL, zr_eR, zr_pI, zr_pL, zr_pR, zr_pO, zr_pV, zq_pA0, zq_pA, zr_get, zr_put_n, zr_put, zr_rem_n, zr_rem, zr_cat_i, zr_cat_l, zr_cat_q, zr_w_n, zr_w, zr_args_n, zr_args, zr_tl_s, zr_tl_n, zq_hIsI, zq_hLsL, zq_hRsR, zq_hIsL, zq_hIsR, zq_hLsI, zq_hLsR, zq_hRsI, zq_hRsL, zq_hNsI, zq_hNsL, zq_hNsR, zq_hZsI, zq_hZsL, zq_hZsR, b2_01, Classical.not_not, Int32.toInt_toInt64, Int64.reduceToInt, zc_1000, zc_100, zc_10, zc_9, zc_2, ci_f, n1]
        refine ⟨fun qc41 => ?_, fun qc41 => ?_⟩
        · try simp only [b2_0, Classical.not_not] at qc41
          try simp only [Int64.le_iff_toInt_le, Int64.lt_iff_toInt_lt, Int32.lt_iff_toInt_lt, Int32.le_iff_toInt_le, Int32.toInt_toInt64, Int64.reduceToInt, Int32.reduceToInt, Int.reduceNeg, Classical.not_not, i32e, l_add] at qc41
          exfalso; omega
        · try simp only [b2_0, Classical.not_not] at qc41
          try simp only [Int64.le_iff_toInt_le, Int64.lt_iff_toInt_lt, Int32.lt_iff_toInt_lt, Int32.le_iff_toInt_le, Int32.toInt_toInt64, Int64.reduceToInt, Int32.reduceToInt, Int.reduceNeg, Classical.not_not, i32e, l_add] at qc41
          refine cp0 (by omega) lk_X11_431 (rc_13 rfl) (c_next l G _ (by omega) (q.2.1, nI (w + 1)) q.2.2 _ C1 qi.1) (by omega) (by omega) ?_
          simp only [zr_aload, zr_aload_n0, zr_astore, zr_call0, zr_goto, zr_ifnonnull, zr_iload_n3, zr_istore_n3, zr_nil, zr_cons, ↓reduceIte, Nat.reduceAdd, Nat.reduceEqDiff, Nat.reduceLeDiff, Nat.reduceMul, Nat.reduceSub, Int32.reduceOfInt, Int64.reduceOfInt, Int64.reduceOfNat, true_and, and_true, false_and, and_false, or_false, false_or, true_or, or_true, Int.reduceEq, reduceCtorEq, or_self, and_self, ne_eq, not_false_eq_true, not_true_eq_false, eq_self, Nat.le_refl, Nat.zero_le, zr_eI, zr_eL, zr_eR, zr_pI, zr_pL, zr_pR, zr_pO, zr_pV, zq_pA0, zq_pA, zr_get, zr_put_n, zr_put, zr_rem_n, zr_rem, zr_cat_i, zr_cat_l, zr_cat_q, zr_w_n, zr_w, zr_args_n, zr_args, zr_tl_s, zr_tl_n, zq_hIsI, zq_hLsL, zq_hRsR, zq_hIsL, zq_hIsR, zq_hLsI, zq_hLsR, zq_hRsI, zq_hRsL, zq_hNsI, zq_hNsL, zq_hNsR, zq_hZsI, zq_hZsL, zq_hZsR, b2_01, Classical.not_not, Int32.toInt_toInt64, Int64.reduceToInt, zc_1000, zc_100, zc_10, zc_9, zc_2, ci_f, n1]
          refine cp0 (by omega) lk_X11_222 (rc_13 rfl) (c_orderAt l G _ (by omega) (q.2.1, nI (w + 1)) q.2.2 _ C1 qi.1 _) (by omega) (by omega) ?_
          simp only [zr_aload, zr_astore, zr_goto, zr_ifnonnull, zr_nil, zr_cons, ↓reduceIte, Nat.reduceAdd, Nat.reduceEqDiff, Nat.reduceLeDiff, Nat.reduceMul, Nat.reduceSub, Int32.reduceOfInt, Int64.reduceOfInt, Int64.reduceOfNat, true_and, and_true, false_and, and_false, or_false, false_or, true_or, or_true, Int.reduceEq, reduceCtorEq, or_self, and_self, ne_eq, not_false_eq_true, not_true_eq_false, eq_self, Nat.le_refl, Nat.zero_le, zr_eI, zr_eL, zr_eR, zr_pI, zr_pL, zr_pR, zr_pO, zr_pV, zq_pA0, zq_pA, zr_get, zr_put_n, zr_put, zr_rem_n, zr_rem, zr_cat_i, zr_cat_l, zr_cat_q, zr_w_n, zr_w, zr_args_n, zr_args, zr_tl_s, zr_tl_n, zq_hIsI, zq_hLsL, zq_hRsR, zq_hIsL, zq_hIsR, zq_hLsI, zq_hLsR, zq_hRsI, zq_hRsL, zq_hNsI, zq_hNsL, zq_hNsR, zq_hZsI, zq_hZsL, zq_hZsR, b2_01, Classical.not_not, Int32.toInt_toInt64, Int64.reduceToInt, zc_1000, zc_100, zc_10, zc_9, zc_2, ci_f, n1]
          refine ⟨fun qc42 => ?_, fun qq42 qc42 => ?_⟩
          · simp only [op_n] at qc42
            refine st b_X11_carryOutOrders_66 _ _ k_X11_carryOutOrders_66 _ _ _ _ _ ?_
            simp only [b_X11_carryOutOrders_66, zr_T, zr_iload_n1, zr_iret, zr_rt_a, zr_rt_i, zr_rt_l, zr_rt_n, zr_rt_z, zr_nil, zr_cons, ↓reduceIte, Nat.reduceAdd, Nat.reduceEqDiff, Nat.reduceLeDiff, Nat.reduceMul, Nat.reduceSub, Int32.reduceOfInt, Int64.reduceOfInt, Int64.reduceOfNat, true_and, and_true, false_and, and_false, or_false, false_or, true_or, or_true, Int.reduceEq, reduceCtorEq, or_self, and_self, ne_eq, not_false_eq_true, not_true_eq_false, eq_self, Nat.le_refl, Nat.zero_le, zr_eI, zr_eL, zr_eR, zr_pI, zr_pL, zr_pR, zr_pO, zr_pV, zq_pA0, zq_pA, zr_get, zr_put_n, zr_put, zr_rem_n, zr_rem, zr_cat_i, zr_cat_l, zr_cat_q, zr_w_n, zr_w, zr_args_n, zr_args, zr_tl_s, zr_tl_n, zq_hIsI, zq_hLsL, zq_hRsR, zq_hIsL, zq_hIsR, zq_hLsI, zq_hLsR, zq_hRsI, zq_hRsL, zq_hNsI, zq_hNsL, zq_hNsR, zq_hZsI, zq_hZsL, zq_hZsR, b2_01, Classical.not_not, Int32.toInt_toInt64, Int64.reduceToInt, zc_1000, zc_100, zc_10, zc_9, zc_2, ci_f, n1]
            refine ⟨by omega, by omega, ?_⟩
            rw [hq] at C1 ⊢
            rw [hf0]
            exact ⟨rfl, C1, m1⟩
          · replace qc42 := op_p qc42
            exfalso; omega
      · have ho := (qi.1.ord.1 k k1).2.2.1
        have kh := ci_int (x := mA q.2.2 40 k) ho.1
        have du : o_due q.2.2 (ci (mA q.2.2 40 k)) k := ⟨k3, k4, kh.symm⟩
        have kn : k < nO S := by omega
        have hFs : o_cl (nO S) 24 (o_st (ci (mA q.2.2 40 k)) k q) = R := by
          rw [F_step kn (by omega) du (fun j hj r z => by have := k5 j (by omega) r z; omega)]
          exact hF
        have hws : o_wt (mA (o_st (ci (mA q.2.2 40 k)) k q).2.2 42) (nO S) = w := by
          rw [st_S du]
          have := wt_does (S := q.2.2) kn k3
          omega
        have hwf1 : wf ≤ w := by
          rw [← hwf, ← hFs, ← hws]
          exact wt_cl
        have qs : QI S (o_st (ci (mA q.2.2 40 k)) k q) := qi.st kn
        have e1 : (o_does q.2.2 k).1 = true → o_st (ci (mA q.2.2 40 k)) k q = (q.1 + 1, q.2.1 + mB q.2.2 47 k, (o_does q.2.2 k).2) := fun z => by
          unfold o_st
          rw [if_pos du, if_pos z]
        have e2 : ¬ (o_does q.2.2 k).1 = true → o_st (ci (mA q.2.2 40 k)) k q = (q.1, q.2.1, (o_does q.2.2 k).2) := fun z => by
          unfold o_st
          rw [if_pos du, if_neg z]
        have kk := nI_clampS (show k < 2000000000 by omega)
        have tk := toIntS (show k < 2000000000 by omega)
        have d42 := does_42 (S := q.2.2) (o := k)
        have ip : isx (nI k) (nO q.2.2) := by omega
        refine st b_X11_carryOutOrders_7 _ _ k_X11_carryOutOrders_7 _ _ _ _ _ ?_
        simp only [b_X11_carryOutOrders_7, zr_aload, zr_aload_n0, zr_astore, zr_cP_le, zr_call0, zr_goto, zr_ifc, zr_ifnonnull, zr_iload_n2, zr_iload_n3, zr_istore_n3, zr_nil, zr_cons, ↓reduceIte, Nat.reduceAdd, Nat.reduceEqDiff, Nat.reduceLeDiff, Nat.reduceMul, Nat.reduceSub, Int32.reduceOfInt, Int64.reduceOfInt, Int64.reduceOfNat, true_and, and_true, false_and, and_false, or_false, false_or, true_or, or_true, Int.reduceEq, reduceCtorEq, or_self, and_self, ne_eq, not_false_eq_true, not_true_eq_false, eq_self, Nat.le_refl, Nat.zero_le, zr_eI, zr_eL, zr_eR, zr_pI, zr_pL, zr_pR, zr_pO, zr_pV, zq_pA0, zq_pA, zr_get, zr_put_n, zr_put, zr_rem_n, zr_rem, zr_cat_i, zr_cat_l, zr_cat_q, zr_w_n, zr_w, zr_args_n, zr_args, zr_tl_s, zr_tl_n, zq_hIsI, zq_hLsL, zq_hRsR, zq_hIsL, zq_hIsR, zq_hLsI, zq_hLsR, zq_hRsI, zq_hRsL, zq_hNsI, zq_hNsL, zq_hNsR, zq_hZsI, zq_hZsL, zq_hZsR, b2_01, Classical.not_not, Int32.toInt_toInt64, Int64.reduceToInt, zc_1000, zc_100, zc_10, zc_9, zc_2, ci_f, k2, kk]
        refine ⟨fun qc61 => ?_, fun qc61 => ?_⟩
        · try simp only [b2_0, Classical.not_not] at qc61
          try simp only [Int64.le_iff_toInt_le, Int64.lt_iff_toInt_lt, Int32.lt_iff_toInt_lt, Int32.le_iff_toInt_le, Int32.toInt_toInt64, Int64.reduceToInt, Int32.reduceToInt, Int.reduceNeg, Classical.not_not, i32e, l_add] at qc61
          exfalso; omega
        · try simp only [b2_0, Classical.not_not] at qc61
          try simp only [Int64.le_iff_toInt_le, Int64.lt_iff_toInt_lt, Int32.lt_iff_toInt_lt, Int32.le_iff_toInt_le, Int32.toInt_toInt64, Int64.reduceToInt, Int32.reduceToInt, Int.reduceNeg, Classical.not_not, i32e, l_add] at qc61
          refine cp0 (by omega) lk_X11_431 (rc_13 rfl) (c_next l G _ (by omega) (q.2.1, nI (w + 1)) q.2.2 _ C1 qi.1) (by omega) (by omega) ?_
          simp only [zr_aload, zr_aload_n0, zr_astore, zr_call0, zr_goto, zr_ifnonnull, zr_iload_n3, zr_istore_n3, zr_nil, zr_cons, ↓reduceIte, Nat.reduceAdd, Nat.reduceEqDiff, Nat.reduceLeDiff, Nat.reduceMul, Nat.reduceSub, Int32.reduceOfInt, Int64.reduceOfInt, Int64.reduceOfNat, true_and, and_true, false_and, and_false, or_false, false_or, true_or, or_true, Int.reduceEq, reduceCtorEq, or_self, and_self, ne_eq, not_false_eq_true, not_true_eq_false, eq_self, Nat.le_refl, Nat.zero_le, zr_eI, zr_eL, zr_eR, zr_pI, zr_pL, zr_pR, zr_pO, zr_pV, zq_pA0, zq_pA, zr_get, zr_put_n, zr_put, zr_rem_n, zr_rem, zr_cat_i, zr_cat_l, zr_cat_q, zr_w_n, zr_w, zr_args_n, zr_args, zr_tl_s, zr_tl_n, zq_hIsI, zq_hLsL, zq_hRsR, zq_hIsL, zq_hIsR, zq_hLsI, zq_hLsR, zq_hRsI, zq_hRsL, zq_hNsI, zq_hNsL, zq_hNsR, zq_hZsI, zq_hZsL, zq_hZsR, b2_01, Classical.not_not, Int32.toInt_toInt64, Int64.reduceToInt, zc_1000, zc_100, zc_10, zc_9, zc_2, ci_f, k2, kk]
          refine cp0 (by omega) lk_X11_222 (rc_13 rfl) (c_orderAt l G _ (by omega) (q.2.1, nI (w + 1)) q.2.2 _ C1 qi.1 _) (by omega) (by omega) ?_
          simp only [zr_aload, zr_astore, zr_goto, zr_ifnonnull, zr_nil, zr_cons, ↓reduceIte, Nat.reduceAdd, Nat.reduceEqDiff, Nat.reduceLeDiff, Nat.reduceMul, Nat.reduceSub, Int32.reduceOfInt, Int64.reduceOfInt, Int64.reduceOfNat, true_and, and_true, false_and, and_false, or_false, false_or, true_or, or_true, Int.reduceEq, reduceCtorEq, or_self, and_self, ne_eq, not_false_eq_true, not_true_eq_false, eq_self, Nat.le_refl, Nat.zero_le, zr_eI, zr_eL, zr_eR, zr_pI, zr_pL, zr_pR, zr_pO, zr_pV, zq_pA0, zq_pA, zr_get, zr_put_n, zr_put, zr_rem_n, zr_rem, zr_cat_i, zr_cat_l, zr_cat_q, zr_w_n, zr_w, zr_args_n, zr_args, zr_tl_s, zr_tl_n, zq_hIsI, zq_hLsL, zq_hRsR, zq_hIsL, zq_hIsR, zq_hLsI, zq_hLsR, zq_hRsI, zq_hRsL, zq_hNsI, zq_hNsL, zq_hNsR, zq_hZsI, zq_hZsL, zq_hZsR, b2_01, Classical.not_not, Int32.toInt_toInt64, Int64.reduceToInt, zc_1000, zc_100, zc_10, zc_9, zc_2, ci_f, k2, kk]
          refine ⟨fun qc62 => ?_, fun qq62 qc62 => ?_⟩
          · simp only [op_n] at qc62
            exfalso; omega
          · replace qc62 := op_p qc62
            try simp only [zr_nil, zr_cons, ↓reduceIte, Nat.reduceAdd, Nat.reduceEqDiff, Nat.reduceLeDiff, Nat.reduceMul, Nat.reduceSub, Int32.reduceOfInt, Int64.reduceOfInt, Int64.reduceOfNat, true_and, and_true, false_and, and_false, or_false, false_or, true_or, or_true, Int.reduceEq, reduceCtorEq, or_self, and_self, ne_eq, not_false_eq_true, not_true_eq_false, eq_self, Nat.le_refl, Nat.zero_le, zr_eI, zr_eL, zr_eR, zr_pI, zr_pL, zr_pR, zr_pO, zr_pV, zq_pA0, zq_pA, zr_get, zr_put_n, zr_put, zr_rem_n, zr_rem, zr_cat_i, zr_cat_l, zr_cat_q, zr_w_n, zr_w, zr_args_n, zr_args, zr_tl_s, zr_tl_n, zq_hIsI, zq_hLsL, zq_hRsR, zq_hIsL, zq_hIsR, zq_hLsI, zq_hLsR, zq_hRsI, zq_hRsL, zq_hNsI, zq_hNsL, zq_hNsR, zq_hZsI, zq_hZsL, zq_hZsR, b2_01, Classical.not_not, Int32.toInt_toInt64, Int64.reduceToInt, zc_1000, zc_100, zc_10, zc_9, zc_2, ci_f, k2, kk, if_pos qc62]
            refine st b_X11_carryOutOrders_31 _ _ k_X11_carryOutOrders_31 _ _ _ _ _ ?_
            simp only [b_X11_carryOutOrders_31, zr_aload, zr_aload_n0, zr_cP_ne, zr_call0, zr_dup, zr_get0, zr_icmp, zr_iconst, zr_iinc, zr_iload_n3, zr_isub, zr_put0, zr_nil, zr_cons, ↓reduceIte, Nat.reduceAdd, Nat.reduceEqDiff, Nat.reduceLeDiff, Nat.reduceMul, Nat.reduceSub, Int32.reduceOfInt, Int64.reduceOfInt, Int64.reduceOfNat, true_and, and_true, false_and, and_false, or_false, false_or, true_or, or_true, Int.reduceEq, reduceCtorEq, or_self, and_self, ne_eq, not_false_eq_true, not_true_eq_false, eq_self, Nat.le_refl, Nat.zero_le, zr_eI, zr_eL, zr_eR, zr_pI, zr_pL, zr_pR, zr_pO, zr_pV, zq_pA0, zq_pA, zr_get, zr_put_n, zr_put, zr_rem_n, zr_rem, zr_cat_i, zr_cat_l, zr_cat_q, zr_w_n, zr_w, zr_args_n, zr_args, zr_tl_s, zr_tl_n, zq_hIsI, zq_hLsL, zq_hRsR, zq_hIsL, zq_hIsR, zq_hLsI, zq_hLsR, zq_hRsI, zq_hRsL, zq_hNsI, zq_hNsL, zq_hNsR, zq_hZsI, zq_hZsL, zq_hZsR, b2_01, Classical.not_not, Int32.toInt_toInt64, Int64.reduceToInt, zc_1000, zc_100, zc_10, zc_9, zc_2, ci_f, k2, kk, if_pos qc62]
            refine cpx (by omega) lk_X11_434 (rc_13 rfl) (c_carryOut l G _ (by omega) (q.2.1, nI (w + 1)) q.2.2 _ C1 qi.1 k k1 k3) (by omega) (by omega) (fun r2 h2 g2 => ?_)
            obtain ⟨rfl, C2, m2⟩ := g2
            have eo2 : nO (o_does q.2.2 k).2 = nO S := by show ci _ = ci _; rw [does_S (by decide), qi.2.1 18 (by decide)]
            have jd := (C2.ord k (by rw [eo2]; exact kn)).2.2.2.2.2.2.1
            have wa := C2.wai
            simp only [zr_aload, zr_aload_n0, zr_cP_ne, zr_dup, zr_get0, zr_icmp, zr_iconst, zr_iinc, zr_isub, zr_put0, zr_nil, zr_cons, ↓reduceIte, Nat.reduceAdd, Nat.reduceEqDiff, Nat.reduceLeDiff, Nat.reduceMul, Nat.reduceSub, Int32.reduceOfInt, Int64.reduceOfInt, Int64.reduceOfNat, true_and, and_true, false_and, and_false, or_false, false_or, true_or, or_true, Int.reduceEq, reduceCtorEq, or_self, and_self, ne_eq, not_false_eq_true, not_true_eq_false, eq_self, Nat.le_refl, Nat.zero_le, zr_eI, zr_eL, zr_eR, zr_pI, zr_pL, zr_pR, zr_pO, zr_pV, zq_pA0, zq_pA, zr_get, zr_put_n, zr_put, zr_rem_n, zr_rem, zr_cat_i, zr_cat_l, zr_cat_q, zr_w_n, zr_w, zr_args_n, zr_args, zr_tl_s, zr_tl_n, zq_hIsI, zq_hLsL, zq_hRsR, zq_hIsL, zq_hIsR, zq_hLsI, zq_hLsR, zq_hRsI, zq_hRsL, zq_hNsI, zq_hNsL, zq_hNsR, zq_hZsI, zq_hZsL, zq_hZsR, b2_01, Classical.not_not, Int32.toInt_toInt64, Int64.reduceToInt, zc_1000, zc_100, zc_10, zc_9, zc_2, ci_f, k2, kk, if_pos qc62, jd, wa, nI_pred]
            refine ⟨fun qc63 => ?_, fun qc63 => ?_⟩
            · try simp only [b2_0, Classical.not_not] at qc63
              try simp only [Int64.le_iff_toInt_le, Int64.lt_iff_toInt_lt, Int32.lt_iff_toInt_lt, Int32.le_iff_toInt_le, Int32.toInt_toInt64, Int64.reduceToInt, Int32.reduceToInt, Int.reduceNeg, Classical.not_not, i32e, l_add] at qc63
              refine st b_X11_carryOutOrders_60 _ _ k_X11_carryOutOrders_60 _ _ _ _ _ ?_
              simp only [b_X11_carryOutOrders_60, zr_goto, zr_iinc, zr_nil, zr_cons, ↓reduceIte, Nat.reduceAdd, Nat.reduceEqDiff, Nat.reduceLeDiff, Nat.reduceMul, Nat.reduceSub, Int32.reduceOfInt, Int64.reduceOfInt, Int64.reduceOfNat, true_and, and_true, false_and, and_false, or_false, false_or, true_or, or_true, Int.reduceEq, reduceCtorEq, or_self, and_self, ne_eq, not_false_eq_true, not_true_eq_false, eq_self, Nat.le_refl, Nat.zero_le, zr_eI, zr_eL, zr_eR, zr_pI, zr_pL, zr_pR, zr_pO, zr_pV, zq_pA0, zq_pA, zr_get, zr_put_n, zr_put, zr_rem_n, zr_rem, zr_cat_i, zr_cat_l, zr_cat_q, zr_w_n, zr_w, zr_args_n, zr_args, zr_tl_s, zr_tl_n, zq_hIsI, zq_hLsL, zq_hRsR, zq_hIsL, zq_hIsR, zq_hLsI, zq_hLsR, zq_hRsI, zq_hRsL, zq_hNsI, zq_hNsL, zq_hNsR, zq_hZsI, zq_hZsL, zq_hZsR, b2_01, Classical.not_not, Int32.toInt_toInt64, Int64.reduceToInt, zc_1000, zc_100, zc_10, zc_9, zc_2, ci_f, k2, kk, if_pos qc62, jd, wa, nI_pred]
              first
                | (have hd1 : (o_does q.2.2 k).1 = true := by
                     exact d42.2.2.mpr (by omega)
                   rw [if_pos hd1] at C2
                   rw [e1 hd1] at hFs hws qs
                   rw [nI_dec, nI_pred, show 8 * (w0 - (w + 1)) + 8 = 8 * (w0 - w) from by omega, show 12080 * (w0 - (w + 1)) + 12080 = 12080 * (w0 - w) from by omega]
                   rw [nI_1]
                   refine wk _ _ _ _ _ _ _ (ih _ _ qs hws (by omega) (cr_wai C2) (z_sM.I (z_sM.tr m1 m2) (by decide)) hFs))
                | (have hd1 : ¬ (o_does q.2.2 k).1 = true := by
                     intro z9; have := d42.2.2.mp z9; omega
                   rw [if_neg hd1] at C2
                   rw [e2 hd1] at hFs hws qs
                   rw [nI_dec, nI_pred, show 8 * (w0 - (w + 1)) + 8 = 8 * (w0 - w) from by omega, show 12080 * (w0 - (w + 1)) + 12080 = 12080 * (w0 - w) from by omega]
                   refine wk _ _ _ _ _ _ _ (ih _ _ qs hws (by omega) (cr_wai C2) (z_sM.I (z_sM.tr m1 m2) (by decide)) hFs))
            · try simp only [b2_0, Classical.not_not] at qc63
              try simp only [Int64.le_iff_toInt_le, Int64.lt_iff_toInt_lt, Int32.lt_iff_toInt_lt, Int32.le_iff_toInt_le, Int32.toInt_toInt64, Int64.reduceToInt, Int32.reduceToInt, Int.reduceNeg, Classical.not_not, i32e, l_add] at qc63
              refine st b_X11_carryOutOrders_60 _ _ k_X11_carryOutOrders_60 _ _ _ _ _ ?_
              simp only [b_X11_carryOutOrders_60, zr_goto, zr_iinc, zr_nil, zr_cons, ↓reduceIte, Nat.reduceAdd, Nat.reduceEqDiff, Nat.reduceLeDiff, Nat.reduceMul, Nat.reduceSub, Int32.reduceOfInt, Int64.reduceOfInt, Int64.reduceOfNat, true_and, and_true, false_and, and_false, or_false, false_or, true_or, or_true, Int.reduceEq, reduceCtorEq, or_self, and_self, ne_eq, not_false_eq_true, not_true_eq_false, eq_self, Nat.le_refl, Nat.zero_le, zr_eI, zr_eL, zr_eR, zr_pI, zr_pL, zr_pR, zr_pO, zr_pV, zq_pA0, zq_pA, zr_get, zr_put_n, zr_put, zr_rem_n, zr_rem, zr_cat_i, zr_cat_l, zr_cat_q, zr_w_n, zr_w, zr_args_n, zr_args, zr_tl_s, zr_tl_n, zq_hIsI, zq_hLsL, zq_hRsR, zq_hIsL, zq_hIsR, zq_hLsI, zq_hLsR, zq_hRsI, zq_hRsL, zq_hNsI, zq_hNsL, zq_hNsR, zq_hZsI, zq_hZsL, zq_hZsR, b2_01, Classical.not_not, Int32.toInt_toInt64, Int64.reduceToInt, zc_1000, zc_100, zc_10, zc_9, zc_2, ci_f, k2, kk, if_pos qc62, jd, wa, nI_pred]
              first
                | (have hd1 : (o_does q.2.2 k).1 = true := by
                     exact d42.2.2.mpr (by omega)
                   rw [if_pos hd1] at C2
                   rw [e1 hd1] at hFs hws qs
                   rw [nI_dec, nI_pred, show 8 * (w0 - (w + 1)) + 8 = 8 * (w0 - w) from by omega, show 12080 * (w0 - (w + 1)) + 12080 = 12080 * (w0 - w) from by omega]
                   rw [nI_1]
                   refine wk _ _ _ _ _ _ _ (ih _ _ qs hws (by omega) (cr_wai C2) (z_sM.I (z_sM.tr m1 m2) (by decide)) hFs))
                | (have hd1 : ¬ (o_does q.2.2 k).1 = true := by
                     intro z9; have := d42.2.2.mp z9; omega
                   rw [if_neg hd1] at C2
                   rw [e2 hd1] at hFs hws qs
                   rw [nI_dec, nI_pred, show 8 * (w0 - (w + 1)) + 8 = 8 * (w0 - w) from by omega, show 12080 * (w0 - (w + 1)) + 12080 = 12080 * (w0 - w) from by omega]
                   refine wk _ _ _ _ _ _ _ (ih _ _ qs hws (by omega) (cr_wai C2) (z_sM.I (z_sM.tr m1 m2) (by decide)) hFs))
  have k0 := key w0 (0, 0, S) h (QI.start inv) hw0 (Nat.le_refl _) (by rw [← h0]; exact C) z_sM.rf hR
  rw [Nat.sub_self] at k0
  exact k0
theorem c_lapse (l : Launch) (G : z_G) (d : Nat) (hd : 5 ≤ d) (tr : z_TR) (S : z_M) (h : z_H) (C : CR tr S h) (inv : INV S)  : z_MT l G d yX11_lapseReceipts cX11_lapseReceipts 3 none [z_r 13 0] h 0 0 (Cv tr h (o_lp S (nR S))) := by
  have huR : nR S = ci (mS S 17) := rfl
  have htR := inv.cR.t
  have hbR := inv.cR.2
  have hpR : (mS S 17 - 1).toInt = (ci (mS S 17) : Int) - 1 := by
    rw [sub32 (by rw [htR, show (1 : Int32).toInt = 1 from rfl]; omega) (by rw [htR, show (1 : Int32).toInt = 1 from rfl]; omega), htR]
    rfl
  have huD : (dy S).toInt = (mS S 14).toInt := rfl
  have htD := inv.cD.t
  have hbD := inv.cD.2
  have hpD : (mS S 14 - 1).toInt = (ci (mS S 14) : Int) - 1 := by
    rw [sub32 (by rw [htD, show (1 : Int32).toInt = 1 from rfl]; omega) (by rw [htD, show (1 : Int32).toInt = 1 from rfl]; omega), htD]
    rfl
  have tR := toIntS (show nR S < 2000000000 by omega)
  refine z_mt2 13 false ⟨by decide, rfl, fun q => absurd q (by decide)⟩ (by show 1 ≤ 3; decide) (fun A st wk => ?_)
  refine st b_X11_lapseReceipts_0 _ _ k_X11_lapseReceipts_0 _ _ _ _ _ ?_
  simp only [b_X11_lapseReceipts_0, zr_iconst, zr_istore_n1, zr_nil, zr_cons, ↓reduceIte, Nat.reduceAdd, Nat.reduceEqDiff, Nat.reduceLeDiff, Nat.reduceMul, Nat.reduceSub, Int32.reduceOfInt, Int64.reduceOfInt, Int64.reduceOfNat, true_and, and_true, false_and, and_false, or_false, false_or, true_or, or_true, Int.reduceEq, reduceCtorEq, or_self, and_self, ne_eq, not_false_eq_true, not_true_eq_false, eq_self, Nat.le_refl, Nat.zero_le, zr_eI, zr_eL, zr_eR, zr_pI, zr_pL, zr_pR, zr_pO, zr_pV, zq_pA0, zq_pA, zr_get, zr_put_n, zr_put, zr_rem_n, zr_rem, zr_cat_i, zr_cat_l, zr_cat_q, zr_w_n, zr_w, zr_args_n, zr_args, zr_tl_s, zr_tl_n, zq_hIsI, zq_hLsL, zq_hRsR, zq_hIsL, zq_hIsR, zq_hLsI, zq_hLsR, zq_hRsI, zq_hRsL, zq_hNsI, zq_hNsL, zq_hNsR, zq_hZsI, zq_hZsL, zq_hZsR, b2_01, Classical.not_not, Int32.toInt_toInt64, Int64.reduceToInt, zc_1000, zc_100, zc_10, zc_9, zc_2, ci_f]
  refine (show ∀ i, i ≤ nR S → ∀ h1 : z_H, CR tr (o_lp S i) h1 → z_sM h h1 → A 2 [(0, z_r 13 0), (1, z_i (nI i))] [] h1 0 0 from z_loop (fun i hi ih => ?_)) 0 (Nat.zero_le _) h C z_sM.rf
  intro h1 C1 m1
  have ti := toIntS (show i < 2000000000 by omega)
  have ki := nI_clampS (show i < 2000000000 by omega)
  have zR1 : hZ h1 202 0 = nR S := by rw [C1.zR]; show ci _ = ci _; rw [lp_S]
  have dy1 : hI h1 13 0 10 = mS S 14 := by rw [C1.day, lp_S]
  refine st b_X11_lapseReceipts_2 _ _ k_X11_lapseReceipts_2 _ _ _ _ _ ?_
  simp only [b_X11_lapseReceipts_2, zr_aload_n0, zr_aload_n2, zr_astore_n2, zr_cP_ge, zr_cP_gt, zr_cP_ne, zr_cast, zr_get0, zr_get2, zr_icmp, zr_iconst, zr_ifc, zr_iload_n1, zr_lget, zr_lsize, zr_put0, zr_nil, zr_cons, ↓reduceIte, Nat.reduceAdd, Nat.reduceEqDiff, Nat.reduceLeDiff, Nat.reduceMul, Nat.reduceSub, Int32.reduceOfInt, Int64.reduceOfInt, Int64.reduceOfNat, true_and, and_true, false_and, and_false, or_false, false_or, true_or, or_true, Int.reduceEq, reduceCtorEq, or_self, and_self, ne_eq, not_false_eq_true, not_true_eq_false, eq_self, Nat.le_refl, Nat.zero_le, zr_eI, zr_eL, zr_eR, zr_pI, zr_pL, zr_pR, zr_pO, zr_pV, zq_pA0, zq_pA, zr_get, zr_put_n, zr_put, zr_rem_n, zr_rem, zr_cat_i, zr_cat_l, zr_cat_q, zr_w_n, zr_w, zr_args_n, zr_args, zr_tl_s, zr_tl_n, zq_hIsI, zq_hLsL, zq_hRsR, zq_hIsL, zq_hIsR, zq_hLsI, zq_hLsR, zq_hRsI, zq_hRsL, zq_hNsI, zq_hNsL, zq_hNsR, zq_hZsI, zq_hZsL, zq_hZsR, b2_01, Classical.not_not, Int32.toInt_toInt64, Int64.reduceToInt, zc_1000, zc_100, zc_10, zc_9, zc_2, ci_f, C1.r3, zR1, dy1, ki, zl_202, lT_202]
  repeat (with_reducible refine ⟨by omega, ?_⟩)
  refine ⟨fun qc21 => ?_, fun qc21 => ?_⟩
  · try simp only [b2_0, Classical.not_not] at qc21
    try simp only [Int64.le_iff_toInt_le, Int64.lt_iff_toInt_lt, Int32.lt_iff_toInt_lt, Int32.le_iff_toInt_le, Int32.toInt_toInt64, Int64.reduceToInt, Int32.reduceToInt, Int.reduceNeg, Classical.not_not, i32e, l_add, tR] at qc21
    refine st b_X11_lapseReceipts_54 _ _ k_X11_lapseReceipts_54 _ _ _ _ _ ?_
    simp only [b_X11_lapseReceipts_54, zr_T, zr_ret, zr_rt_a, zr_rt_i, zr_rt_l, zr_rt_n, zr_rt_z, zr_nil, zr_cons, ↓reduceIte, Nat.reduceAdd, Nat.reduceEqDiff, Nat.reduceLeDiff, Nat.reduceMul, Nat.reduceSub, Int32.reduceOfInt, Int64.reduceOfInt, Int64.reduceOfNat, true_and, and_true, false_and, and_false, or_false, false_or, true_or, or_true, Int.reduceEq, reduceCtorEq, or_self, and_self, ne_eq, not_false_eq_true, not_true_eq_false, eq_self, Nat.le_refl, Nat.zero_le, zr_eI, zr_eL, zr_eR, zr_pI, zr_pL, zr_pR, zr_pO, zr_pV, zq_pA0, zq_pA, zr_get, zr_put_n, zr_put, zr_rem_n, zr_rem, zr_cat_i, zr_cat_l, zr_cat_q, zr_w_n, zr_w, zr_args_n, zr_args, zr_tl_s, zr_tl_n, zq_hIsI, zq_hLsL, zq_hRsR, zq_hIsL, zq_hIsR, zq_hLsI, zq_hLsR, zq_hRsI, zq_hRsL, zq_hNsI, zq_hNsL, zq_hNsR, zq_hZsI, zq_hZsL, zq_hZsR, b2_01, Classical.not_not, Int32.toInt_toInt64, Int64.reduceToInt, zc_1000, zc_100, zc_10, zc_9, zc_2, ci_f, C1.r3, zR1, dy1, ki, zl_202, lT_202]
    have ei : i = nR S := by omega
    subst ei
    first
      | exact ⟨rfl, C1, m1⟩
      | exact ⟨C1, m1⟩
  · try simp only [b2_0, Classical.not_not] at qc21
    try simp only [Int64.le_iff_toInt_le, Int64.lt_iff_toInt_lt, Int32.lt_iff_toInt_lt, Int32.le_iff_toInt_le, Int32.toInt_toInt64, Int64.reduceToInt, Int32.reduceToInt, Int.reduceNeg, Classical.not_not, i32e, l_add, tR] at qc21
    have jr := C1.rec i (by show i < ci _; rw [lp_S]; omega)
    have j6 : hI h1 9 i 6 = mA S 34 i := by rw [jr.2.2.2.2.2.2, lp_34 (Nat.le_refl _)]
    have j5 : hI h1 9 i 5 = mA S 33 i := by rw [jr.2.2.2.2.2.1, lp_A (by decide)]
    try simp only [zr_aload_n0, zr_aload_n2, zr_astore_n2, zr_cP_gt, zr_cP_ne, zr_cast, zr_get0, zr_get2, zr_icmp, zr_iconst, zr_ifc, zr_iload_n1, zr_lget, zr_put0, zr_nil, zr_cons, ↓reduceIte, Nat.reduceAdd, Nat.reduceEqDiff, Nat.reduceLeDiff, Nat.reduceMul, Nat.reduceSub, Int32.reduceOfInt, Int64.reduceOfInt, Int64.reduceOfNat, true_and, and_true, false_and, and_false, or_false, false_or, true_or, or_true, Int.reduceEq, reduceCtorEq, or_self, and_self, ne_eq, not_false_eq_true, not_true_eq_false, eq_self, Nat.le_refl, Nat.zero_le, zr_eI, zr_eL, zr_eR, zr_pI, zr_pL, zr_pR, zr_pO, zr_pV, zq_pA0, zq_pA, zr_get, zr_put_n, zr_put, zr_rem_n, zr_rem, zr_cat_i, zr_cat_l, zr_cat_q, zr_w_n, zr_w, zr_args_n, zr_args, zr_tl_s, zr_tl_n, zq_hIsI, zq_hLsL, zq_hRsR, zq_hIsL, zq_hIsR, zq_hLsI, zq_hLsR, zq_hRsI, zq_hRsL, zq_hNsI, zq_hNsL, zq_hNsR, zq_hZsI, zq_hZsL, zq_hZsR, b2_01, Classical.not_not, Int32.toInt_toInt64, Int64.reduceToInt, zc_1000, zc_100, zc_10, zc_9, zc_2, ci_f, C1.r3, zR1, dy1, ki, zl_202, lT_202, j5, j6]
    repeat (with_reducible refine ⟨by omega, ?_⟩)
    refine ⟨by first | exact vpi (by omega) | with_reducible exact vp_in_nI (by omega) (by omega), ?_⟩
    refine ⟨fun qc22 => ?_, fun qc22 => ?_⟩
    · try simp only [b2_0, Classical.not_not] at qc22
      try simp only [Int64.le_iff_toInt_le, Int64.lt_iff_toInt_lt, Int32.lt_iff_toInt_lt, Int32.le_iff_toInt_le, Int32.toInt_toInt64, Int64.reduceToInt, Int32.reduceToInt, Int.reduceNeg, Classical.not_not, i32e, l_add, tR] at qc22
      refine st b_X11_lapseReceipts_48 _ _ k_X11_lapseReceipts_48 _ _ _ _ _ ?_
      simp only [b_X11_lapseReceipts_48, zr_goto, zr_iinc, zr_nil, zr_cons, ↓reduceIte, Nat.reduceAdd, Nat.reduceEqDiff, Nat.reduceLeDiff, Nat.reduceMul, Nat.reduceSub, Int32.reduceOfInt, Int64.reduceOfInt, Int64.reduceOfNat, true_and, and_true, false_and, and_false, or_false, false_or, true_or, or_true, Int.reduceEq, reduceCtorEq, or_self, and_self, ne_eq, not_false_eq_true, not_true_eq_false, eq_self, Nat.le_refl, Nat.zero_le, zr_eI, zr_eL, zr_eR, zr_pI, zr_pL, zr_pR, zr_pO, zr_pV, zq_pA0, zq_pA, zr_get, zr_put_n, zr_put, zr_rem_n, zr_rem, zr_cat_i, zr_cat_l, zr_cat_q, zr_w_n, zr_w, zr_args_n, zr_args, zr_tl_s, zr_tl_n, zq_hIsI, zq_hLsL, zq_hRsR, zq_hIsL, zq_hIsR, zq_hLsI, zq_hLsR, zq_hRsI, zq_hRsL, zq_hNsI, zq_hNsL, zq_hNsR, zq_hZsI, zq_hZsL, zq_hZsR, b2_01, Classical.not_not, Int32.toInt_toInt64, Int64.reduceToInt, zc_1000, zc_100, zc_10, zc_9, zc_2, ci_f, C1.r3, zR1, dy1, ki, zl_202, lT_202, j5, j6]
      first
        | (have es : o_lp S (i + 1) = o_lp S i := by
             show (if _ then _ else _) = _
             rw [if_neg (by omega)]
           have ih' := ih (by omega)
           rw [es] at ih'
           rw [nI_1]
           exact wk _ _ _ _ _ _ _ (ih' _ C1 m1))
        | (have es : o_lp S (i + 1) = uA (o_lp S i) 34 i 2 := by
             show (if _ then _ else _) = _
             rw [if_pos (by omega)]
           have ih' := ih (by omega)
           rw [es] at ih'
           rw [nI_1]
           exact wk _ _ _ _ _ _ _ (ih' _ (cr_rhow C1) (z_sM.I m1 (by decide))))
    · try simp only [b2_0, Classical.not_not] at qc22
      try simp only [Int64.le_iff_toInt_le, Int64.lt_iff_toInt_lt, Int32.lt_iff_toInt_lt, Int32.le_iff_toInt_le, Int32.toInt_toInt64, Int64.reduceToInt, Int32.reduceToInt, Int.reduceNeg, Classical.not_not, i32e, l_add, tR] at qc22
      refine ⟨fun qc23 => ?_, fun qc23 => ?_⟩
      · try simp only [b2_0, Classical.not_not] at qc23
        try simp only [Int64.le_iff_toInt_le, Int64.lt_iff_toInt_lt, Int32.lt_iff_toInt_lt, Int32.le_iff_toInt_le, Int32.toInt_toInt64, Int64.reduceToInt, Int32.reduceToInt, Int.reduceNeg, Classical.not_not, i32e, l_add, tR] at qc23
        refine st b_X11_lapseReceipts_48 _ _ k_X11_lapseReceipts_48 _ _ _ _ _ ?_
        simp only [b_X11_lapseReceipts_48, zr_goto, zr_iinc, zr_nil, zr_cons, ↓reduceIte, Nat.reduceAdd, Nat.reduceEqDiff, Nat.reduceLeDiff, Nat.reduceMul, Nat.reduceSub, Int32.reduceOfInt, Int64.reduceOfInt, Int64.reduceOfNat, true_and, and_true, false_and, and_false, or_false, false_or, true_or, or_true, Int.reduceEq, reduceCtorEq, or_self, and_self, ne_eq, not_false_eq_true, not_true_eq_false, eq_self, Nat.le_refl, Nat.zero_le, zr_eI, zr_eL, zr_eR, zr_pI, zr_pL, zr_pR, zr_pO, zr_pV, zq_pA0, zq_pA, zr_get, zr_put_n, zr_put, zr_rem_n, zr_rem, zr_cat_i, zr_cat_l, zr_cat_q, zr_w_n, zr_w, zr_args_n, zr_args, zr_tl_s, zr_tl_n, zq_hIsI, zq_hLsL, zq_hRsR, zq_hIsL, zq_hIsR, zq_hLsI, zq_hLsR, zq_hRsI, zq_hRsL, zq_hNsI, zq_hNsL, zq_hNsR, zq_hZsI, zq_hZsL, zq_hZsR, b2_01, Classical.not_not, Int32.toInt_toInt64, Int64.reduceToInt, zc_1000, zc_100, zc_10, zc_9, zc_2, ci_f, C1.r3, zR1, dy1, ki, zl_202, lT_202, j5, j6]
        first
          | (have es : o_lp S (i + 1) = o_lp S i := by
               show (if _ then _ else _) = _
               rw [if_neg (by omega)]
             have ih' := ih (by omega)
             rw [es] at ih'
             rw [nI_1]
             exact wk _ _ _ _ _ _ _ (ih' _ C1 m1))
          | (have es : o_lp S (i + 1) = uA (o_lp S i) 34 i 2 := by
               show (if _ then _ else _) = _
               rw [if_pos (by omega)]
             have ih' := ih (by omega)
             rw [es] at ih'
             rw [nI_1]
             exact wk _ _ _ _ _ _ _ (ih' _ (cr_rhow C1) (z_sM.I m1 (by decide))))
      · try simp only [b2_0, Classical.not_not] at qc23
        try simp only [Int64.le_iff_toInt_le, Int64.lt_iff_toInt_lt, Int32.lt_iff_toInt_lt, Int32.le_iff_toInt_le, Int32.toInt_toInt64, Int64.reduceToInt, Int32.reduceToInt, Int.reduceNeg, Classical.not_not, i32e, l_add, tR] at qc23
        refine st b_X11_lapseReceipts_48 _ _ k_X11_lapseReceipts_48 _ _ _ _ _ ?_
        simp only [b_X11_lapseReceipts_48, zr_goto, zr_iinc, zr_nil, zr_cons, ↓reduceIte, Nat.reduceAdd, Nat.reduceEqDiff, Nat.reduceLeDiff, Nat.reduceMul, Nat.reduceSub, Int32.reduceOfInt, Int64.reduceOfInt, Int64.reduceOfNat, true_and, and_true, false_and, and_false, or_false, false_or, true_or, or_true, Int.reduceEq, reduceCtorEq, or_self, and_self, ne_eq, not_false_eq_true, not_true_eq_false, eq_self, Nat.le_refl, Nat.zero_le, zr_eI, zr_eL, zr_eR, zr_pI, zr_pL, zr_pR, zr_pO, zr_pV, zq_pA0, zq_pA, zr_get, zr_put_n, zr_put, zr_rem_n, zr_rem, zr_cat_i, zr_cat_l, zr_cat_q, zr_w_n, zr_w, zr_args_n, zr_args, zr_tl_s, zr_tl_n, zq_hIsI, zq_hLsL, zq_hRsR, zq_hIsL, zq_hIsR, zq_hLsI, zq_hLsR, zq_hRsI, zq_hRsL, zq_hNsI, zq_hNsL, zq_hNsR, zq_hZsI, zq_hZsL, zq_hZsR, b2_01, Classical.not_not, Int32.toInt_toInt64, Int64.reduceToInt, zc_1000, zc_100, zc_10, zc_9, zc_2, ci_f, C1.r3, zR1, dy1, ki, zl_202, lT_202, j5, j6]
        first
          | (have es : o_lp S (i + 1) = o_lp S i := by
               show (if _ then _ else _) = _
               rw [if_neg (by omega)]
             have ih' := ih (by omega)
             rw [es] at ih'
             rw [nI_1]
             exact wk _ _ _ _ _ _ _ (ih' _ C1 m1))
          | (have es : o_lp S (i + 1) = uA (o_lp S i) 34 i 2 := by
               show (if _ then _ else _) = _
               rw [if_pos (by omega)]
             have ih' := ih (by omega)
             rw [es] at ih'
             rw [nI_1]
             exact wk _ _ _ _ _ _ _ (ih' _ (cr_rhow C1) (z_sM.I m1 (by decide))))
def k_m (S : z_M) (dn : Int64) : Int64 := if (if (mS S 10).toInt64 < o_more S dn then (mS S 10).toInt64 else o_more S dn) < (-(mS S 10)).toInt64 then (-(mS S 10)).toInt64 else (if (mS S 10).toInt64 < o_more S dn then (mS S 10).toInt64 else o_more S dn)
def k_v (S : z_M) (dn : Int64) : Int64 := (mS S 13).toInt64 + k_m S dn
def k_c (S : z_M) (dn : Int64) : Int64 := if (if 300 < k_v S dn then 300 else k_v S dn) < -100 then -100 else (if 300 < k_v S dn then 300 else k_v S dn)
def k_a (S : z_M) (dn : Int64) : Int32 := (k_c S dn).toInt32
theorem k_a_e {S : z_M} {dn : Int64} (inv : INV S) : (k_a S dn).toInt = o_ag0 S dn := by
  have t := inv.ter.2.2.2.2.2.1
  have g := inv.ter.2.2.2.2.2.2.2.2.2
  have n := neg32 (x := mS S 10) (by omega)
  have m : (k_m S dn).toInt = o_cla (o_more S dn).toInt (-(mS S 10).toInt) (mS S 10).toInt := by
    unfold k_m o_cla
    simp only [Int64.lt_iff_toInt_lt]
    (repeat' split) <;> simp only [Int32.toInt_toInt64] at * <;> omega
  have b := cla_in (x := (o_more S dn).toInt) (a := -(mS S 10).toInt) (b := (mS S 10).toInt) (by omega)
  have v : (k_v S dn).toInt = (mS S 13).toInt + (k_m S dn).toInt := by
    unfold k_v
    rw [add64 (by rw [Int32.toInt_toInt64]; omega) (by rw [Int32.toInt_toInt64]; omega), Int32.toInt_toInt64]
  have h1 : (-100 : Int64).toInt = -100 := rfl
  have h2 : (300 : Int64).toInt = 300 := rfl
  have c : (k_c S dn).toInt = o_ag0 S dn := by
    unfold k_c o_ag0
    rw [← m, ← v]
    generalize k_v S dn = z
    unfold o_cla
    simp only [Int64.lt_iff_toInt_lt]
    (repeat' split) <;> omega
  have r : -100 ≤ o_ag0 S dn ∧ o_ag0 S dn ≤ 300 := cla_in (by omega)
  unfold k_a
  rw [l32 (by omega) (by omega), c]
theorem uT_same {S : z_M} {k : Nat} {v : Int64} (h : mT S k = v) : uT S k v = S := by
  refine z_M_ext (fun _ _ => rfl) (fun _ _ => rfl) (fun _ => rfl) (fun k' => ?_)
  rw [mT_uT]
  split
  · rename_i q
    rw [q, h]
  · rfl
theorem uS_same {S : z_M} {k : Nat} {v : Int32} (h : mS S k = v) : uS S k v = S := by
  refine z_M_ext (fun _ _ => rfl) (fun _ _ => rfl) (fun k' => ?_) (fun _ => rfl)
  rw [mS_uS]
  split
  · rename_i q
    rw [q, h]
  · rfl
theorem z64 : Int64.ofInt 0 = 0 := rfl
theorem ag_hi {S : z_M} {dn : Int64} (inv : INV S) (h : (mS S 12).toInt < o_ag0 S dn) : o_ag S dn = uT (uS (uT (uS S 13 (k_a S dn)) 65 (mT S 65 + (k_a S dn - mS S 12).toInt64)) 13 (mS S 12)) 63 0 := by
  have e := k_a_e (dn := dn) inv
  have t := inv.ter.2.2.2.2.2.2
  have r : -100 ≤ o_ag0 S dn ∧ o_ag0 S dn ≤ 300 := cla_in (by omega)
  have d1 : (k_a S dn - mS S 12).toInt = o_ag0 S dn - (mS S 12).toInt := by rw [sub32 (by omega) (by omega), e]
  have c1 : o_cla (o_ag0 S dn) (mS S 11).toInt (mS S 12).toInt = (mS S 12).toInt := by
    unfold o_cla
    (repeat' split) <;> omega
  unfold o_ag
  rw [if_pos h, if_neg (by omega), c1, ← i32of rfl, ← i64of d1, z64, Int64.add_zero, uT_same (S := uT S 65 (mT S 65 + (k_a S dn - mS S 12).toInt64)) (k := 66) (v := mT S 66) rfl]
  refine z_M_ext (fun _ _ => rfl) (fun _ _ => rfl) (fun k => ?_) (fun k => rfl)
  simp only [mS_uS, mS_uT]
  (repeat' split) <;> rfl
theorem ag_lo {S : z_M} {dn : Int64} (inv : INV S) (h : o_ag0 S dn < (mS S 11).toInt) : o_ag S dn = uT (uS (uT (uS S 13 (k_a S dn)) 66 (mT S 66 + (mS S 11 - k_a S dn).toInt64)) 13 (mS S 11)) 63 0 := by
  have e := k_a_e (dn := dn) inv
  have t := inv.ter.2.2.2.2.2.2
  have r : -100 ≤ o_ag0 S dn ∧ o_ag0 S dn ≤ 300 := cla_in (by omega)
  have d1 : (mS S 11 - k_a S dn).toInt = (mS S 11).toInt - o_ag0 S dn := by rw [sub32 (by omega) (by omega), e]
  have c1 : o_cla (o_ag0 S dn) (mS S 11).toInt (mS S 12).toInt = (mS S 11).toInt := by
    unfold o_cla
    (repeat' split) <;> omega
  unfold o_ag
  rw [if_neg (by omega), if_pos h, c1, ← i32of rfl, ← i64of d1, z64, Int64.add_zero, uT_same (S := S) (k := 65) rfl]
  refine z_M_ext (fun _ _ => rfl) (fun _ _ => rfl) (fun k => ?_) (fun k => rfl)
  simp only [mS_uS, mS_uT]
  (repeat' split) <;> rfl
theorem ag_mi {S : z_M} {dn : Int64} (inv : INV S) (h1 : ¬ (mS S 12).toInt < o_ag0 S dn) (h2 : ¬ o_ag0 S dn < (mS S 11).toInt) : o_ag S dn = uT (uS S 13 (k_a S dn)) 63 0 := by
  have e := k_a_e (dn := dn) inv
  have c1 : o_cla (o_ag0 S dn) (mS S 11).toInt (mS S 12).toInt = o_ag0 S dn := by
    unfold o_cla
    (repeat' split) <;> omega
  unfold o_ag
  rw [if_neg h1, if_neg h2, c1, ← i32of e, z64, Int64.add_zero, Int64.add_zero, uT_same (S := S) (k := 65) rfl, uT_same (S := S) (k := 66) rfl]
theorem c_settle (l : Launch) (G : z_G) (d : Nat) (hd : 3 ≤ d) (tr : z_TR) (S : z_M) (h : z_H) (C : CR tr S h) (inv : INV S) (hb : 0 ≤ tr.1.toInt ∧ tr.1.toInt ≤ 300000000000) : z_MT l G d yX1_settleAgio cX1_settleAgio 4 none [z_r 3 0, z_r 11 0] h 0 0 (fun r h' => Cv (0, tr.2) h (o_ag S tr.1) r h') := by
  have kF1 : (if (if (mS S 10).toInt64 < o_more S tr.1 then (mS S 10).toInt64 else o_more S tr.1) < (-(mS S 10)).toInt64 then (-(mS S 10)).toInt64 else (if (mS S 10).toInt64 < o_more S tr.1 then (mS S 10).toInt64 else o_more S tr.1)) = k_m S tr.1 := rfl
  have kF2 : (mS S 13).toInt64 + k_m S tr.1 = k_v S tr.1 := rfl
  have kF3 : (if (if 300 < k_v S tr.1 then 300 else k_v S tr.1) < -100 then -100 else (if 300 < k_v S tr.1 then 300 else k_v S tr.1)) = k_c S tr.1 := rfl
  have kF4 : (k_c S tr.1).toInt32 = k_a S tr.1 := rfl
  have ke := k_a_e (dn := tr.1) inv
  have tkb := inv.tak
  have rb : nR S ≤ 200 := inv.cR.2
  have t1000 : (1000 : Int64).toInt = 1000 := rfl
  have s1 : (tr.1 + mT S 63).toInt = tr.1.toInt + (mT S 63).toInt := add64 (by omega) (by omega)
  have s2 : (tr.1 + mT S 63 + 1000).toInt = tr.1.toInt + (mT S 63).toInt + 1000 := by rw [add64 (by omega) (by omega), s1, t1000]
  have plF : (if 0 < (tr.1 + mT S 63 + 1000).toInt then (mS S 9).toInt64 * (tr.1 - mT S 63) / (tr.1 + mT S 63 + 1000) else 0) = o_more S tr.1 := if_pos (by omega)
  have jt := C.ter
  have jh := C.hou
  refine z_mt2 3 false ⟨by decide, rfl, fun q => absurd q (by decide)⟩ (by show 2 ≤ 4; decide) (fun A st wk => ?_)
  refine st b_X1_settleAgio_0 _ _ k_X1_settleAgio_0 _ _ _ _ _ ?_
  simp only [b_X1_settleAgio_0, zr_aload_n0, zr_aload_n1, zr_cP_le, zr_call0, zr_call1, zr_dup, zr_get0, zr_get1, zr_goto, zr_i2l, zr_icmp, zr_ineg, zr_isub, zr_l2i, zr_ladd, zr_ldc2, zr_lload_n2, zr_lstore_n2, zr_put0, zr_put1, zr_nil, zr_cons, ↓reduceIte, Nat.reduceAdd, Nat.reduceEqDiff, Nat.reduceLeDiff, Nat.reduceMul, Nat.reduceSub, Int32.reduceOfInt, Int64.reduceOfInt, Int64.reduceOfNat, true_and, and_true, false_and, and_false, or_false, false_or, true_or, or_true, Int.reduceEq, reduceCtorEq, or_self, and_self, ne_eq, not_false_eq_true, not_true_eq_false, eq_self, Nat.le_refl, Nat.zero_le, zr_eI, zr_eL, zr_eR, zr_pI, zr_pL, zr_pR, zr_pO, zr_pV, zq_pA0, zq_pA, zr_get, zr_put_n, zr_put, zr_rem_n, zr_rem, zr_cat_i, zr_cat_l, zr_cat_q, zr_w_n, zr_w, zr_args_n, zr_args, zr_tl_s, zr_tl_n, zq_hIsI, zq_hLsL, zq_hRsR, zq_hIsL, zq_hIsR, zq_hLsI, zq_hLsR, zq_hRsI, zq_hRsL, zq_hNsI, zq_hNsL, zq_hNsR, zq_hZsI, zq_hZsL, zq_hZsR, b2_01, Classical.not_not, Int32.toInt_toInt64, Int64.reduceToInt, zc_1000, zc_100, zc_10, zc_9, zc_2, ci_f, jt.2.2.2.2.1, jt.2.2.2.2.2.1, jt.2.2.2.2.2.2.1, jt.2.2.2.2.2.2.2, jh.1, jh.2.1, jh.2.2.1, jh.2.2.2.1, jh.2.2.2.2, plF, kF1, kF2, kF3, kF4]
  refine cp0 (by omega) lk_X1_18 (rc_3 rfl) (c_pulled l G _ _ _) (by omega) (by omega) ?_
  simp only [zr_aload_n0, zr_aload_n1, zr_cP_le, zr_call1, zr_dup, zr_get0, zr_get1, zr_goto, zr_i2l, zr_icmp, zr_ineg, zr_isub, zr_l2i, zr_ladd, zr_ldc2, zr_lload_n2, zr_lstore_n2, zr_put0, zr_put1, zr_nil, zr_cons, ↓reduceIte, Nat.reduceAdd, Nat.reduceEqDiff, Nat.reduceLeDiff, Nat.reduceMul, Nat.reduceSub, Int32.reduceOfInt, Int64.reduceOfInt, Int64.reduceOfNat, true_and, and_true, false_and, and_false, or_false, false_or, true_or, or_true, Int.reduceEq, reduceCtorEq, or_self, and_self, ne_eq, not_false_eq_true, not_true_eq_false, eq_self, Nat.le_refl, Nat.zero_le, zr_eI, zr_eL, zr_eR, zr_pI, zr_pL, zr_pR, zr_pO, zr_pV, zq_pA0, zq_pA, zr_get, zr_put_n, zr_put, zr_rem_n, zr_rem, zr_cat_i, zr_cat_l, zr_cat_q, zr_w_n, zr_w, zr_args_n, zr_args, zr_tl_s, zr_tl_n, zq_hIsI, zq_hLsL, zq_hRsR, zq_hIsL, zq_hIsR, zq_hLsI, zq_hLsR, zq_hRsI, zq_hRsL, zq_hNsI, zq_hNsL, zq_hNsR, zq_hZsI, zq_hZsL, zq_hZsR, b2_01, Classical.not_not, Int32.toInt_toInt64, Int64.reduceToInt, zc_1000, zc_100, zc_10, zc_9, zc_2, ci_f, jt.2.2.2.2.1, jt.2.2.2.2.2.1, jt.2.2.2.2.2.2.1, jt.2.2.2.2.2.2.2, jh.1, jh.2.1, jh.2.2.1, jh.2.2.2.1, jh.2.2.2.2, plF, kF1, kF2, kF3, kF4]
  refine cp0 (by omega) lk_X1_25 trivial (c_clamp l G _ (by omega) _ _ _ _) (by omega) (by omega) ?_
  simp only [zr_aload_n0, zr_aload_n1, zr_cP_le, zr_call1, zr_dup, zr_get0, zr_get1, zr_goto, zr_i2l, zr_icmp, zr_isub, zr_l2i, zr_ladd, zr_ldc2, zr_lload_n2, zr_lstore_n2, zr_put0, zr_put1, zr_nil, zr_cons, ↓reduceIte, Nat.reduceAdd, Nat.reduceEqDiff, Nat.reduceLeDiff, Nat.reduceMul, Nat.reduceSub, Int32.reduceOfInt, Int64.reduceOfInt, Int64.reduceOfNat, true_and, and_true, false_and, and_false, or_false, false_or, true_or, or_true, Int.reduceEq, reduceCtorEq, or_self, and_self, ne_eq, not_false_eq_true, not_true_eq_false, eq_self, Nat.le_refl, Nat.zero_le, zr_eI, zr_eL, zr_eR, zr_pI, zr_pL, zr_pR, zr_pO, zr_pV, zq_pA0, zq_pA, zr_get, zr_put_n, zr_put, zr_rem_n, zr_rem, zr_cat_i, zr_cat_l, zr_cat_q, zr_w_n, zr_w, zr_args_n, zr_args, zr_tl_s, zr_tl_n, zq_hIsI, zq_hLsL, zq_hRsR, zq_hIsL, zq_hIsR, zq_hLsI, zq_hLsR, zq_hRsI, zq_hRsL, zq_hNsI, zq_hNsL, zq_hNsR, zq_hZsI, zq_hZsL, zq_hZsR, b2_01, Classical.not_not, Int32.toInt_toInt64, Int64.reduceToInt, zc_1000, zc_100, zc_10, zc_9, zc_2, ci_f, jt.2.2.2.2.1, jt.2.2.2.2.2.1, jt.2.2.2.2.2.2.1, jt.2.2.2.2.2.2.2, jh.1, jh.2.1, jh.2.2.1, jh.2.2.2.1, jh.2.2.2.2, plF, kF1, kF2, kF3, kF4]
  refine cp0 (by omega) lk_X1_25 trivial (c_clamp l G _ (by omega) _ _ _ _) (by omega) (by omega) ?_
  simp only [zr_aload_n0, zr_aload_n1, zr_cP_le, zr_dup, zr_get0, zr_get1, zr_goto, zr_i2l, zr_icmp, zr_isub, zr_l2i, zr_ladd, zr_put0, zr_put1, zr_nil, zr_cons, ↓reduceIte, Nat.reduceAdd, Nat.reduceEqDiff, Nat.reduceLeDiff, Nat.reduceMul, Nat.reduceSub, Int32.reduceOfInt, Int64.reduceOfInt, Int64.reduceOfNat, true_and, and_true, false_and, and_false, or_false, false_or, true_or, or_true, Int.reduceEq, reduceCtorEq, or_self, and_self, ne_eq, not_false_eq_true, not_true_eq_false, eq_self, Nat.le_refl, Nat.zero_le, zr_eI, zr_eL, zr_eR, zr_pI, zr_pL, zr_pR, zr_pO, zr_pV, zq_pA0, zq_pA, zr_get, zr_put_n, zr_put, zr_rem_n, zr_rem, zr_cat_i, zr_cat_l, zr_cat_q, zr_w_n, zr_w, zr_args_n, zr_args, zr_tl_s, zr_tl_n, zq_hIsI, zq_hLsL, zq_hRsR, zq_hIsL, zq_hIsR, zq_hLsI, zq_hLsR, zq_hRsI, zq_hRsL, zq_hNsI, zq_hNsL, zq_hNsR, zq_hZsI, zq_hZsL, zq_hZsR, b2_01, Classical.not_not, Int32.toInt_toInt64, Int64.reduceToInt, zc_1000, zc_100, zc_10, zc_9, zc_2, ci_f, jt.2.2.2.2.1, jt.2.2.2.2.2.1, jt.2.2.2.2.2.2.1, jt.2.2.2.2.2.2.2, jh.1, jh.2.1, jh.2.2.1, jh.2.2.2.1, jh.2.2.2.2, plF, kF1, kF2, kF3, kF4]
  refine ⟨fun qc1 => ?_, fun qc1 => ?_⟩
  · try simp only [b2_0, Classical.not_not] at qc1
    try simp only [Int64.le_iff_toInt_le, Int64.lt_iff_toInt_lt, Int32.lt_iff_toInt_lt, Int32.le_iff_toInt_le, Int32.toInt_toInt64, Int64.reduceToInt, Int32.reduceToInt, Int.reduceNeg, Classical.not_not, i32e, l_add, ke] at qc1
    refine st b_X1_settleAgio_86 _ _ k_X1_settleAgio_86 _ _ _ _ _ ?_
    simp only [b_X1_settleAgio_86, zr_aload_n0, zr_aload_n1, zr_cP_ge, zr_dup, zr_get0, zr_get1, zr_i2l, zr_icmp, zr_isub, zr_ladd, zr_put0, zr_put1, zr_nil, zr_cons, ↓reduceIte, Nat.reduceAdd, Nat.reduceEqDiff, Nat.reduceLeDiff, Nat.reduceMul, Nat.reduceSub, Int32.reduceOfInt, Int64.reduceOfInt, Int64.reduceOfNat, true_and, and_true, false_and, and_false, or_false, false_or, true_or, or_true, Int.reduceEq, reduceCtorEq, or_self, and_self, ne_eq, not_false_eq_true, not_true_eq_false, eq_self, Nat.le_refl, Nat.zero_le, zr_eI, zr_eL, zr_eR, zr_pI, zr_pL, zr_pR, zr_pO, zr_pV, zq_pA0, zq_pA, zr_get, zr_put_n, zr_put, zr_rem_n, zr_rem, zr_cat_i, zr_cat_l, zr_cat_q, zr_w_n, zr_w, zr_args_n, zr_args, zr_tl_s, zr_tl_n, zq_hIsI, zq_hLsL, zq_hRsR, zq_hIsL, zq_hIsR, zq_hLsI, zq_hLsR, zq_hRsI, zq_hRsL, zq_hNsI, zq_hNsL, zq_hNsR, zq_hZsI, zq_hZsL, zq_hZsR, b2_01, Classical.not_not, Int32.toInt_toInt64, Int64.reduceToInt, zc_1000, zc_100, zc_10, zc_9, zc_2, ci_f, jt.2.2.2.2.1, jt.2.2.2.2.2.1, jt.2.2.2.2.2.2.1, jt.2.2.2.2.2.2.2, jh.1, jh.2.1, jh.2.2.1, jh.2.2.2.1, jh.2.2.2.2, plF, kF1, kF2, kF3, kF4]
    refine ⟨fun qc2 => ?_, fun qc2 => ?_⟩
    · try simp only [b2_0, Classical.not_not] at qc2
      try simp only [Int64.le_iff_toInt_le, Int64.lt_iff_toInt_lt, Int32.lt_iff_toInt_lt, Int32.le_iff_toInt_le, Int32.toInt_toInt64, Int64.reduceToInt, Int32.reduceToInt, Int.reduceNeg, Classical.not_not, i32e, l_add, ke] at qc2
      refine st b_X1_settleAgio_124 _ _ k_X1_settleAgio_124 _ _ _ _ _ ?_
      simp only [b_X1_settleAgio_124, zr_T, zr_aload_n0, zr_lconst0, zr_put1, zr_ret, zr_rt_a, zr_rt_i, zr_rt_l, zr_rt_n, zr_rt_z, zr_nil, zr_cons, ↓reduceIte, Nat.reduceAdd, Nat.reduceEqDiff, Nat.reduceLeDiff, Nat.reduceMul, Nat.reduceSub, Int32.reduceOfInt, Int64.reduceOfInt, Int64.reduceOfNat, true_and, and_true, false_and, and_false, or_false, false_or, true_or, or_true, Int.reduceEq, reduceCtorEq, or_self, and_self, ne_eq, not_false_eq_true, not_true_eq_false, eq_self, Nat.le_refl, Nat.zero_le, zr_eI, zr_eL, zr_eR, zr_pI, zr_pL, zr_pR, zr_pO, zr_pV, zq_pA0, zq_pA, zr_get, zr_put_n, zr_put, zr_rem_n, zr_rem, zr_cat_i, zr_cat_l, zr_cat_q, zr_w_n, zr_w, zr_args_n, zr_args, zr_tl_s, zr_tl_n, zq_hIsI, zq_hLsL, zq_hRsR, zq_hIsL, zq_hIsR, zq_hLsI, zq_hLsR, zq_hRsI, zq_hRsL, zq_hNsI, zq_hNsL, zq_hNsR, zq_hZsI, zq_hZsL, zq_hZsR, b2_01, Classical.not_not, Int32.toInt_toInt64, Int64.reduceToInt, zc_1000, zc_100, zc_10, zc_9, zc_2, ci_f, jt.2.2.2.2.1, jt.2.2.2.2.2.1, jt.2.2.2.2.2.2.1, jt.2.2.2.2.2.2.2, jh.1, jh.2.1, jh.2.2.1, jh.2.2.2.1, jh.2.2.2.2, plF, kF1, kF2, kF3, kF4]
      first
        | (rw [ag_hi inv (by omega)]
           exact ⟨rfl, cr_taken (cr_tr (cr_agio (cr_sold (cr_agio C)))), (by repeat (first | with_reducible exact z_sM.rf | with_reducible assumption | with_reducible refine z_sM.I ?_ (by decide) | with_reducible refine z_sM.L ?_ (by decide) | with_reducible refine z_sM.R ?_ (by decide) | with_reducible refine z_sM.Z ?_ | with_reducible refine z_sM.N ?_ | with_reducible refine z_sM.W ?_ (by decide) | with_reducible refine z_sM.C ?_))⟩)
        | (rw [ag_lo inv (by omega)]
           exact ⟨rfl, cr_taken (cr_tr (cr_agio (cr_bou (cr_agio C)))), (by repeat (first | with_reducible exact z_sM.rf | with_reducible assumption | with_reducible refine z_sM.I ?_ (by decide) | with_reducible refine z_sM.L ?_ (by decide) | with_reducible refine z_sM.R ?_ (by decide) | with_reducible refine z_sM.Z ?_ | with_reducible refine z_sM.N ?_ | with_reducible refine z_sM.W ?_ (by decide) | with_reducible refine z_sM.C ?_))⟩)
        | (rw [ag_mi inv (by omega) (by omega)]
           exact ⟨rfl, cr_taken (cr_tr (cr_agio C)), (by repeat (first | with_reducible exact z_sM.rf | with_reducible assumption | with_reducible refine z_sM.I ?_ (by decide) | with_reducible refine z_sM.L ?_ (by decide) | with_reducible refine z_sM.R ?_ (by decide) | with_reducible refine z_sM.Z ?_ | with_reducible refine z_sM.N ?_ | with_reducible refine z_sM.W ?_ (by decide) | with_reducible refine z_sM.C ?_))⟩)
    · try simp only [b2_0, Classical.not_not] at qc2
      try simp only [Int64.le_iff_toInt_le, Int64.lt_iff_toInt_lt, Int32.lt_iff_toInt_lt, Int32.le_iff_toInt_le, Int32.toInt_toInt64, Int64.reduceToInt, Int32.reduceToInt, Int.reduceNeg, Classical.not_not, i32e, l_add, ke] at qc2
      refine st b_X1_settleAgio_124 _ _ k_X1_settleAgio_124 _ _ _ _ _ ?_
      simp only [b_X1_settleAgio_124, zr_T, zr_aload_n0, zr_lconst0, zr_put1, zr_ret, zr_rt_a, zr_rt_i, zr_rt_l, zr_rt_n, zr_rt_z, zr_nil, zr_cons, ↓reduceIte, Nat.reduceAdd, Nat.reduceEqDiff, Nat.reduceLeDiff, Nat.reduceMul, Nat.reduceSub, Int32.reduceOfInt, Int64.reduceOfInt, Int64.reduceOfNat, true_and, and_true, false_and, and_false, or_false, false_or, true_or, or_true, Int.reduceEq, reduceCtorEq, or_self, and_self, ne_eq, not_false_eq_true, not_true_eq_false, eq_self, Nat.le_refl, Nat.zero_le, zr_eI, zr_eL, zr_eR, zr_pI, zr_pL, zr_pR, zr_pO, zr_pV, zq_pA0, zq_pA, zr_get, zr_put_n, zr_put, zr_rem_n, zr_rem, zr_cat_i, zr_cat_l, zr_cat_q, zr_w_n, zr_w, zr_args_n, zr_args, zr_tl_s, zr_tl_n, zq_hIsI, zq_hLsL, zq_hRsR, zq_hIsL, zq_hIsR, zq_hLsI, zq_hLsR, zq_hRsI, zq_hRsL, zq_hNsI, zq_hNsL, zq_hNsR, zq_hZsI, zq_hZsL, zq_hZsR, b2_01, Classical.not_not, Int32.toInt_toInt64, Int64.reduceToInt, zc_1000, zc_100, zc_10, zc_9, zc_2, ci_f, jt.2.2.2.2.1, jt.2.2.2.2.2.1, jt.2.2.2.2.2.2.1, jt.2.2.2.2.2.2.2, jh.1, jh.2.1, jh.2.2.1, jh.2.2.2.1, jh.2.2.2.2, plF, kF1, kF2, kF3, kF4]
      first
        | (rw [ag_hi inv (by omega)]
           exact ⟨rfl, cr_taken (cr_tr (cr_agio (cr_sold (cr_agio C)))), (by repeat (first | with_reducible exact z_sM.rf | with_reducible assumption | with_reducible refine z_sM.I ?_ (by decide) | with_reducible refine z_sM.L ?_ (by decide) | with_reducible refine z_sM.R ?_ (by decide) | with_reducible refine z_sM.Z ?_ | with_reducible refine z_sM.N ?_ | with_reducible refine z_sM.W ?_ (by decide) | with_reducible refine z_sM.C ?_))⟩)
        | (rw [ag_lo inv (by omega)]
           exact ⟨rfl, cr_taken (cr_tr (cr_agio (cr_bou (cr_agio C)))), (by repeat (first | with_reducible exact z_sM.rf | with_reducible assumption | with_reducible refine z_sM.I ?_ (by decide) | with_reducible refine z_sM.L ?_ (by decide) | with_reducible refine z_sM.R ?_ (by decide) | with_reducible refine z_sM.Z ?_ | with_reducible refine z_sM.N ?_ | with_reducible refine z_sM.W ?_ (by decide) | with_reducible refine z_sM.C ?_))⟩)
        | (rw [ag_mi inv (by omega) (by omega)]
           exact ⟨rfl, cr_taken (cr_tr (cr_agio C)), (by repeat (first | with_reducible exact z_sM.rf | with_reducible assumption | with_reducible refine z_sM.I ?_ (by decide) | with_reducible refine z_sM.L ?_ (by decide) | with_reducible refine z_sM.R ?_ (by decide) | with_reducible refine z_sM.Z ?_ | with_reducible refine z_sM.N ?_ | with_reducible refine z_sM.W ?_ (by decide) | with_reducible refine z_sM.C ?_))⟩)
  · try simp only [b2_0, Classical.not_not] at qc1
    try simp only [Int64.le_iff_toInt_le, Int64.lt_iff_toInt_lt, Int32.lt_iff_toInt_lt, Int32.le_iff_toInt_le, Int32.toInt_toInt64, Int64.reduceToInt, Int32.reduceToInt, Int.reduceNeg, Classical.not_not, i32e, l_add, ke] at qc1
    refine st b_X1_settleAgio_124 _ _ k_X1_settleAgio_124 _ _ _ _ _ ?_
    simp only [b_X1_settleAgio_124, zr_T, zr_aload_n0, zr_lconst0, zr_put1, zr_ret, zr_rt_a, zr_rt_i, zr_rt_l, zr_rt_n, zr_rt_z, zr_nil, zr_cons, ↓reduceIte, Nat.reduceAdd, Nat.reduceEqDiff, Nat.reduceLeDiff, Nat.reduceMul, Nat.reduceSub, Int32.reduceOfInt, Int64.reduceOfInt, Int64.reduceOfNat, true_and, and_true, false_and, and_false, or_false, false_or, true_or, or_true, Int.reduceEq, reduceCtorEq, or_self, and_self, ne_eq, not_false_eq_true, not_true_eq_false, eq_self, Nat.le_refl, Nat.zero_le, zr_eI, zr_eL, zr_eR, zr_pI, zr_pL, zr_pR, zr_pO, zr_pV, zq_pA0, zq_pA, zr_get, zr_put_n, zr_put, zr_rem_n, zr_rem, zr_cat_i, zr_cat_l, zr_cat_q, zr_w_n, zr_w, zr_args_n, zr_args, zr_tl_s, zr_tl_n, zq_hIsI, zq_hLsL, zq_hRsR, zq_hIsL, zq_hIsR, zq_hLsI, zq_hLsR, zq_hRsI, zq_hRsL, zq_hNsI, zq_hNsL, zq_hNsR, zq_hZsI, zq_hZsL, zq_hZsR, b2_01, Classical.not_not, Int32.toInt_toInt64, Int64.reduceToInt, zc_1000, zc_100, zc_10, zc_9, zc_2, ci_f, jt.2.2.2.2.1, jt.2.2.2.2.2.1, jt.2.2.2.2.2.2.1, jt.2.2.2.2.2.2.2, jh.1, jh.2.1, jh.2.2.1, jh.2.2.2.1, jh.2.2.2.2, plF, kF1, kF2, kF3, kF4]
    first
      | (rw [ag_hi inv (by omega)]
         exact ⟨rfl, cr_taken (cr_tr (cr_agio (cr_sold (cr_agio C)))), (by repeat (first | with_reducible exact z_sM.rf | with_reducible assumption | with_reducible refine z_sM.I ?_ (by decide) | with_reducible refine z_sM.L ?_ (by decide) | with_reducible refine z_sM.R ?_ (by decide) | with_reducible refine z_sM.Z ?_ | with_reducible refine z_sM.N ?_ | with_reducible refine z_sM.W ?_ (by decide) | with_reducible refine z_sM.C ?_))⟩)
      | (rw [ag_lo inv (by omega)]
         exact ⟨rfl, cr_taken (cr_tr (cr_agio (cr_bou (cr_agio C)))), (by repeat (first | with_reducible exact z_sM.rf | with_reducible assumption | with_reducible refine z_sM.I ?_ (by decide) | with_reducible refine z_sM.L ?_ (by decide) | with_reducible refine z_sM.R ?_ (by decide) | with_reducible refine z_sM.Z ?_ | with_reducible refine z_sM.N ?_ | with_reducible refine z_sM.W ?_ (by decide) | with_reducible refine z_sM.C ?_))⟩)
      | (rw [ag_mi inv (by omega) (by omega)]
         exact ⟨rfl, cr_taken (cr_tr (cr_agio C)), (by repeat (first | with_reducible exact z_sM.rf | with_reducible assumption | with_reducible refine z_sM.I ?_ (by decide) | with_reducible refine z_sM.L ?_ (by decide) | with_reducible refine z_sM.R ?_ (by decide) | with_reducible refine z_sM.Z ?_ | with_reducible refine z_sM.N ?_ | with_reducible refine z_sM.W ?_ (by decide) | with_reducible refine z_sM.C ?_))⟩)
