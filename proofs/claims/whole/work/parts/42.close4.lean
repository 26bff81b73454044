/-! the class's close and constructor -/
theorem c_closeA (l : Launch) (G : z_G) (d : Nat) (hd : 14 ≤ d) (tr : z_TR) (S : z_M) (h : z_H) (C : CR tr S h) (inv : INV S) (h5 : (dy S).toInt = 5000) : z_MT l G d yX11_close cX11_close 2 (some .int) [z_r 13 0] h 0 0 (fun r h' => Ci tr h (-9, S) r h') := by
  have huD : (dy S).toInt = (mS S 14).toInt := rfl
  have htD := inv.cD.t
  have hbD := inv.cD.2
  have hpD : (mS S 14 - 1).toInt = (ci (mS S 14) : Int) - 1 := by
    rw [sub32 (by rw [htD, show (1 : Int32).toInt = 1 from rfl]; omega) (by rw [htD, show (1 : Int32).toInt = 1 from rfl]; omega), htD]
    rfl
  have h5x : (mS S 14).toInt = 5000 := h5
  refine z_mt2 13 false ⟨by decide, rfl, fun q => absurd q (by decide)⟩ (by show 1 ≤ 2; decide) (fun A st wk => ?_)
  refine st b_X11_close_0 _ _ k_X11_close_0 _ _ _ _ _ ?_
  simp only [b_X11_close_0, zr_T, zr_aload_n0, zr_bipush, zr_cP_lt, zr_get0, zr_icmp, zr_iret, zr_rt_a, zr_rt_i, zr_rt_l, zr_rt_n, zr_rt_z, zr_sipush, zr_nil, zr_cons, ↓reduceIte, Nat.reduceAdd, Nat.reduceEqDiff, Nat.reduceLeDiff, Nat.reduceMul, Nat.reduceSub, Int32.reduceOfInt, Int64.reduceOfInt, Int64.reduceOfNat, true_and, and_true, false_and, and_false, or_false, false_or, true_or, or_true, Int.reduceEq, reduceCtorEq, or_self, and_self, ne_eq, not_false_eq_true, not_true_eq_false, eq_self, Nat.le_refl, Nat.zero_le, zr_eI, zr_eL, zr_eR, zr_pI, zr_pL, zr_pR, zr_pO, zr_pV, zq_pA0, zq_pA, zr_get, zr_put_n, zr_put, zr_rem_n, zr_rem, zr_cat_i, zr_cat_l, zr_cat_q, zr_w_n, zr_w, zr_args_n, zr_args, zr_tl_s, zr_tl_n, zq_hIsI, zq_hLsL, zq_hRsR, zq_hIsL, zq_hIsR, zq_hLsI, zq_hLsR, zq_hRsI, zq_hRsL, zq_hNsI, zq_hNsL, zq_hNsR, zq_hZsI, zq_hZsL, zq_hZsR, b2_01, Classical.not_not, Int32.toInt_toInt64, Int64.reduceToInt, zc_1000, zc_100, zc_10, zc_9, zc_2, ci_f, C.r0, C.r1, C.r2, C.r3, C.r4, C.r5, C.r6, C.r7, C.r8, C.r9, C.q0, C.q1, C.q2, zl_200, zl_201, zl_202, zl_203, zl_204, zl_205, zl_206, zl_207, lT_200, lT_201, lT_202, lT_203, lT_204, lT_205, lT_206, C.zK, C.zA, C.zR, C.zO, C.zE, C.zS, C.zL, C.day]
  refine ⟨fun qc1 => ?_, fun qc1 => ?_⟩
  · try simp only [b2_0, Classical.not_not] at qc1
    try simp only [Int64.le_iff_toInt_le, Int64.lt_iff_toInt_lt, Int32.lt_iff_toInt_lt, Int32.le_iff_toInt_le, Int32.toInt_toInt64, Int64.reduceToInt, Int32.reduceToInt, Int.reduceNeg, Classical.not_not, i32e, l_add, h5x] at qc1
    exfalso; omega
  · try simp only [b2_0, Classical.not_not] at qc1
    try simp only [Int64.le_iff_toInt_le, Int64.lt_iff_toInt_lt, Int32.lt_iff_toInt_lt, Int32.le_iff_toInt_le, Int32.toInt_toInt64, Int64.reduceToInt, Int32.reduceToInt, Int.reduceNeg, Classical.not_not, i32e, l_add, h5x] at qc1
    exact ⟨rfl, C, z_sM.rf⟩
theorem c_closeB (l : Launch) (G : z_G) (d : Nat) (hd : 14 ≤ d) (tr : z_TR) (S : z_M) (h : z_H) (C : CR tr S h) (inv : INV S) (h0 : tr = (0, nI (o_wt (mA S 42) (nO S)))) (h5 : ¬ (dy S).toInt = 5000) : z_MT l G d yX11_close cX11_close 2 (some .int) [z_r 13 0] h (8 * (o_wt (mA S 42) (nO S) - o_wt (mA (o_cl (nO S) 24 (0, 0, S)).2.2 42) (nO S))) (12080 * (o_wt (mA S 42) (nO S) - o_wt (mA (o_cl (nO S) 24 (0, 0, S)).2.2 42) (nO S))) (fun r h' => r = some (z_i (nI (o_cl (nO S) 24 (0, 0, S)).1)) ∧ CR (0, nI (o_wt (mA (o_cl (nO S) 24 (0, 0, S)).2.2 42) (nO S))) (o_agio (o_lp (o_cl (nO S) 24 (0, 0, S)).2.2 (nR S)) (o_cl (nO S) 24 (0, 0, S)).2.1) h' ∧ z_sM h h') := by
  have huD : (dy S).toInt = (mS S 14).toInt := rfl
  have htD := inv.cD.t
  have hbD := inv.cD.2
  have hpD : (mS S 14 - 1).toInt = (ci (mS S 14) : Int) - 1 := by
    rw [sub32 (by rw [htD, show (1 : Int32).toInt = 1 from rfl]; omega) (by rw [htD, show (1 : Int32).toInt = 1 from rfl]; omega), htD]
    rfl
  have h5x : ¬ (mS S 14).toInt = 5000 := h5
  have qi : QI S (o_cl (nO S) 24 (0, 0, S)) := (QI.start inv).cl (Nat.le_refl _)
  obtain ⟨R, hR⟩ : ∃ R, o_cl (nO S) 24 (0, 0, S) = R := ⟨_, rfl⟩
  rw [hR]
  rw [hR] at qi
  obtain ⟨wf, hwf⟩ : ∃ wf, o_wt (mA R.2.2 42) (nO S) = wf := ⟨_, rfl⟩
  rw [hwf]
  have eR : nR R.2.2 = nR S := by show ci _ = ci _; rw [qi.2.1 17 (by decide)]
  have bO : nO S ≤ 300 := inv.cO.2
  have q3 := qi.2.2.1
  have q4 := qi.2.2.2.1
  have hb : 0 ≤ R.2.1.toInt ∧ R.2.1.toInt ≤ 300000000000 := by omega
  have ed : dy (o_lp R.2.2 (nR S)) = mS S 14 := by
    show mS (o_lp R.2.2 (nR S)) 14 = _
    rw [lp_S]
    exact qi.2.1 14 (by decide)
  refine z_mt2 13 false ⟨by decide, rfl, fun q => absurd q (by decide)⟩ (by show 1 ≤ 2; decide) (fun A st wk => ?_)
  refine st b_X11_close_0 _ _ k_X11_close_0 _ _ _ _ _ ?_
  simp only [b_X11_close_0, zr_T, zr_aload_n0, zr_bipush, zr_cP_lt, zr_get0, zr_icmp, zr_iret, zr_rt_a, zr_rt_i, zr_rt_l, zr_rt_n, zr_rt_z, zr_sipush, zr_nil, zr_cons, ↓reduceIte, Nat.reduceAdd, Nat.reduceEqDiff, Nat.reduceLeDiff, Nat.reduceMul, Nat.reduceSub, Int32.reduceOfInt, Int64.reduceOfInt, Int64.reduceOfNat, true_and, and_true, false_and, and_false, or_false, false_or, true_or, or_true, Int.reduceEq, reduceCtorEq, or_self, and_self, ne_eq, not_false_eq_true, not_true_eq_false, eq_self, Nat.le_refl, Nat.zero_le, zr_eI, zr_eL, zr_eR, zr_pI, zr_pL, zr_pR, zr_pO, zr_pV, zq_pA0, zq_pA, zr_get, zr_put_n, zr_put, zr_rem_n, zr_rem, zr_cat_i, zr_cat_l, zr_cat_q, zr_w_n, zr_w, zr_args_n, zr_args, zr_tl_s, zr_tl_n, zq_hIsI, zq_hLsL, zq_hRsR, zq_hIsL, zq_hIsR, zq_hLsI, zq_hLsR, zq_hRsI, zq_hRsL, zq_hNsI, zq_hNsL, zq_hNsR, zq_hZsI, zq_hZsL, zq_hZsR, b2_01, Classical.not_not, Int32.toInt_toInt64, Int64.reduceToInt, zc_1000, zc_100, zc_10, zc_9, zc_2, ci_f, C.r0, C.r1, C.r2, C.r3, C.r4, C.r5, C.r6, C.r7, C.r8, C.r9, C.q0, C.q1, C.q2, zl_200, zl_201, zl_202, zl_203, zl_204, zl_205, zl_206, zl_207, lT_200, lT_201, lT_202, lT_203, lT_204, lT_205, lT_206, C.zK, C.zA, C.zR, C.zO, C.zE, C.zS, C.zL, C.day]
  refine ⟨fun qc1 => ?_, fun qc1 => ?_⟩
  · try simp only [b2_0, Classical.not_not] at qc1
    try simp only [Int64.le_iff_toInt_le, Int64.lt_iff_toInt_lt, Int32.lt_iff_toInt_lt, Int32.le_iff_toInt_le, Int32.toInt_toInt64, Int64.reduceToInt, Int32.reduceToInt, Int.reduceNeg, Classical.not_not, i32e, l_add, h5x] at qc1
    refine st b_X11_close_13 _ _ k_X11_close_13 _ _ _ _ _ ?_
    simp only [b_X11_close_13, zr_T, zr_aload_n0, zr_call0, zr_dup, zr_get0, zr_get2, zr_iadd, zr_iconst, zr_iload_n1, zr_iret, zr_istore_n1, zr_put0, zr_rt_a, zr_rt_i, zr_rt_l, zr_rt_n, zr_rt_z, zr_nil, zr_cons, ↓reduceIte, Nat.reduceAdd, Nat.reduceEqDiff, Nat.reduceLeDiff, Nat.reduceMul, Nat.reduceSub, Int32.reduceOfInt, Int64.reduceOfInt, Int64.reduceOfNat, true_and, and_true, false_and, and_false, or_false, false_or, true_or, or_true, Int.reduceEq, reduceCtorEq, or_self, and_self, ne_eq, not_false_eq_true, not_true_eq_false, eq_self, Nat.le_refl, Nat.zero_le, zr_eI, zr_eL, zr_eR, zr_pI, zr_pL, zr_pR, zr_pO, zr_pV, zq_pA0, zq_pA, zr_get, zr_put_n, zr_put, zr_rem_n, zr_rem, zr_cat_i, zr_cat_l, zr_cat_q, zr_w_n, zr_w, zr_args_n, zr_args, zr_tl_s, zr_tl_n, zq_hIsI, zq_hLsL, zq_hRsR, zq_hIsL, zq_hIsR, zq_hLsI, zq_hLsR, zq_hRsI, zq_hRsL, zq_hNsI, zq_hNsL, zq_hNsR, zq_hZsI, zq_hZsL, zq_hZsR, b2_01, Classical.not_not, Int32.toInt_toInt64, Int64.reduceToInt, zc_1000, zc_100, zc_10, zc_9, zc_2, ci_f, C.r0, C.r1, C.r2, C.r3, C.r4, C.r5, C.r6, C.r7, C.r8, C.r9, C.q0, C.q1, C.q2, zl_200, zl_201, zl_202, zl_203, zl_204, zl_205, zl_206, zl_207, lT_200, lT_201, lT_202, lT_203, lT_204, lT_205, lT_206, C.zK, C.zA, C.zR, C.zO, C.zE, C.zS, C.zL, C.day]
    have cq := c_coo l G (d - 1) (by omega) tr S h C inv h0
    rw [hR, hwf] at cq
    refine cpx (by omega) lk_X11_239 (rc_13 rfl) cq (by omega) (by omega) (fun r1 h1 g1 => ?_)
    obtain ⟨rfl, C1, m1⟩ := g1
    simp only [zr_T, zr_aload_n0, zr_call0, zr_dup, zr_get0, zr_get2, zr_iadd, zr_iconst, zr_iload_n1, zr_iret, zr_istore_n1, zr_put0, zr_rt_a, zr_rt_i, zr_rt_l, zr_rt_n, zr_rt_z, zr_nil, zr_cons, ↓reduceIte, Nat.reduceAdd, Nat.reduceEqDiff, Nat.reduceLeDiff, Nat.reduceMul, Nat.reduceSub, Int32.reduceOfInt, Int64.reduceOfInt, Int64.reduceOfNat, true_and, and_true, false_and, and_false, or_false, false_or, true_or, or_true, Int.reduceEq, reduceCtorEq, or_self, and_self, ne_eq, not_false_eq_true, not_true_eq_false, eq_self, Nat.le_refl, Nat.zero_le, zr_eI, zr_eL, zr_eR, zr_pI, zr_pL, zr_pR, zr_pO, zr_pV, zq_pA0, zq_pA, zr_get, zr_put_n, zr_put, zr_rem_n, zr_rem, zr_cat_i, zr_cat_l, zr_cat_q, zr_w_n, zr_w, zr_args_n, zr_args, zr_tl_s, zr_tl_n, zq_hIsI, zq_hLsL, zq_hRsR, zq_hIsL, zq_hIsR, zq_hLsI, zq_hLsR, zq_hRsI, zq_hRsL, zq_hNsI, zq_hNsL, zq_hNsR, zq_hZsI, zq_hZsL, zq_hZsR, b2_01, Classical.not_not, Int32.toInt_toInt64, Int64.reduceToInt, zc_1000, zc_100, zc_10, zc_9, zc_2, ci_f, C.r0, C.r1, C.r2, C.r3, C.r4, C.r5, C.r6, C.r7, C.r8, C.r9, C.q0, C.q1, C.q2, zl_200, zl_201, zl_202, zl_203, zl_204, zl_205, zl_206, zl_207, lT_200, lT_201, lT_202, lT_203, lT_204, lT_205, lT_206, C.zK, C.zA, C.zR, C.zO, C.zE, C.zS, C.zL, C.day, C1.r8, C1.r0]
    refine cpx (by omega) lk_X11_242 (rc_13 rfl) (c_lapse l G _ (by omega) (R.2.1, nI wf) R.2.2 _ C1 qi.1) (by omega) (by omega) (fun r2 h2 g2 => ?_)
    obtain ⟨rfl, C2', m2⟩ := g2
    rw [eR] at C2'
    have C2 := C2'
    simp only [zr_T, zr_aload_n0, zr_call0, zr_dup, zr_get0, zr_get2, zr_iadd, zr_iconst, zr_iload_n1, zr_iret, zr_put0, zr_rt_a, zr_rt_i, zr_rt_l, zr_rt_n, zr_rt_z, zr_nil, zr_cons, ↓reduceIte, Nat.reduceAdd, Nat.reduceEqDiff, Nat.reduceLeDiff, Nat.reduceMul, Nat.reduceSub, Int32.reduceOfInt, Int64.reduceOfInt, Int64.reduceOfNat, true_and, and_true, false_and, and_false, or_false, false_or, true_or, or_true, Int.reduceEq, reduceCtorEq, or_self, and_self, ne_eq, not_false_eq_true, not_true_eq_false, eq_self, Nat.le_refl, Nat.zero_le, zr_eI, zr_eL, zr_eR, zr_pI, zr_pL, zr_pR, zr_pO, zr_pV, zq_pA0, zq_pA, zr_get, zr_put_n, zr_put, zr_rem_n, zr_rem, zr_cat_i, zr_cat_l, zr_cat_q, zr_w_n, zr_w, zr_args_n, zr_args, zr_tl_s, zr_tl_n, zq_hIsI, zq_hLsL, zq_hRsR, zq_hIsL, zq_hIsR, zq_hLsI, zq_hLsR, zq_hRsI, zq_hRsL, zq_hNsI, zq_hNsL, zq_hNsR, zq_hZsI, zq_hZsL, zq_hZsR, b2_01, Classical.not_not, Int32.toInt_toInt64, Int64.reduceToInt, zc_1000, zc_100, zc_10, zc_9, zc_2, ci_f, C.r0, C.r1, C.r2, C.r3, C.r4, C.r5, C.r6, C.r7, C.r8, C.r9, C.q0, C.q1, C.q2, zl_200, zl_201, zl_202, zl_203, zl_204, zl_205, zl_206, zl_207, lT_200, lT_201, lT_202, lT_203, lT_204, lT_205, lT_206, C.zK, C.zA, C.zR, C.zO, C.zE, C.zS, C.zL, C.day, C1.r8, C1.r0, C2.r8, C2.r0]
    refine cpx (by omega) lk_X11_245 (rc_3 rfl) (c_settle l G _ (by omega) (R.2.1, nI wf) (o_lp R.2.2 (nR S)) _ C2 (inv_lp qi.1 _) hb) (by omega) (by omega) (fun r3 h3 g3 => ?_)
    obtain ⟨rfl, C3, m3⟩ := g3
    have dy3 : hI h3 13 0 10 = mS S 14 := by
      rw [C3.day]
      show mS (o_lp R.2.2 (nR S)) 14 = _
      rw [lp_S]
      exact qi.2.1 14 (by decide)
    simp only [zr_T, zr_aload_n0, zr_dup, zr_get0, zr_iadd, zr_iconst, zr_iload_n1, zr_iret, zr_put0, zr_rt_a, zr_rt_i, zr_rt_l, zr_rt_n, zr_rt_z, zr_nil, zr_cons, ↓reduceIte, Nat.reduceAdd, Nat.reduceEqDiff, Nat.reduceLeDiff, Nat.reduceMul, Nat.reduceSub, Int32.reduceOfInt, Int64.reduceOfInt, Int64.reduceOfNat, true_and, and_true, false_and, and_false, or_false, false_or, true_or, or_true, Int.reduceEq, reduceCtorEq, or_self, and_self, ne_eq, not_false_eq_true, not_true_eq_false, eq_self, Nat.le_refl, Nat.zero_le, zr_eI, zr_eL, zr_eR, zr_pI, zr_pL, zr_pR, zr_pO, zr_pV, zq_pA0, zq_pA, zr_get, zr_put_n, zr_put, zr_rem_n, zr_rem, zr_cat_i, zr_cat_l, zr_cat_q, zr_w_n, zr_w, zr_args_n, zr_args, zr_tl_s, zr_tl_n, zq_hIsI, zq_hLsL, zq_hRsR, zq_hIsL, zq_hIsR, zq_hLsI, zq_hLsR, zq_hRsI, zq_hRsL, zq_hNsI, zq_hNsL, zq_hNsR, zq_hZsI, zq_hZsL, zq_hZsR, b2_01, Classical.not_not, Int32.toInt_toInt64, Int64.reduceToInt, zc_1000, zc_100, zc_10, zc_9, zc_2, ci_f, C.r0, C.r1, C.r2, C.r3, C.r4, C.r5, C.r6, C.r7, C.r8, C.r9, C.q0, C.q1, C.q2, zl_200, zl_201, zl_202, zl_203, zl_204, zl_205, zl_206, zl_207, lT_200, lT_201, lT_202, lT_203, lT_204, lT_205, lT_206, C.zK, C.zA, C.zR, C.zO, C.zE, C.zS, C.zL, C.day, C1.r8, C1.r0, C2.r8, C2.r0, dy3]
    repeat (with_reducible refine ⟨by omega, ?_⟩)
    refine ⟨?_, z_sM.I (z_sM.tr (z_sM.tr m1 m2) m3) (by decide)⟩
    rw [ag_e, ed]
    exact cr_day C3
  · try simp only [b2_0, Classical.not_not] at qc1
    try simp only [Int64.le_iff_toInt_le, Int64.lt_iff_toInt_lt, Int32.lt_iff_toInt_lt, Int32.le_iff_toInt_le, Int32.toInt_toInt64, Int64.reduceToInt, Int32.reduceToInt, Int.reduceNeg, Classical.not_not, i32e, l_add, h5x] at qc1
    exfalso; omega
theorem wt_close {S : z_M} (inv : INV S) (h5 : ¬ (dy S).toInt = 5000) : o_close S = (nI (o_cl (nO S) 24 (0, 0, S)).1, o_agio (o_lp (o_cl (nO S) 24 (0, 0, S)).2.2 (nR S)) (o_cl (nO S) 24 (0, 0, S)).2.1) ∧ o_wt (mA (o_close S).2 42) (nO (o_close S).2) = o_wt (mA (o_cl (nO S) 24 (0, 0, S)).2.2 42) (nO S) := by
  have qi : QI S (o_cl (nO S) 24 (0, 0, S)) := (QI.start inv).cl (Nat.le_refl _)
  have es : o_close S = (nI (o_cl (nO S) 24 (0, 0, S)).1, o_agio (o_lp (o_cl (nO S) 24 (0, 0, S)).2.2 (nR S)) (o_cl (nO S) 24 (0, 0, S)).2.1) := by
    unfold o_close
    rw [if_neg h5]
  refine ⟨es, ?_⟩
  rw [es]
  generalize o_cl (nO S) 24 (0, 0, S) = R at *
  have e1 : mA (o_agio (o_lp R.2.2 (nR S)) R.2.1) 42 = mA R.2.2 42 := by
    show mA (o_lp R.2.2 (nR S)) 42 = _
    exact lp_A (by decide)
  have e2 : nO (o_agio (o_lp R.2.2 (nR S)) R.2.1) = nO S := by
    show ci (mS (o_lp R.2.2 (nR S)) 18) = ci (mS S 18)
    rw [lp_S, qi.2.1 18 (by decide)]
  show o_wt (mA (o_agio (o_lp R.2.2 (nR S)) R.2.1) 42) (nO (o_agio (o_lp R.2.2 (nR S)) R.2.1)) = _
  rw [e1, e2]
theorem c_close (l : Launch) (G : z_G) (d : Nat) (hd : 14 ≤ d) (tr : z_TR) (S : z_M) (h : z_H) (C : CR tr S h) (inv : INV S) (h0 : tr = (0, nI (o_wt (mA S 42) (nO S)))) : z_MT l G d yX11_close cX11_close 2 (some .int) [z_r 13 0] h (8 * (o_wt (mA S 42) (nO S) - o_wt (mA (o_close S).2 42) (nO (o_close S).2))) (12080 * (o_wt (mA S 42) (nO S) - o_wt (mA (o_close S).2 42) (nO (o_close S).2))) (fun r h' => Ci (0, nI (o_wt (mA (o_close S).2 42) (nO (o_close S).2))) h (o_close S) r h') := by
  by_cases h5 : (dy S).toInt = 5000
  · have es : o_close S = (-9, S) := by
      unfold o_close
      rw [if_pos h5]
    have q := c_closeA l G d hd tr S h C inv h5
    rw [es]
    dsimp only
    rw [Nat.sub_self, ← h0]
    exact q
  · have e := wt_close inv h5
    rw [e.2, e.1]
    exact c_closeB l G d hd tr S h C inv h0 h5
