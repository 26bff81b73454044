/-! lines entered -/
theorem fol_c {w w' : Nat → Int32} {a : Int32} {n : Nat} (h : ∀ i, i < n → w' i = w i) : o_fol w' a n = o_fol w a n ∧ o_nf w' a n = o_nf w a n := by
  induction n with
  | zero => exact ⟨rfl, rfl⟩
  | succ n ih =>
    have i1 := ih (fun i hi => h i (by omega))
    refine ⟨?_, ?_⟩
    · show (if (w' n).toInt = a.toInt then nI n else o_fol w' a n) = (if (w n).toInt = a.toInt then nI n else o_fol w a n)
      rw [h n (by omega), i1.1]
    · show o_nf w' a n + (if (w' n).toInt = a.toInt then 1 else 0) = o_nf w a n + (if (w n).toInt = a.toInt then 1 else 0)
      rw [h n (by omega), i1.2]
theorem fol_acc {w : Nat → Int32} {a : Int32} {n : Nat} (hn : n < 2000000000) (h : 0 ≤ (o_fol w a n).toInt) : (w (ci (o_fol w a n))).toInt = a.toInt := by
  induction n with
  | zero => exact absurd h (show ¬ 0 ≤ (-1 : Int32).toInt by decide)
  | succ n ih =>
    have e : o_fol w a (n + 1) = (if (w n).toInt = a.toInt then nI n else o_fol w a n) := rfl
    by_cases q : (w n).toInt = a.toInt
    · rw [e, if_pos q, ci_nI (by omega)]
      exact q
    · rw [e, if_neg q] at h ⊢
      exact ih (by omega) h
abbrev o_fc (S : z_M) (a : Int32) : Prop := (o_fol (mA S 55) a (nF S)).toInt < 0 ∨ (mA S 56 (ci (o_fol (mA S 55) a (nF S)))).toInt = 8
def hff (S : z_M) (a : Int32) (h : z_H) (nb : Nat) : z_H := if o_fc S a then sI (sI (sI (sN (sI (sZ (sI h 2 (ci a) 2 (mS S 20)) 207 (ci a) (hZ h 207 (ci a) + 1)) 207 (ci a) (hZ h 207 (ci a)) (mS S 20)) 1300 nb) 2 (ci a) 3 0) 5 0 4 (nI (nF S + 1))) 2 (ci a) 3 1 else sI h 2 (ci a) 3 (mA S 56 (ci (o_fol (mA S 55) a (nF S))) + 1)
theorem hff_p {S : z_M} {a : Int32} {h : z_H} {nb : Nat} (q : o_fc S a) : hff S a h nb = sI (sI (sI (sN (sI (sZ (sI h 2 (ci a) 2 (mS S 20)) 207 (ci a) (hZ h 207 (ci a) + 1)) 207 (ci a) (hZ h 207 (ci a)) (mS S 20)) 1300 nb) 2 (ci a) 3 0) 5 0 4 (nI (nF S + 1))) 2 (ci a) 3 1 := if_pos q
theorem hff_n {S : z_M} {a : Int32} {h : z_H} {nb : Nat} (q : ¬ o_fc S a) : hff S a h nb = sI h 2 (ci a) 3 (mA S 56 (ci (o_fol (mA S 55) a (nF S))) + 1) := if_neg q
theorem off_p {S : z_M} {a : Int32} (q : o_fc S a) : o_ff S a = (nI (nF S), uA (uS (uA (uA S 55 (nF S) a) 56 (nF S) 0) 20 (nI (nF S + 1))) 56 (nF S) 1) := if_pos q
theorem off_n {S : z_M} {a : Int32} (q : ¬ o_fc S a) : o_ff S a = (o_fol (mA S 55) a (nF S), uA S 56 (ci (o_fol (mA S 55) a (nF S))) (mA S 56 (ci (o_fol (mA S 55) a (nF S))) + 1)) := if_neg q
theorem hff_R {S : z_M} {a : Int32} {h : z_H} {nb : Nat} : hR (hff S a h nb) = hR h := by
  unfold hff
  split <;> rfl
theorem hff_Z {S : z_M} {a : Int32} {h : z_H} {nb i : Nat} : hZ (hff S a h nb) 206 i = hZ h 206 i := by
  unfold hff
  split
  · simp only [zq_hIsI, zq_hLsL, zq_hRsR, zq_hZsZ, zq_hNsN, zq_hInw, zq_hLnw, zq_hRnw, zq_hNnw, zq_hZnw, zq_hIsL, zq_hIsR, zq_hIsZ, zq_hIsN, zq_hLsI, zq_hLsR, zq_hLsZ, zq_hLsN, zq_hRsI, zq_hRsL, zq_hRsZ, zq_hRsN, zq_hNsI, zq_hNsL, zq_hNsR, zq_hNsZ, zq_hZsI, zq_hZsL, zq_hZsR, zq_hZsN, mA_uA, mB_uB, mS_uS, mT_uT, mA_uB, mA_uS, mA_uT, mB_uA, mB_uS, mB_uT, mS_uA, mS_uB, mS_uT, mT_uA, mT_uB, mT_uS, Nat.reduceEqDiff, true_and, and_true, false_and, and_false, ↓reduceIte]
  · rfl
theorem z_sMhff {h h1 : z_H} (m : z_sM h h1) {S : z_M} {a : Int32} {nb : Nat} : z_sM h (hff S a h1 nb) := by
  unfold hff
  split
  · exact z_sM.I (z_sM.I (z_sM.I (z_sM.N (z_sM.I (z_sM.Z (z_sM.I m (by decide))) (by decide))) (by decide)) (by decide)) (by decide)
  · exact z_sM.I m (by decide)
theorem c_ffl (l : Launch) (G : z_G) (d : Nat) (hd : 8 ≤ d) (S : z_M) (h : z_H) (inv : INV S) (a : Int32) (f1 : hR h 2 (ci a) 1 = some (207, ci a)) (f2 : hI h 2 (ci a) 2 = o_fol (mA S 55) a (nF S)) (f3 : 0 ≤ (o_fol (mA S 55) a (nF S)).toInt → hI h 2 (ci a) 3 = mA S 56 (ci (o_fol (mA S 55) a (nF S)))) (f4 : hI h 5 0 4 = mS S 20) (f5 : hZ h 207 (ci a) = o_nf (mA S 55) a (nF S)) : z_MT l G d yX3_folioForLineOf cX3_folioForLineOf 2 (some .int) [z_r 5 0, z_r 2 (ci a)] h 2 3020 (fun r h' => r = some (z_i (o_ff S a).1) ∧ ∃ nb, h' = hff S a h nb) := by
  have huF : nF S = ci (mS S 20) := rfl
  have htF := inv.cF.t
  have hbF := inv.cF.2
  have hpF : (mS S 20 - 1).toInt = (ci (mS S 20) : Int) - 1 := by
    rw [sub32 (by rw [htF, show (1 : Int32).toInt = 1 from rfl]; omega) (by rw [htF, show (1 : Int32).toInt = 1 from rfl]; omega), htF]
    rfl
  have hf := o_fol_in (mA S 55) a (nF S) (by omega)
  have nb0 := o_nf_b (w := mA S 55) (a := a) (nF S)
  have gc := z_gc_le (o_nf (mA S 55) a (nF S))
  have gs := z_gs_le (o_nf (mA S 55) a (nF S))
  refine z_mt2 5 false ⟨by decide, rfl, fun q => absurd q (by decide)⟩ (by show 2 ≤ 2; decide) (fun A st wk => ?_)
  refine st b_X3_folioForLineOf_0 _ _ k_X3_folioForLineOf_0 _ _ _ _ _ ?_
  simp only [b_X3_folioForLineOf_0, zr_aload_n1, zr_bipush, zr_cP_eq, zr_cP_lt, zr_get0, zr_icmp, zr_iconst, zr_nil, zr_cons, ↓reduceIte, Nat.reduceAdd, Nat.reduceEqDiff, Nat.reduceLeDiff, Nat.reduceMul, Nat.reduceSub, Int32.reduceOfInt, Int64.reduceOfInt, Int64.reduceOfNat, true_and, and_true, false_and, and_false, or_false, false_or, true_or, or_true, Int.reduceEq, reduceCtorEq, or_self, and_self, ne_eq, not_false_eq_true, not_true_eq_false, eq_self, Nat.le_refl, Nat.zero_le, zr_eI, zr_eL, zr_eR, zr_pI, zr_pL, zr_pR, zr_pO, zr_pV, zq_pA0, zq_pA, zr_get, zr_put_n, zr_put, zr_rem_n, zr_rem, zr_cat_i, zr_cat_l, zr_cat_q, zr_w_n, zr_w, zr_args_n, zr_args, zr_tl_s, zr_tl_n, zq_hIsI, zq_hLsL, zq_hRsR, zq_hIsL, zq_hIsR, zq_hLsI, zq_hLsR, zq_hRsI, zq_hRsL, zq_hNsI, zq_hNsL, zq_hNsR, zq_hZsI, zq_hZsL, zq_hZsR, b2_01, Classical.not_not, Int32.toInt_toInt64, Int64.reduceToInt, zc_1000, zc_100, zc_10, zc_9, zc_2, ci_f, f1, f2, f4, f5, inv.cF.s, zq_hInw, zq_hLnw, zq_hRnw, zq_hNnw, zq_hZnw, zq_hZsZ, zq_hNsN, zq_hIsZ, zq_hIsN, zq_hLsZ, zq_hLsN, zq_hRsZ, zq_hRsN, zq_hNsZ, zq_hZsN, kF_2, kF_3, kF_4, kF_5, kF_6, kF_7, kF_8, kF_9, kF_10, kF_11, kF_12, kF_13]
  refine ⟨fun qc1 => ?_, fun qc1 => ?_⟩
  · try simp only [b2_0, Classical.not_not] at qc1
    try simp only [Int64.le_iff_toInt_le, Int64.lt_iff_toInt_lt, Int32.lt_iff_toInt_lt, Int32.le_iff_toInt_le, Int32.toInt_toInt64, Int64.reduceToInt, Int32.reduceToInt, Int.reduceNeg, Classical.not_not, i32e, l_add] at qc1
    refine st b_X3_folioForLineOf_17 _ _ k_X3_folioForLineOf_17 _ _ _ _ _ ?_
    simp only [b_X3_folioForLineOf_17, zr_aload_n0, zr_aload_n1, zr_badd, zr_dup, zr_get0, zr_get2, zr_iadd, zr_iconst, zr_pop, zr_put0, zr_nil, zr_cons, ↓reduceIte, Nat.reduceAdd, Nat.reduceEqDiff, Nat.reduceLeDiff, Nat.reduceMul, Nat.reduceSub, Int32.reduceOfInt, Int64.reduceOfInt, Int64.reduceOfNat, true_and, and_true, false_and, and_false, or_false, false_or, true_or, or_true, Int.reduceEq, reduceCtorEq, or_self, and_self, ne_eq, not_false_eq_true, not_true_eq_false, eq_self, Nat.le_refl, Nat.zero_le, zr_eI, zr_eL, zr_eR, zr_pI, zr_pL, zr_pR, zr_pO, zr_pV, zq_pA0, zq_pA, zr_get, zr_put_n, zr_put, zr_rem_n, zr_rem, zr_cat_i, zr_cat_l, zr_cat_q, zr_w_n, zr_w, zr_args_n, zr_args, zr_tl_s, zr_tl_n, zq_hIsI, zq_hLsL, zq_hRsR, zq_hIsL, zq_hIsR, zq_hLsI, zq_hLsR, zq_hRsI, zq_hRsL, zq_hNsI, zq_hNsL, zq_hNsR, zq_hZsI, zq_hZsL, zq_hZsR, b2_01, Classical.not_not, Int32.toInt_toInt64, Int64.reduceToInt, zc_1000, zc_100, zc_10, zc_9, zc_2, ci_f, f1, f2, f4, f5, inv.cF.s, zq_hInw, zq_hLnw, zq_hRnw, zq_hNnw, zq_hZnw, zq_hZsZ, zq_hNsN, zq_hIsZ, zq_hIsN, zq_hLsZ, zq_hLsN, zq_hRsZ, zq_hRsN, zq_hNsZ, zq_hZsN, kF_2, kF_3, kF_4, kF_5, kF_6, kF_7, kF_8, kF_9, kF_10, kF_11, kF_12, kF_13]
    repeat (with_reducible refine ⟨by omega, ?_⟩)
    intro nb
    refine st b_X3_folioForLineOf_55 _ _ k_X3_folioForLineOf_55 _ _ _ _ _ ?_
    simp only [b_X3_folioForLineOf_55, zr_T, zr_aload_n1, zr_dup, zr_get0, zr_iadd, zr_iconst, zr_iret, zr_put0, zr_rt_a, zr_rt_i, zr_rt_l, zr_rt_n, zr_rt_z, zr_nil, zr_cons, ↓reduceIte, Nat.reduceAdd, Nat.reduceEqDiff, Nat.reduceLeDiff, Nat.reduceMul, Nat.reduceSub, Int32.reduceOfInt, Int64.reduceOfInt, Int64.reduceOfNat, true_and, and_true, false_and, and_false, or_false, false_or, true_or, or_true, Int.reduceEq, reduceCtorEq, or_self, and_self, ne_eq, not_false_eq_true, not_true_eq_false, eq_self, Nat.le_refl, Nat.zero_le, zr_eI, zr_eL, zr_eR, zr_pI, zr_pL, zr_pR, zr_pO, zr_pV, zq_pA0, zq_pA, zr_get, zr_put_n, zr_put, zr_rem_n, zr_rem, zr_cat_i, zr_cat_l, zr_cat_q, zr_w_n, zr_w, zr_args_n, zr_args, zr_tl_s, zr_tl_n, zq_hIsI, zq_hLsL, zq_hRsR, zq_hIsL, zq_hIsR, zq_hLsI, zq_hLsR, zq_hRsI, zq_hRsL, zq_hNsI, zq_hNsL, zq_hNsR, zq_hZsI, zq_hZsL, zq_hZsR, b2_01, Classical.not_not, Int32.toInt_toInt64, Int64.reduceToInt, zc_1000, zc_100, zc_10, zc_9, zc_2, ci_f, f1, f2, f4, f5, inv.cF.s, zq_hInw, zq_hLnw, zq_hRnw, zq_hNnw, zq_hZnw, zq_hZsZ, zq_hNsN, zq_hIsZ, zq_hIsN, zq_hLsZ, zq_hLsN, zq_hRsZ, zq_hRsN, zq_hNsZ, zq_hZsN, kF_2, kF_3, kF_4, kF_5, kF_6, kF_7, kF_8, kF_9, kF_10, kF_11, kF_12, kF_13]
    repeat (with_reducible refine ⟨by omega, ?_⟩)
    first
      | (refine ⟨?_, nb, ?_⟩
         · refine congrArg (fun q => some (z_i q)) ?_
           rw [off_p (by omega)]
           exact inv.cF.1
         · rw [hff_p (by omega), ← f5]
           rfl)
      | (refine ⟨?_, 0, ?_⟩
         · rw [off_n (by omega)]
         · rw [hff_n (by omega)])
  · try simp only [b2_0, Classical.not_not] at qc1
    try simp only [Int64.le_iff_toInt_le, Int64.lt_iff_toInt_lt, Int32.lt_iff_toInt_lt, Int32.le_iff_toInt_le, Int32.toInt_toInt64, Int64.reduceToInt, Int32.reduceToInt, Int.reduceNeg, Classical.not_not, i32e, l_add] at qc1
    have kf := ci_int (x := o_fol (mA S 55) a (nF S)) (by omega)
    have f6 := f3 (by omega)
    have j8 := (inv.fol (ci (o_fol (mA S 55) a (nF S))) (by omega)).2
    try simp only [zr_aload_n1, zr_bipush, zr_cP_lt, zr_get0, zr_icmp, zr_nil, zr_cons, ↓reduceIte, Nat.reduceAdd, Nat.reduceEqDiff, Nat.reduceLeDiff, Nat.reduceMul, Nat.reduceSub, Int32.reduceOfInt, Int64.reduceOfInt, Int64.reduceOfNat, true_and, and_true, false_and, and_false, or_false, false_or, true_or, or_true, Int.reduceEq, reduceCtorEq, or_self, and_self, ne_eq, not_false_eq_true, not_true_eq_false, eq_self, Nat.le_refl, Nat.zero_le, zr_eI, zr_eL, zr_eR, zr_pI, zr_pL, zr_pR, zr_pO, zr_pV, zq_pA0, zq_pA, zr_get, zr_put_n, zr_put, zr_rem_n, zr_rem, zr_cat_i, zr_cat_l, zr_cat_q, zr_w_n, zr_w, zr_args_n, zr_args, zr_tl_s, zr_tl_n, zq_hIsI, zq_hLsL, zq_hRsR, zq_hIsL, zq_hIsR, zq_hLsI, zq_hLsR, zq_hRsI, zq_hRsL, zq_hNsI, zq_hNsL, zq_hNsR, zq_hZsI, zq_hZsL, zq_hZsR, b2_01, Classical.not_not, Int32.toInt_toInt64, Int64.reduceToInt, zc_1000, zc_100, zc_10, zc_9, zc_2, ci_f, f1, f2, f4, f5, inv.cF.s, zq_hInw, zq_hLnw, zq_hRnw, zq_hNnw, zq_hZnw, zq_hZsZ, zq_hNsN, zq_hIsZ, zq_hIsN, zq_hLsZ, zq_hLsN, zq_hRsZ, zq_hRsN, zq_hNsZ, zq_hZsN, kF_2, kF_3, kF_4, kF_5, kF_6, kF_7, kF_8, kF_9, kF_10, kF_11, kF_12, kF_13, f6]
    refine ⟨fun qc2 => ?_, fun qc2 => ?_⟩
    · try simp only [b2_0, Classical.not_not] at qc2
      try simp only [Int64.le_iff_toInt_le, Int64.lt_iff_toInt_lt, Int32.lt_iff_toInt_lt, Int32.le_iff_toInt_le, Int32.toInt_toInt64, Int64.reduceToInt, Int32.reduceToInt, Int.reduceNeg, Classical.not_not, i32e, l_add] at qc2
      refine st b_X3_folioForLineOf_55 _ _ k_X3_folioForLineOf_55 _ _ _ _ _ ?_
      simp only [b_X3_folioForLineOf_55, zr_T, zr_aload_n1, zr_dup, zr_get0, zr_iadd, zr_iconst, zr_iret, zr_put0, zr_rt_a, zr_rt_i, zr_rt_l, zr_rt_n, zr_rt_z, zr_nil, zr_cons, ↓reduceIte, Nat.reduceAdd, Nat.reduceEqDiff, Nat.reduceLeDiff, Nat.reduceMul, Nat.reduceSub, Int32.reduceOfInt, Int64.reduceOfInt, Int64.reduceOfNat, true_and, and_true, false_and, and_false, or_false, false_or, true_or, or_true, Int.reduceEq, reduceCtorEq, or_self, and_self, ne_eq, not_false_eq_true, not_true_eq_false, eq_self, Nat.le_refl, Nat.zero_le, zr_eI, zr_eL, zr_eR, zr_pI, zr_pL, zr_pR, zr_pO, zr_pV, zq_pA0, zq_pA, zr_get, zr_put_n, zr_put, zr_rem_n, zr_rem, zr_cat_i, zr_cat_l, zr_cat_q, zr_w_n, zr_w, zr_args_n, zr_args, zr_tl_s, zr_tl_n, zq_hIsI, zq_hLsL, zq_hRsR, zq_hIsL, zq_hIsR, zq_hLsI, zq_hLsR, zq_hRsI, zq_hRsL, zq_hNsI, zq_hNsL, zq_hNsR, zq_hZsI, zq_hZsL, zq_hZsR, b2_01, Classical.not_not, Int32.toInt_toInt64, Int64.reduceToInt, zc_1000, zc_100, zc_10, zc_9, zc_2, ci_f, f1, f2, f4, f5, inv.cF.s, zq_hInw, zq_hLnw, zq_hRnw, zq_hNnw, zq_hZnw, zq_hZsZ, zq_hNsN, zq_hIsZ, zq_hIsN, zq_hLsZ, zq_hLsN, zq_hRsZ, zq_hRsN, zq_hNsZ, zq_hZsN, kF_2, kF_3, kF_4, kF_5, kF_6, kF_7, kF_8, kF_9, kF_10, kF_11, kF_12, kF_13, f6]
      repeat (with_reducible refine ⟨by omega, ?_⟩)
      first
        | (refine ⟨?_, nb, ?_⟩
           · refine congrArg (fun q => some (z_i q)) ?_
             rw [off_p (by omega)]
             exact inv.cF.1
           · rw [hff_p (by omega), ← f5]
             rfl)
        | (refine ⟨?_, 0, ?_⟩
           · rw [off_n (by omega)]
           · rw [hff_n (by omega)])
    · try simp only [b2_0, Classical.not_not] at qc2
      try simp only [Int64.le_iff_toInt_le, Int64.lt_iff_toInt_lt, Int32.lt_iff_toInt_lt, Int32.le_iff_toInt_le, Int32.toInt_toInt64, Int64.reduceToInt, Int32.reduceToInt, Int.reduceNeg, Classical.not_not, i32e, l_add] at qc2
      refine st b_X3_folioForLineOf_17 _ _ k_X3_folioForLineOf_17 _ _ _ _ _ ?_
      simp only [b_X3_folioForLineOf_17, zr_aload_n0, zr_aload_n1, zr_badd, zr_dup, zr_get0, zr_get2, zr_iadd, zr_iconst, zr_pop, zr_put0, zr_nil, zr_cons, ↓reduceIte, Nat.reduceAdd, Nat.reduceEqDiff, Nat.reduceLeDiff, Nat.reduceMul, Nat.reduceSub, Int32.reduceOfInt, Int64.reduceOfInt, Int64.reduceOfNat, true_and, and_true, false_and, and_false, or_false, false_or, true_or, or_true, Int.reduceEq, reduceCtorEq, or_self, and_self, ne_eq, not_false_eq_true, not_true_eq_false, eq_self, Nat.le_refl, Nat.zero_le, zr_eI, zr_eL, zr_eR, zr_pI, zr_pL, zr_pR, zr_pO, zr_pV, zq_pA0, zq_pA, zr_get, zr_put_n, zr_put, zr_rem_n, zr_rem, zr_cat_i, zr_cat_l, zr_cat_q, zr_w_n, zr_w, zr_args_n, zr_args, zr_tl_s, zr_tl_n, zq_hIsI, zq_hLsL, zq_hRsR, zq_hIsL, zq_hIsR, zq_hLsI, zq_hLsR, zq_hRsI, zq_hRsL, zq_hNsI, zq_hNsL, zq_hNsR, zq_hZsI, zq_hZsL, zq_hZsR, b2_01, Classical.not_not, Int32.toInt_toInt64, Int64.reduceToInt, zc_1000, zc_100, zc_10, zc_9, zc_2, ci_f, f1, f2, f4, f5, inv.cF.s, zq_hInw, zq_hLnw, zq_hRnw, zq_hNnw, zq_hZnw, zq_hZsZ, zq_hNsN, zq_hIsZ, zq_hIsN, zq_hLsZ, zq_hLsN, zq_hRsZ, zq_hRsN, zq_hNsZ, zq_hZsN, kF_2, kF_3, kF_4, kF_5, kF_6, kF_7, kF_8, kF_9, kF_10, kF_11, kF_12, kF_13, f6]
      repeat (with_reducible refine ⟨by omega, ?_⟩)
      intro nb
      refine st b_X3_folioForLineOf_55 _ _ k_X3_folioForLineOf_55 _ _ _ _ _ ?_
      simp only [b_X3_folioForLineOf_55, zr_T, zr_aload_n1, zr_dup, zr_get0, zr_iadd, zr_iconst, zr_iret, zr_put0, zr_rt_a, zr_rt_i, zr_rt_l, zr_rt_n, zr_rt_z, zr_nil, zr_cons, ↓reduceIte, Nat.reduceAdd, Nat.reduceEqDiff, Nat.reduceLeDiff, Nat.reduceMul, Nat.reduceSub, Int32.reduceOfInt, Int64.reduceOfInt, Int64.reduceOfNat, true_and, and_true, false_and, and_false, or_false, false_or, true_or, or_true, Int.reduceEq, reduceCtorEq, or_self, and_self, ne_eq, not_false_eq_true, not_true_eq_false, eq_self, Nat.le_refl, Nat.zero_le, zr_eI, zr_eL, zr_eR, zr_pI, zr_pL, zr_pR, zr_pO, zr_pV, zq_pA0, zq_pA, zr_get, zr_put_n, zr_put, zr_rem_n, zr_rem, zr_cat_i, zr_cat_l, zr_cat_q, zr_w_n, zr_w, zr_args_n, zr_args, zr_tl_s, zr_tl_n, zq_hIsI, zq_hLsL, zq_hRsR, zq_hIsL, zq_hIsR, zq_hLsI, zq_hLsR, zq_hRsI, zq_hRsL, zq_hNsI, zq_hNsL, zq_hNsR, zq_hZsI, zq_hZsL, zq_hZsR, b2_01, Classical.not_not, Int32.toInt_toInt64, Int64.reduceToInt, zc_1000, zc_100, zc_10, zc_9, zc_2, ci_f, f1, f2, f4, f5, inv.cF.s, zq_hInw, zq_hLnw, zq_hRnw, zq_hNnw, zq_hZnw, zq_hZsZ, zq_hNsN, zq_hIsZ, zq_hIsN, zq_hLsZ, zq_hLsN, zq_hRsZ, zq_hRsN, zq_hNsZ, zq_hZsN, kF_2, kF_3, kF_4, kF_5, kF_6, kF_7, kF_8, kF_9, kF_10, kF_11, kF_12, kF_13, f6]
      repeat (with_reducible refine ⟨by omega, ?_⟩)
      first
        | (refine ⟨?_, nb, ?_⟩
           · refine congrArg (fun q => some (z_i q)) ?_
             rw [off_p (by omega)]
             exact inv.cF.1
           · rw [hff_p (by omega), ← f5]
             rfl)
        | (refine ⟨?_, 0, ?_⟩
           · rw [off_n (by omega)]
           · rw [hff_n (by omega)])
theorem cr_ffP {tr : z_TR} {S : z_M} {h : z_H} (C : CR tr S h) (inv : INV S) {a : Int32} {nb : Nat} (ha : isx a (nA S)) (hl : nL S < 2000) (q : o_fc S a) : CR tr (o_ff S a).2 (hff S a h nb) := by
  have hfl := inv.fl
  have hf := o_fol_in (mA S 55) a (nF S) (by omega)
  have ka := ci_lt ha
  have na := ci_nIx ha
  have bA : nA S ≤ 24 := inv.cA.2
  have j5 := (C.fol (ci a) ka).1
  rw [na] at j5
  rw [hff_p q, off_p q]
  dsimp only
  have eF : ci (nI (nF S + 1)) = nF S + 1 := ci_nI (by omega)
  have w55 : ∀ i, mA (uA (uS (uA (uA S 55 (nF S) a) 56 (nF S) 0) 20 (nI (nF S + 1))) 56 (nF S) 1) 55 i = if i = nF S then a else mA S 55 i := fun i => by
    simp only [zq_hIsI, zq_hLsL, zq_hRsR, zq_hZsZ, zq_hNsN, zq_hInw, zq_hLnw, zq_hRnw, zq_hNnw, zq_hZnw, zq_hIsL, zq_hIsR, zq_hIsZ, zq_hIsN, zq_hLsI, zq_hLsR, zq_hLsZ, zq_hLsN, zq_hRsI, zq_hRsL, zq_hRsZ, zq_hRsN, zq_hNsI, zq_hNsL, zq_hNsR, zq_hNsZ, zq_hZsI, zq_hZsL, zq_hZsR, zq_hZsN, mA_uA, mB_uB, mS_uS, mT_uT, mA_uB, mA_uS, mA_uT, mB_uA, mB_uS, mB_uT, mS_uA, mS_uB, mS_uT, mT_uA, mT_uB, mT_uS, Nat.reduceEqDiff, true_and, and_true, false_and, and_false, ↓reduceIte]
  have w56 : ∀ i, mA (uA (uS (uA (uA S 55 (nF S) a) 56 (nF S) 0) 20 (nI (nF S + 1))) 56 (nF S) 1) 56 i = if i = nF S then 1 else mA S 56 i := fun i => by
    simp only [zq_hIsI, zq_hLsL, zq_hRsR, zq_hZsZ, zq_hNsN, zq_hInw, zq_hLnw, zq_hRnw, zq_hNnw, zq_hZnw, zq_hIsL, zq_hIsR, zq_hIsZ, zq_hIsN, zq_hLsI, zq_hLsR, zq_hLsZ, zq_hLsN, zq_hRsI, zq_hRsL, zq_hRsZ, zq_hRsN, zq_hNsI, zq_hNsL, zq_hNsR, zq_hNsZ, zq_hZsI, zq_hZsL, zq_hZsR, zq_hZsN, mA_uA, mB_uB, mS_uS, mT_uT, mA_uB, mA_uS, mA_uT, mB_uA, mB_uS, mB_uT, mS_uA, mS_uB, mS_uT, mT_uA, mT_uB, mT_uS, Nat.reduceEqDiff, true_and, and_true, false_and, and_false, ↓reduceIte]
    split <;> rfl
  have eF' : nF (uA (uS (uA (uA S 55 (nF S) a) 56 (nF S) 0) 20 (nI (nF S + 1))) 56 (nF S) 1) = nF S + 1 := eF
  have fo : ∀ b, b < nA S → o_fol (mA (uA (uS (uA (uA S 55 (nF S) a) 56 (nF S) 0) 20 (nI (nF S + 1))) 56 (nF S) 1) 55) (nI b) (nF S + 1) = (if b = ci a then nI (nF S) else o_fol (mA S 55) (nI b) (nF S)) ∧ o_nf (mA (uA (uS (uA (uA S 55 (nF S) a) 56 (nF S) 0) 20 (nI (nF S + 1))) 56 (nF S) 1) 55) (nI b) (nF S + 1) = o_nf (mA S 55) (nI b) (nF S) + (if b = ci a then 1 else 0) := fun b hb => by
    have tb := nI_toInt (show b < 2 ^ 31 by omega)
    have ta := ci_int ha.1
    have cg := fol_c (w := mA S 55) (w' := mA (uA (uS (uA (uA S 55 (nF S) a) 56 (nF S) 0) 20 (nI (nF S + 1))) 56 (nF S) 1) 55) (a := nI b) (n := nF S) (fun i hi => by rw [w55, if_neg (by omega)])
    refine ⟨?_, ?_⟩
    · show (if (mA (uA (uS (uA (uA S 55 (nF S) a) 56 (nF S) 0) 20 (nI (nF S + 1))) 56 (nF S) 1) 55 (nF S)).toInt = (nI b).toInt then nI (nF S) else o_fol (mA (uA (uS (uA (uA S 55 (nF S) a) 56 (nF S) 0) 20 (nI (nF S + 1))) 56 (nF S) 1) 55) (nI b) (nF S)) = _
      rw [w55, if_pos rfl, cg.1]
      by_cases e : b = ci a
      · rw [if_pos (by omega), if_pos e]
      · rw [if_neg (by omega), if_neg e]
    · show o_nf (mA (uA (uS (uA (uA S 55 (nF S) a) 56 (nF S) 0) 20 (nI (nF S + 1))) 56 (nF S) 1) 55) (nI b) (nF S) + (if (mA (uA (uS (uA (uA S 55 (nF S) a) 56 (nF S) 0) 20 (nI (nF S + 1))) 56 (nF S) 1) 55 (nF S)).toInt = (nI b).toInt then 1 else 0) = _
      rw [w55, if_pos rfl, cg.2]
      by_cases e : b = ci a
      · rw [if_pos (by omega), if_pos e]
      · rw [if_neg (by omega), if_neg e]
  unfold CR
  refine ⟨C.xA, C.xK, C.xL, C.xE, C.xO, C.xR, C.xX, C.xF, C.zK, C.zA, C.zR, C.zO, C.zE, C.zS, C.zL, C.ref, C.day, C.wai, C.fee, C.ter, C.hou, C.scn, ?_, C.kin, ?_, ?_, C.rec, C.ord, C.lin, C.len, C.row, C.sus⟩
  · simp only [zq_hIsI, zq_hLsL, zq_hRsR, zq_hZsZ, zq_hNsN, zq_hInw, zq_hLnw, zq_hRnw, zq_hNnw, zq_hZnw, zq_hIsL, zq_hIsR, zq_hIsZ, zq_hIsN, zq_hLsI, zq_hLsR, zq_hLsZ, zq_hLsN, zq_hRsI, zq_hRsL, zq_hRsZ, zq_hRsN, zq_hNsI, zq_hNsL, zq_hNsR, zq_hNsZ, zq_hZsI, zq_hZsL, zq_hZsR, zq_hZsN, mA_uA, mB_uB, mS_uS, mT_uT, mA_uB, mA_uS, mA_uT, mB_uA, mB_uS, mB_uT, mS_uA, mS_uB, mS_uT, mT_uA, mT_uB, mT_uS, Nat.reduceEqDiff, true_and, and_true, false_and, and_false, ↓reduceIte]
  · intro b hb
    have j := C.acc b hb
    have f := fo b hb
    rw [eF', f.1]
    by_cases e : b = ci a
    · simp only [zq_hIsI, zq_hLsL, zq_hRsR, zq_hZsZ, zq_hNsN, zq_hInw, zq_hLnw, zq_hRnw, zq_hNnw, zq_hZnw, zq_hIsL, zq_hIsR, zq_hIsZ, zq_hIsN, zq_hLsI, zq_hLsR, zq_hLsZ, zq_hLsN, zq_hRsI, zq_hRsL, zq_hRsZ, zq_hRsN, zq_hNsI, zq_hNsL, zq_hNsR, zq_hNsZ, zq_hZsI, zq_hZsL, zq_hZsR, zq_hZsN, mA_uA, mB_uB, mS_uS, mT_uT, mA_uB, mA_uS, mA_uT, mB_uA, mB_uS, mB_uT, mS_uA, mS_uB, mS_uT, mT_uA, mT_uB, mT_uS, Nat.reduceEqDiff, true_and, and_true, false_and, and_false, ↓reduceIte, e, w56, eF]
      rw [e] at j
      refine ⟨j.1, inv.cF.1, fun _ => ?_, j.2.2.2.1, j.2.2.2.2.1, j.2.2.2.2.2.1, j.2.2.2.2.2.2⟩
      rw [ci_nI (by omega), if_pos rfl]
    · simp only [zq_hIsI, zq_hLsL, zq_hRsR, zq_hZsZ, zq_hNsN, zq_hInw, zq_hLnw, zq_hRnw, zq_hNnw, zq_hZnw, zq_hIsL, zq_hIsR, zq_hIsZ, zq_hIsN, zq_hLsI, zq_hLsR, zq_hLsZ, zq_hLsN, zq_hRsI, zq_hRsL, zq_hRsZ, zq_hRsN, zq_hNsI, zq_hNsL, zq_hNsR, zq_hNsZ, zq_hZsI, zq_hZsL, zq_hZsR, zq_hZsN, mA_uA, mB_uB, mS_uS, mT_uT, mA_uB, mA_uS, mA_uT, mB_uA, mB_uS, mB_uT, mS_uA, mS_uB, mS_uT, mT_uA, mT_uB, mT_uS, Nat.reduceEqDiff, true_and, and_true, false_and, and_false, ↓reduceIte, e, w56]
      have hb' := o_fol_in (mA S 55) (nI b) (nF S) (by omega)
      refine ⟨j.1, j.2.1, fun z => ?_, j.2.2.2.1, j.2.2.2.2.1, j.2.2.2.2.2.1, j.2.2.2.2.2.2⟩
      have kc := ci_int z
      rw [if_neg (by omega)]
      exact j.2.2.1 z
  · intro b hb
    have j := C.fol b hb
    have f := fo b hb
    rw [eF', f.2]
    have hb' : b < nA S := hb
    have tb := nI_toInt (show b < 2 ^ 31 by omega)
    have ta := ci_int ha.1
    have cg : ∀ i, i ≤ nF S → o_nf (mA (uA (uS (uA (uA S 55 (nF S) a) 56 (nF S) 0) 20 (nI (nF S + 1))) 56 (nF S) 1) 55) (nI b) i = o_nf (mA S 55) (nI b) i := fun i hi => (fol_c (fun i2 hi2 => by rw [w55, if_neg (by omega)])).2
    refine ⟨?_, fun i hi z => ?_⟩
    · by_cases e : b = ci a
      · simp only [zq_hIsI, zq_hLsL, zq_hRsR, zq_hZsZ, zq_hNsN, zq_hInw, zq_hLnw, zq_hRnw, zq_hNnw, zq_hZnw, zq_hIsL, zq_hIsR, zq_hIsZ, zq_hIsN, zq_hLsI, zq_hLsR, zq_hLsZ, zq_hLsN, zq_hRsI, zq_hRsL, zq_hRsZ, zq_hRsN, zq_hNsI, zq_hNsL, zq_hNsR, zq_hNsZ, zq_hZsI, zq_hZsL, zq_hZsR, zq_hZsN, mA_uA, mB_uB, mS_uS, mT_uT, mA_uB, mA_uS, mA_uT, mB_uA, mB_uS, mB_uT, mS_uA, mS_uB, mS_uT, mT_uA, mT_uB, mT_uS, Nat.reduceEqDiff, true_and, and_true, false_and, and_false, ↓reduceIte, e]
        rw [j5, na]
      · simp only [zq_hIsI, zq_hLsL, zq_hRsR, zq_hZsZ, zq_hNsN, zq_hInw, zq_hLnw, zq_hRnw, zq_hNnw, zq_hZnw, zq_hIsL, zq_hIsR, zq_hIsZ, zq_hIsN, zq_hLsI, zq_hLsR, zq_hLsZ, zq_hLsN, zq_hRsI, zq_hRsL, zq_hRsZ, zq_hRsN, zq_hNsI, zq_hNsL, zq_hNsR, zq_hNsZ, zq_hZsI, zq_hZsL, zq_hZsR, zq_hZsN, mA_uA, mB_uB, mS_uS, mT_uT, mA_uB, mA_uS, mA_uT, mB_uA, mB_uS, mB_uT, mS_uA, mS_uB, mS_uT, mT_uA, mT_uB, mT_uS, Nat.reduceEqDiff, true_and, and_true, false_and, and_false, ↓reduceIte, e]
        exact j.1
    · rw [w55] at z
      by_cases ei : i = nF S
      · rw [if_pos ei] at z
        have e : b = ci a := by omega
        rw [cg i (by omega), ei]
        simp only [zq_hIsI, zq_hLsL, zq_hRsR, zq_hZsZ, zq_hNsN, zq_hInw, zq_hLnw, zq_hRnw, zq_hNnw, zq_hZnw, zq_hIsL, zq_hIsR, zq_hIsZ, zq_hIsN, zq_hLsI, zq_hLsR, zq_hLsZ, zq_hLsN, zq_hRsI, zq_hRsL, zq_hRsZ, zq_hRsN, zq_hNsI, zq_hNsL, zq_hNsR, zq_hNsZ, zq_hZsI, zq_hZsL, zq_hZsR, zq_hZsN, mA_uA, mB_uB, mS_uS, mT_uT, mA_uB, mA_uS, mA_uT, mB_uA, mB_uS, mB_uT, mS_uA, mS_uB, mS_uT, mT_uA, mT_uB, mT_uS, Nat.reduceEqDiff, true_and, and_true, false_and, and_false, ↓reduceIte, e]
        rw [j5, na, if_pos rfl]
        exact inv.cF.1
      · rw [if_neg ei] at z
        have ji := j.2 i (by omega) z
        rw [cg i (by omega)]
        have l1 : o_nf (mA S 55) (nI b) (i + 1) ≤ o_nf (mA S 55) (nI b) (nF S) := o_nf_le (by omega)
        have l2 : o_nf (mA S 55) (nI b) (i + 1) = o_nf (mA S 55) (nI b) i + 1 := by
          show o_nf (mA S 55) (nI b) i + (if (mA S 55 i).toInt = (nI b).toInt then 1 else 0) = _
          rw [if_pos z]
        by_cases e : b = ci a
        · simp only [zq_hIsI, zq_hLsL, zq_hRsR, zq_hZsZ, zq_hNsN, zq_hInw, zq_hLnw, zq_hRnw, zq_hNnw, zq_hZnw, zq_hIsL, zq_hIsR, zq_hIsZ, zq_hIsN, zq_hLsI, zq_hLsR, zq_hLsZ, zq_hLsN, zq_hRsI, zq_hRsL, zq_hRsZ, zq_hRsN, zq_hNsI, zq_hNsL, zq_hNsR, zq_hNsZ, zq_hZsI, zq_hZsL, zq_hZsR, zq_hZsN, mA_uA, mB_uB, mS_uS, mT_uT, mA_uB, mA_uS, mA_uT, mB_uA, mB_uS, mB_uT, mS_uA, mS_uB, mS_uT, mT_uA, mT_uB, mT_uS, Nat.reduceEqDiff, true_and, and_true, false_and, and_false, ↓reduceIte, e]
          rw [e, na] at l1 l2 ji
          rw [j5, na, if_neg (by omega)]
          exact ji
        · simp only [zq_hIsI, zq_hLsL, zq_hRsR, zq_hZsZ, zq_hNsN, zq_hInw, zq_hLnw, zq_hRnw, zq_hNnw, zq_hZnw, zq_hIsL, zq_hIsR, zq_hIsZ, zq_hIsN, zq_hLsI, zq_hLsR, zq_hLsZ, zq_hLsN, zq_hRsI, zq_hRsL, zq_hRsZ, zq_hRsN, zq_hNsI, zq_hNsL, zq_hNsR, zq_hNsZ, zq_hZsI, zq_hZsL, zq_hZsR, zq_hZsN, mA_uA, mB_uB, mS_uS, mT_uT, mA_uB, mA_uS, mA_uT, mB_uA, mB_uS, mB_uT, mS_uA, mS_uB, mS_uT, mT_uA, mT_uB, mT_uS, Nat.reduceEqDiff, true_and, and_true, false_and, and_false, ↓reduceIte, e]
          exact ji

theorem cr_ffN {tr : z_TR} {S : z_M} {h : z_H} (C : CR tr S h) (inv : INV S) {a : Int32} {nb : Nat} (ha : isx a (nA S)) (hl : nL S < 2000) (q : ¬ o_fc S a) : CR tr (o_ff S a).2 (hff S a h nb) := by
  have hfl := inv.fl
  have hf := o_fol_in (mA S 55) a (nF S) (by omega)
  have ka := ci_lt ha
  have na := ci_nIx ha
  have bA : nA S ≤ 24 := inv.cA.2
  have j5 := (C.fol (ci a) ka).1
  rw [na] at j5
  rw [hff_n q, off_n q]
  dsimp only
  have w56 : ∀ i, mA (uA S 56 (ci (o_fol (mA S 55) a (nF S))) (mA S 56 (ci (o_fol (mA S 55) a (nF S))) + 1)) 56 i = if i = ci (o_fol (mA S 55) a (nF S)) then mA S 56 (ci (o_fol (mA S 55) a (nF S))) + 1 else mA S 56 i := fun i => by
    simp only [zq_hIsI, zq_hLsL, zq_hRsR, zq_hZsZ, zq_hNsN, zq_hInw, zq_hLnw, zq_hRnw, zq_hNnw, zq_hZnw, zq_hIsL, zq_hIsR, zq_hIsZ, zq_hIsN, zq_hLsI, zq_hLsR, zq_hLsZ, zq_hLsN, zq_hRsI, zq_hRsL, zq_hRsZ, zq_hRsN, zq_hNsI, zq_hNsL, zq_hNsR, zq_hNsZ, zq_hZsI, zq_hZsL, zq_hZsR, zq_hZsN, mA_uA, mB_uB, mS_uS, mT_uT, mA_uB, mA_uS, mA_uT, mB_uA, mB_uS, mB_uT, mS_uA, mS_uB, mS_uT, mT_uA, mT_uB, mT_uS, Nat.reduceEqDiff, true_and, and_true, false_and, and_false, ↓reduceIte]
  unfold CR
  refine ⟨C.xA, C.xK, C.xL, C.xE, C.xO, C.xR, C.xX, C.xF, C.zK, C.zA, C.zR, C.zO, C.zE, C.zS, C.zL, C.ref, C.day, C.wai, C.fee, C.ter, C.hou, C.scn, C.fcn, C.kin, ?_, C.fol, C.rec, C.ord, C.lin, C.len, C.row, C.sus⟩
  · intro b hb
    have j := C.acc b hb
    have ta := ci_int ha.1
    have tb := nI_toInt (show b < 2 ^ 31 by have : b < nA S := hb; omega)
    show hI (sI h 2 (ci a) 3 (mA S 56 (ci (o_fol (mA S 55) a (nF S))) + 1)) 2 b 0 = _ ∧ hI (sI h 2 (ci a) 3 (mA S 56 (ci (o_fol (mA S 55) a (nF S))) + 1)) 2 b 2 = o_fol (mA S 55) (nI b) (nF S) ∧ (0 ≤ (o_fol (mA S 55) (nI b) (nF S)).toInt → hI (sI h 2 (ci a) 3 (mA S 56 (ci (o_fol (mA S 55) a (nF S))) + 1)) 2 b 3 = mA (uA S 56 (ci (o_fol (mA S 55) a (nF S))) (mA S 56 (ci (o_fol (mA S 55) a (nF S))) + 1)) 56 (ci (o_fol (mA S 55) (nI b) (nF S)))) ∧ _
    simp only [zq_hIsI, zq_hLsL, zq_hRsR, zq_hZsZ, zq_hNsN, zq_hInw, zq_hLnw, zq_hRnw, zq_hNnw, zq_hZnw, zq_hIsL, zq_hIsR, zq_hIsZ, zq_hIsN, zq_hLsI, zq_hLsR, zq_hLsZ, zq_hLsN, zq_hRsI, zq_hRsL, zq_hRsZ, zq_hRsN, zq_hNsI, zq_hNsL, zq_hNsR, zq_hNsZ, zq_hZsI, zq_hZsL, zq_hZsR, zq_hZsN, mA_uA, mB_uB, mS_uS, mT_uT, mA_uB, mA_uS, mA_uT, mB_uA, mB_uS, mB_uT, mS_uA, mS_uB, mS_uT, mT_uA, mT_uB, mT_uS, Nat.reduceEqDiff, true_and, and_true, false_and, and_false, ↓reduceIte, w56]
    refine ⟨j.1, j.2.1, fun z => ?_, j.2.2.2.1, j.2.2.2.2.1, j.2.2.2.2.2.1, j.2.2.2.2.2.2⟩
    by_cases e : b = ci a
    · simp only [zq_hIsI, zq_hLsL, zq_hRsR, zq_hZsZ, zq_hNsN, zq_hInw, zq_hLnw, zq_hRnw, zq_hNnw, zq_hZnw, zq_hIsL, zq_hIsR, zq_hIsZ, zq_hIsN, zq_hLsI, zq_hLsR, zq_hLsZ, zq_hLsN, zq_hRsI, zq_hRsL, zq_hRsZ, zq_hRsN, zq_hNsI, zq_hNsL, zq_hNsR, zq_hNsZ, zq_hZsI, zq_hZsL, zq_hZsR, zq_hZsN, mA_uA, mB_uB, mS_uS, mT_uT, mA_uB, mA_uS, mA_uT, mB_uA, mB_uS, mB_uT, mS_uA, mS_uB, mS_uT, mT_uA, mT_uB, mT_uS, Nat.reduceEqDiff, true_and, and_true, false_and, and_false, ↓reduceIte, e, na]
    · simp only [zq_hIsI, zq_hLsL, zq_hRsR, zq_hZsZ, zq_hNsN, zq_hInw, zq_hLnw, zq_hRnw, zq_hNnw, zq_hZnw, zq_hIsL, zq_hIsR, zq_hIsZ, zq_hIsN, zq_hLsI, zq_hLsR, zq_hLsZ, zq_hLsN, zq_hRsI, zq_hRsL, zq_hRsZ, zq_hRsN, zq_hNsI, zq_hNsL, zq_hNsR, zq_hNsZ, zq_hZsI, zq_hZsL, zq_hZsR, zq_hZsN, mA_uA, mB_uB, mS_uS, mT_uT, mA_uB, mA_uS, mA_uT, mB_uA, mB_uS, mB_uT, mS_uA, mS_uB, mS_uT, mT_uA, mT_uB, mT_uS, Nat.reduceEqDiff, true_and, and_true, false_and, and_false, ↓reduceIte, e]
      rw [if_neg ?_]
      · exact j.2.2.1 z
      · intro z2
        have y1 := fol_acc (show nF S < 2000000000 by omega) z
        have y2 := fol_acc (w := mA S 55) (a := a) (show nF S < 2000000000 by omega) (by omega)
        rw [z2] at y1
        omega
theorem cr_ff {tr : z_TR} {S : z_M} {h : z_H} (C : CR tr S h) (inv : INV S) {a : Int32} {nb : Nat} (ha : isx a (nA S)) (hl : nL S < 2000) : CR tr (o_ff S a).2 (hff S a h nb) := by
  by_cases q : o_fc S a
  · exact cr_ffP C inv ha hl q
  · exact cr_ffN C inv ha hl q
theorem nw_sI {h : z_H} {K i k : Nat} {v : Int32} (e : K ≠ 6) : sI (z_nw h 6) K i k v = z_nw (sI h K i k v) 6 := by
  refine Prod.ext rfl (Prod.ext ?_ (Prod.ext rfl (Prod.ext rfl rfl)))
  funext K' i' k'
  show (if K' = K ∧ i' = i ∧ k' = k then v else (if K' = 6 ∧ i' = h.1 6 then 0 else h.2.1 K' i' k')) = (if K' = 6 ∧ i' = h.1 6 then 0 else (if K' = K ∧ i' = i ∧ k' = k then v else h.2.1 K' i' k'))
  (repeat' split) <;> first | rfl | (exfalso; omega)
theorem nw_sZ {h : z_H} {K i v : Nat} (e : K ≠ 6) : sZ (z_nw h 6) K i v = z_nw (sZ h K i v) 6 := by
  refine Prod.ext rfl (Prod.ext rfl (Prod.ext rfl (Prod.ext rfl ?_)))
  funext K' i'
  show (if K' = K ∧ i' = i then v else (if K' = 6 ∧ i' = h.1 6 then 0 else h.2.2.2.2 K' i')) = (if K' = 6 ∧ i' = h.1 6 then 0 else (if K' = K ∧ i' = i then v else h.2.2.2.2 K' i'))
  (repeat' split) <;> first | rfl | (exfalso; omega)
theorem nw_sN {h : z_H} {K v : Nat} (e : K ≠ 6) : sN (z_nw h 6) K v = z_nw (sN h K v) 6 := by
  have e1 : (sN h K v).1 6 = h.1 6 := if_neg (fun q => e q.symm)
  refine Prod.ext ?_ (Prod.ext ?_ (Prod.ext ?_ (Prod.ext ?_ ?_)))
  · funext K'
    show (if K' = K then v else (if K' = 6 then h.1 6 + 1 else h.1 K')) = (if K' = 6 then (sN h K v).1 6 + 1 else (if K' = K then v else h.1 K'))
    rw [e1]
    (repeat' split) <;> first | rfl | (exfalso; omega)
  · funext K' i' k'
    show (if K' = 6 ∧ i' = h.1 6 then 0 else h.2.1 K' i' k') = (if K' = 6 ∧ i' = (sN h K v).1 6 then 0 else h.2.1 K' i' k')
    rw [e1]
  · funext K' i' k'
    show (if K' = 6 ∧ i' = h.1 6 then 0 else h.2.2.1 K' i' k') = (if K' = 6 ∧ i' = (sN h K v).1 6 then 0 else h.2.2.1 K' i' k')
    rw [e1]
  · funext K' i' k'
    show (if K' = 6 ∧ i' = h.1 6 then none else h.2.2.2.1 K' i' k') = (if K' = 6 ∧ i' = (sN h K v).1 6 then none else h.2.2.2.1 K' i' k')
    rw [e1]
  · funext K' i'
    show (if K' = 6 ∧ i' = h.1 6 then 0 else h.2.2.2.2 K' i') = (if K' = 6 ∧ i' = (sN h K v).1 6 then 0 else h.2.2.2.2 K' i')
    rw [e1]
theorem hff_nw {S : z_M} {a : Int32} {h : z_H} {nb : Nat} : hff S a (z_nw h 6) nb = z_nw (hff S a h nb) 6 := by
  have e1 : hZ (z_nw h 6) 207 (ci a) = hZ h 207 (ci a) := by rw [zr_hZnw, if_neg (by omega)]
  by_cases q : o_fc S a
  · rw [hff_p q, hff_p q, e1, nw_sI (by decide), nw_sZ (by decide), nw_sI (by decide), nw_sN (by decide), nw_sI (by decide), nw_sI (by decide), nw_sI (by decide)]
  · rw [hff_n q, hff_n q, nw_sI (by decide)]
theorem cr_ln {tr : z_TR} {T : z_M} {H : z_H} (C : CR tr T H) {a t f side order : Int32} {sum : Int64} (hl : nL T < 2000) : CR tr (o_ln T t a f side sum order) (sZ (sI (sL (sI (sI (sR (sI (z_nw H 6) 6 (nL T) 0 t) 6 (nL T) 3 (some (2, ci a))) 6 (nL T) 1 f) 6 (nL T) 4 side) 6 (nL T) 5 sum) 6 (nL T) 2 order) 206 0 (nL T + 1)) := by
  have eL : ci (nI (nL T + 1)) = nL T + 1 := ci_nI (by omega)
  unfold CR
  refine ⟨C.xA, C.xK, ?_, C.xE, C.xO, C.xR, C.xX, C.xF, C.zK, C.zA, C.zR, C.zO, C.zE, C.zS, ?_, C.ref, C.day, C.wai, C.fee, C.ter, C.hou, C.scn, C.fcn, C.kin, C.acc, C.fol, C.rec, C.ord, ?_, C.len, C.row, C.sus⟩
  · show hN H 6 + 1 = ci (nI (nL T + 1))
    rw [eL, C.xL]
  · rw [zr_hZsZ, if_pos ⟨rfl, rfl⟩]
    exact eL.symm
  · intro i hi
    have hi2 : i < ci (nI (nL T + 1)) := hi
    rw [eL] at hi2
    by_cases e : i = nL T
    · simp only [o_ln, zq_hIsI, zq_hLsL, zq_hRsR, zq_hZsZ, zq_hNsN, zq_hInw, zq_hLnw, zq_hRnw, zq_hNnw, zq_hZnw, zq_hIsL, zq_hIsR, zq_hIsZ, zq_hIsN, zq_hLsI, zq_hLsR, zq_hLsZ, zq_hLsN, zq_hRsI, zq_hRsL, zq_hRsZ, zq_hRsN, zq_hNsI, zq_hNsL, zq_hNsR, zq_hNsZ, zq_hZsI, zq_hZsL, zq_hZsR, zq_hZsN, mA_uA, mB_uB, mS_uS, mT_uT, mA_uB, mA_uS, mA_uT, mB_uA, mB_uS, mB_uT, mS_uA, mS_uB, mS_uT, mT_uA, mT_uB, mT_uS, Nat.reduceEqDiff, true_and, and_true, false_and, and_false, ↓reduceIte, e, C.xL]
    · simp only [o_ln, zq_hIsI, zq_hLsL, zq_hRsR, zq_hZsZ, zq_hNsN, zq_hInw, zq_hLnw, zq_hRnw, zq_hNnw, zq_hZnw, zq_hIsL, zq_hIsR, zq_hIsZ, zq_hIsN, zq_hLsI, zq_hLsR, zq_hLsZ, zq_hLsN, zq_hRsI, zq_hRsL, zq_hRsZ, zq_hRsN, zq_hNsI, zq_hNsL, zq_hNsR, zq_hNsZ, zq_hZsI, zq_hZsL, zq_hZsR, zq_hZsN, mA_uA, mB_uB, mS_uS, mT_uT, mA_uB, mA_uS, mA_uT, mB_uA, mB_uS, mB_uT, mS_uA, mS_uB, mS_uT, mT_uA, mT_uB, mT_uS, Nat.reduceEqDiff, true_and, and_true, false_and, and_false, ↓reduceIte, e, C.xL]
      exact C.lin i (by omega)
theorem cr_line {tr : z_TR} {S : z_M} {h : z_H} (C : CR tr S h) (inv : INV S) {a t side order : Int32} {sum : Int64} {nb : Nat} (ha : isx a (nA S)) (hl : nL S < 2000) : CR tr (o_ln (o_ff S a).2 t a (o_ff S a).1 side sum order) (sZ (sI (sL (sI (sI (sR (sI (hff S a (z_nw h 6) nb) 6 (nL S) 0 t) 6 (nL S) 3 (some (2, ci a))) 6 (nL S) 1 (o_ff S a).1) 6 (nL S) 4 side) 6 (nL S) 5 sum) 6 (nL S) 2 order) 206 0 (nL S + 1)) := by
  have eL : nL (o_ff S a).2 = nL S := by show ci _ = ci _; rw [ff_S (by decide)]
  have c := cr_ln (cr_ff (nb := nb) C inv ha hl) (a := a) (t := t) (f := (o_ff S a).1) (side := side) (order := order) (sum := sum) (by omega)
  rw [eL] at c
  rw [hff_nw]
  exact c
theorem c_enter (l : Launch) (G : z_G) (d : Nat) (hd : 9 ≤ d) (tr : z_TR) (S : z_M) (h : z_H) (C : CR tr S h) (inv : INV S) (t a : Int32) (ha : isx a (nA S)) (side : Int32) (sum : Int64) (order : Int32) (hl : nL S < 2000) : z_MT l G d yX3_enter cX3_enter 7 (some .int) [z_r 5 0, z_i t, z_r 2 (ci a), z_i side, z_l sum, z_i order] h 4 6040 (Ci tr h (o_writes S t a side sum order)) := by
  have huL : nL S = ci (mS S 19) := rfl
  have htL := inv.cL.t
  have hbL := inv.cL.2
  have hpL : (mS S 19 - 1).toInt = (ci (mS S 19) : Int) - 1 := by
    rw [sub32 (by rw [htL, show (1 : Int32).toInt = 1 from rfl]; omega) (by rw [htL, show (1 : Int32).toInt = 1 from rfl]; omega), htL]
    rfl
  have huA : nA S = ci (mS S 16) := rfl
  have htA := inv.cA.t
  have hbA := inv.cA.2
  have hpA : (mS S 16 - 1).toInt = (ci (mS S 16) : Int) - 1 := by
    rw [sub32 (by rw [htA, show (1 : Int32).toInt = 1 from rfl]; omega) (by rw [htA, show (1 : Int32).toInt = 1 from rfl]; omega), htA]
    rfl
  have tn := toIntS (show nL S < 2000000000 by omega)
  have gc := z_gc_le (nL S)
  have gs := z_gs_le (nL S)
  have ja := C.acc (ci a) (ci_lt ha)
  rw [ci_nIx ha] at ja
  have jf := (C.fol (ci a) (ci_lt ha)).1
  rw [ci_nIx ha] at jf
  refine z_mt2 5 false ⟨by decide, rfl, fun q => absurd q (by decide)⟩ (by show 7 ≤ 7; decide) (fun A st wk => ?_)
  refine st b_X3_enter_0 _ _ k_X3_enter_0 _ _ _ _ _ ?_
  simp only [b_X3_enter_0, lg_cmp_eq, lg_cmp_ge, lg_cmp_gt, lg_cmp_le, lg_cmp_lt, zr_T, zr_cP_ne, zr_iconst, zr_ifc, zr_iret, zr_lcmp, zr_lconst0, zr_lload, zr_rt_a, zr_rt_i, zr_rt_l, zr_rt_n, zr_rt_z, zr_nil, zr_cons, ↓reduceIte, Nat.reduceAdd, Nat.reduceEqDiff, Nat.reduceLeDiff, Nat.reduceMul, Nat.reduceSub, Int32.reduceOfInt, Int64.reduceOfInt, Int64.reduceOfNat, true_and, and_true, false_and, and_false, or_false, false_or, true_or, or_true, Int.reduceEq, reduceCtorEq, or_self, and_self, ne_eq, not_false_eq_true, not_true_eq_false, eq_self, Nat.le_refl, Nat.zero_le, zr_eI, zr_eL, zr_eR, zr_pI, zr_pL, zr_pR, zr_pO, zr_pV, zq_pA0, zq_pA, zr_get, zr_put_n, zr_put, zr_rem_n, zr_rem, zr_cat_i, zr_cat_l, zr_cat_q, zr_w_n, zr_w, zr_args_n, zr_args, zr_tl_s, zr_tl_n, zq_hIsI, zq_hLsL, zq_hRsR, zq_hIsL, zq_hIsR, zq_hLsI, zq_hLsR, zq_hRsI, zq_hRsL, zq_hNsI, zq_hNsL, zq_hNsR, zq_hZsI, zq_hZsL, zq_hZsR, b2_01, Classical.not_not, Int32.toInt_toInt64, Int64.reduceToInt, zc_1000, zc_100, zc_10, zc_9, zc_2, ci_f, C.r0, C.r1, C.r2, C.r3, C.r4, C.r5, C.r6, C.r7, C.r8, C.r9, C.q0, C.q1, C.q2, zl_200, zl_201, zl_202, zl_203, zl_204, zl_205, zl_206, zl_207, lT_200, lT_201, lT_202, lT_203, lT_204, lT_205, lT_206, C.zK, C.zA, C.zR, C.zO, C.zE, C.zS, C.zL, zq_hInw, zq_hLnw, zq_hRnw, zq_hNnw, zq_hZnw, zq_hZsZ, zq_hNsN, zq_hIsZ, zq_hIsN, zq_hLsZ, zq_hLsN, zq_hRsZ, zq_hRsN, zq_hNsZ, zq_hZsN, kF_2, kF_3, kF_4, kF_5, kF_6, kF_7, kF_8, kF_9, kF_10, kF_11, kF_12, kF_13, C.xA, C.xK, C.xL, C.xE, C.xO, C.xR, C.xX, C.xF]
  refine ⟨fun qc1 => ?_, fun qc1 => ?_⟩
  · try simp only [b2_0, Classical.not_not] at qc1
    try simp only [Int64.le_iff_toInt_le, Int64.lt_iff_toInt_lt, Int32.lt_iff_toInt_lt, Int32.le_iff_toInt_le, Int32.toInt_toInt64, Int64.reduceToInt, Int32.reduceToInt, Int.reduceNeg, Classical.not_not, i32e, l_add] at qc1
    refine st b_X3_enter_9 _ _ k_X3_enter_9 _ _ _ _ _ ?_
    simp only [b_X3_enter_9, zr_T, zr_aload_n0, zr_aload_n2, zr_call0, zr_call2, zr_dup, zr_get2, zr_iconst, zr_iload, zr_iload_n1, zr_iload_n3, zr_iret, zr_isub, zr_lapp, zr_lload, zr_lsize, zr_new, zr_pop, zr_rt_a, zr_rt_i, zr_rt_l, zr_rt_n, zr_rt_z, zr_nil, zr_cons, ↓reduceIte, Nat.reduceAdd, Nat.reduceEqDiff, Nat.reduceLeDiff, Nat.reduceMul, Nat.reduceSub, Int32.reduceOfInt, Int64.reduceOfInt, Int64.reduceOfNat, true_and, and_true, false_and, and_false, or_false, false_or, true_or, or_true, Int.reduceEq, reduceCtorEq, or_self, and_self, ne_eq, not_false_eq_true, not_true_eq_false, eq_self, Nat.le_refl, Nat.zero_le, zr_eI, zr_eL, zr_eR, zr_pI, zr_pL, zr_pR, zr_pO, zr_pV, zq_pA0, zq_pA, zr_get, zr_put_n, zr_put, zr_rem_n, zr_rem, zr_cat_i, zr_cat_l, zr_cat_q, zr_w_n, zr_w, zr_args_n, zr_args, zr_tl_s, zr_tl_n, zq_hIsI, zq_hLsL, zq_hRsR, zq_hIsL, zq_hIsR, zq_hLsI, zq_hLsR, zq_hRsI, zq_hRsL, zq_hNsI, zq_hNsL, zq_hNsR, zq_hZsI, zq_hZsL, zq_hZsR, b2_01, Classical.not_not, Int32.toInt_toInt64, Int64.reduceToInt, zc_1000, zc_100, zc_10, zc_9, zc_2, ci_f, C.r0, C.r1, C.r2, C.r3, C.r4, C.r5, C.r6, C.r7, C.r8, C.r9, C.q0, C.q1, C.q2, zl_200, zl_201, zl_202, zl_203, zl_204, zl_205, zl_206, zl_207, lT_200, lT_201, lT_202, lT_203, lT_204, lT_205, lT_206, C.zK, C.zA, C.zR, C.zO, C.zE, C.zS, C.zL, zq_hInw, zq_hLnw, zq_hRnw, zq_hNnw, zq_hZnw, zq_hZsZ, zq_hNsN, zq_hIsZ, zq_hIsN, zq_hLsZ, zq_hLsN, zq_hRsZ, zq_hRsN, zq_hNsZ, zq_hZsN, kF_2, kF_3, kF_4, kF_5, kF_6, kF_7, kF_8, kF_9, kF_10, kF_11, kF_12, kF_13, C.xA, C.xK, C.xL, C.xE, C.xO, C.xR, C.xX, C.xF]
    repeat (with_reducible refine ⟨by omega, ?_⟩)
    have g1 : hR (z_nw h 6) 2 (ci a) 1 = some (207, ci a) := by rw [zr_hRnw, if_neg (by omega)]; exact ja.2.2.2.2.2.2
    have g2 : hI (z_nw h 6) 2 (ci a) 2 = o_fol (mA S 55) a (nF S) := by rw [zr_hInw, if_neg (by omega)]; exact ja.2.1
    have g3 : 0 ≤ (o_fol (mA S 55) a (nF S)).toInt → hI (z_nw h 6) 2 (ci a) 3 = mA S 56 (ci (o_fol (mA S 55) a (nF S))) := by rw [zr_hInw, if_neg (by omega)]; exact ja.2.2.1
    have g4 : hI (z_nw h 6) 5 0 4 = mS S 20 := by rw [zr_hInw, if_neg (by omega)]; exact C.fcn
    have g5 : hZ (z_nw h 6) 207 (ci a) = o_nf (mA S 55) a (nF S) := by rw [zr_hZnw, if_neg (by omega)]; exact jf
    refine cpx (by omega) lk_X3_35 (rc_5 rfl) (c_ffl l G _ (by omega) S _ inv a g1 g2 g3 g4 g5) (by omega) (by omega) (fun r1 h1 gg => ?_)
    obtain ⟨rfl, nb, rfl⟩ := gg
    simp only [zr_T, zr_aload_n0, zr_call2, zr_get2, zr_iconst, zr_iload, zr_iload_n3, zr_iret, zr_isub, zr_lapp, zr_lload, zr_lsize, zr_pop, zr_rt_a, zr_rt_i, zr_rt_l, zr_rt_n, zr_rt_z, zr_nil, zr_cons, ↓reduceIte, Nat.reduceAdd, Nat.reduceEqDiff, Nat.reduceLeDiff, Nat.reduceMul, Nat.reduceSub, Int32.reduceOfInt, Int64.reduceOfInt, Int64.reduceOfNat, true_and, and_true, false_and, and_false, or_false, false_or, true_or, or_true, Int.reduceEq, reduceCtorEq, or_self, and_self, ne_eq, not_false_eq_true, not_true_eq_false, eq_self, Nat.le_refl, Nat.zero_le, zr_eI, zr_eL, zr_eR, zr_pI, zr_pL, zr_pR, zr_pO, zr_pV, zq_pA0, zq_pA, zr_get, zr_put_n, zr_put, zr_rem_n, zr_rem, zr_cat_i, zr_cat_l, zr_cat_q, zr_w_n, zr_w, zr_args_n, zr_args, zr_tl_s, zr_tl_n, zq_hIsI, zq_hLsL, zq_hRsR, zq_hIsL, zq_hIsR, zq_hLsI, zq_hLsR, zq_hRsI, zq_hRsL, zq_hNsI, zq_hNsL, zq_hNsR, zq_hZsI, zq_hZsL, zq_hZsR, b2_01, Classical.not_not, Int32.toInt_toInt64, Int64.reduceToInt, zc_1000, zc_100, zc_10, zc_9, zc_2, ci_f, C.r0, C.r1, C.r2, C.r3, C.r4, C.r5, C.r6, C.r7, C.r8, C.r9, C.q0, C.q1, C.q2, zl_200, zl_201, zl_202, zl_203, zl_204, zl_205, zl_206, zl_207, lT_200, lT_201, lT_202, lT_203, lT_204, lT_205, lT_206, C.zK, C.zA, C.zR, C.zO, C.zE, C.zS, C.zL, zq_hInw, zq_hLnw, zq_hRnw, zq_hNnw, zq_hZnw, zq_hZsZ, zq_hNsN, zq_hIsZ, zq_hIsN, zq_hLsZ, zq_hLsN, zq_hRsZ, zq_hRsN, zq_hNsZ, zq_hZsN, kF_2, kF_3, kF_4, kF_5, kF_6, kF_7, kF_8, kF_9, kF_10, kF_11, kF_12, kF_13, C.xA, C.xK, C.xL, C.xE, C.xO, C.xR, C.xX, C.xF, hff_R, hff_Z]
    refine cph (by omega) lk_X3_39 rc_s (c_iLine l G _ (by omega) _ _ _ _ _ _ _ _) (by omega) (by omega) ?_
    simp only [zr_T, zr_aload_n0, zr_get2, zr_iconst, zr_iret, zr_isub, zr_lapp, zr_lsize, zr_pop, zr_rt_a, zr_rt_i, zr_rt_l, zr_rt_n, zr_rt_z, zr_nil, zr_cons, ↓reduceIte, Nat.reduceAdd, Nat.reduceEqDiff, Nat.reduceLeDiff, Nat.reduceMul, Nat.reduceSub, Int32.reduceOfInt, Int64.reduceOfInt, Int64.reduceOfNat, true_and, and_true, false_and, and_false, or_false, false_or, true_or, or_true, Int.reduceEq, reduceCtorEq, or_self, and_self, ne_eq, not_false_eq_true, not_true_eq_false, eq_self, Nat.le_refl, Nat.zero_le, zr_eI, zr_eL, zr_eR, zr_pI, zr_pL, zr_pR, zr_pO, zr_pV, zq_pA0, zq_pA, zr_get, zr_put_n, zr_put, zr_rem_n, zr_rem, zr_cat_i, zr_cat_l, zr_cat_q, zr_w_n, zr_w, zr_args_n, zr_args, zr_tl_s, zr_tl_n, zq_hIsI, zq_hLsL, zq_hRsR, zq_hIsL, zq_hIsR, zq_hLsI, zq_hLsR, zq_hRsI, zq_hRsL, zq_hNsI, zq_hNsL, zq_hNsR, zq_hZsI, zq_hZsL, zq_hZsR, b2_01, Classical.not_not, Int32.toInt_toInt64, Int64.reduceToInt, zc_1000, zc_100, zc_10, zc_9, zc_2, ci_f, C.r0, C.r1, C.r2, C.r3, C.r4, C.r5, C.r6, C.r7, C.r8, C.r9, C.q0, C.q1, C.q2, zl_200, zl_201, zl_202, zl_203, zl_204, zl_205, zl_206, zl_207, lT_200, lT_201, lT_202, lT_203, lT_204, lT_205, lT_206, C.zK, C.zA, C.zR, C.zO, C.zE, C.zS, C.zL, zq_hInw, zq_hLnw, zq_hRnw, zq_hNnw, zq_hZnw, zq_hZsZ, zq_hNsN, zq_hIsZ, zq_hIsN, zq_hLsZ, zq_hLsN, zq_hRsZ, zq_hRsN, zq_hNsZ, zq_hZsN, kF_2, kF_3, kF_4, kF_5, kF_6, kF_7, kF_8, kF_9, kF_10, kF_11, kF_12, kF_13, C.xA, C.xK, C.xL, C.xE, C.xO, C.xR, C.xX, C.xF, hff_R, hff_Z]
    repeat (with_reducible refine ⟨by omega, ?_⟩)
    repeat (with_reducible refine ⟨by omega, ?_⟩)
    rw [nI_pred]
    repeat (with_reducible refine ⟨by omega, ?_⟩)
    refine qci (S' := o_ln (o_ff S a).2 t a (o_ff S a).1 side sum order) ?_ (cr_line C inv ha hl) (by repeat (first | with_reducible exact z_sM.rf | with_reducible assumption | with_reducible refine z_sM.I ?_ (by decide) | with_reducible refine z_sM.L ?_ (by decide) | with_reducible refine z_sM.R ?_ (by decide) | with_reducible refine z_sM.Z ?_ | with_reducible refine z_sM.N ?_ | with_reducible refine z_sM.W ?_ (by decide) | with_reducible refine z_sM.C ?_ | with_reducible refine z_sMhff ?_))
    unfold o_writes
    rw [if_neg (by assumption)]
  · try simp only [b2_0, Classical.not_not] at qc1
    try simp only [Int64.le_iff_toInt_le, Int64.lt_iff_toInt_lt, Int32.lt_iff_toInt_lt, Int32.le_iff_toInt_le, Int32.toInt_toInt64, Int64.reduceToInt, Int32.reduceToInt, Int.reduceNeg, Classical.not_not, i32e, l_add] at qc1
    repeat (with_reducible refine ⟨by omega, ?_⟩)
    refine qci (S' := S) ?_ C z_sM.rf
    unfold o_writes
    rw [if_pos (by assumption)]
