/-! the model's close -/
theorem lp_A {S : z_M} {n k : Nat} (h : k ≠ 34) : mA (o_lp S n) k = mA S k := by
  induction n with
  | zero => rfl
  | succ n ih =>
    unfold o_lp
    split
    · rw [mA_ne h, ih]
    · exact ih
theorem lp_34 {S : z_M} {n j : Nat} (h : n ≤ j) : mA (o_lp S n) 34 j = mA S 34 j := by
  induction n with
  | zero => rfl
  | succ n ih =>
    unfold o_lp
    split
    · rw [uA_of (by omega), ih (by omega)]
    · exact ih (by omega)
theorem lp_B {S : z_M} {n : Nat} : mB (o_lp S n) = mB S := by
  induction n with
  | zero => rfl
  | succ n ih =>
    unfold o_lp
    split
    · exact ih
    · exact ih
theorem lp_S {S : z_M} {n : Nat} : mS (o_lp S n) = mS S := by
  induction n with
  | zero => rfl
  | succ n ih =>
    unfold o_lp
    split
    · exact ih
    · exact ih
theorem lp_T {S : z_M} {n : Nat} : mT (o_lp S n) = mT S := by
  induction n with
  | zero => rfl
  | succ n ih =>
    unfold o_lp
    split
    · exact ih
    · exact ih
theorem inv_lp {S : z_M} (inv : INV S) (n : Nat) : INV (o_lp S n) := by
  induction n with
  | zero => exact inv
  | succ n ih =>
    unfold o_lp
    split
    · exact inv_rhow ih (by decide)
    · exact ih
def c_min (T : z_M) (dn : Int64) : Int64 := if o_more T dn < (mS T 10).toInt64 then o_more T dn else (mS T 10).toInt64
def c_max (T : z_M) (dn : Int64) : Int64 := if c_min T dn < (-(mS T 10)).toInt64 then (-(mS T 10)).toInt64 else c_min T dn
def c_a1 (T : z_M) (dn : Int64) : Int32 := mS T 13 + (c_max T dn).toInt32
def c_am (T : z_M) (dn : Int64) : Int32 := if c_a1 T dn < 300 then c_a1 T dn else 300
def c_a2 (T : z_M) (dn : Int64) : Int32 := if -100 < c_am T dn then c_am T dn else -100
def c_so (T : z_M) (dn : Int64) : Int32 := if 0 < c_a2 T dn - mS T 12 then c_a2 T dn - mS T 12 else 0
def c_bo (T : z_M) (dn : Int64) : Int32 := if 0 < mS T 11 - c_a2 T dn then mS T 11 - c_a2 T dn else 0
def c_at (T : z_M) (dn : Int64) : Int32 := if c_a2 T dn < mS T 12 then c_a2 T dn else mS T 12
def c_a3 (T : z_M) (dn : Int64) : Int32 := if mS T 11 < c_at T dn then c_at T dn else mS T 11
theorem neg32 {x : Int32} (h : -2147483648 < x.toInt) : (-x).toInt = -x.toInt := by
  have hb := i32b x
  rw [Int32.toInt_neg]
  show (-x.toInt).bmod 4294967296 = _
  unfold Int.bmod
  simp only []
  split <;> omega
theorem l32 {x : Int64} (h1 : -2147483648 ≤ x.toInt) (h2 : x.toInt ≤ 2147483647) : x.toInt32.toInt = x.toInt := by
  rw [Int64.toInt_toInt32]
  show (x.toInt).bmod 4294967296 = _
  unfold Int.bmod
  simp only []
  split <;> omega
theorem c_max_e {T : z_M} {dn : Int64} (inv : INV T) : (c_max T dn).toInt = o_cla (o_more T dn).toInt (-(mS T 10).toInt) (mS T 10).toInt := by
  have t := inv.ter.2.2.2.2.2.1
  have n := neg32 (x := mS T 10) (by omega)
  unfold c_max c_min o_cla
  simp only [Int64.lt_iff_toInt_lt]
  (repeat' split) <;> simp only [Int32.toInt_toInt64] at * <;> omega
theorem cla_in {x a b : Int} (h : a ≤ b) : a ≤ o_cla x a b ∧ o_cla x a b ≤ b := by
  unfold o_cla
  (repeat' split) <;> omega
theorem c_a2_e {T : z_M} {dn : Int64} (inv : INV T) : (c_a2 T dn).toInt = o_ag0 T dn := by
  have t := inv.ter.2.2.2.2.2.1
  have g := inv.ter.2.2.2.2.2.2.2.2.2
  have m := c_max_e (dn := dn) inv
  have b := cla_in (x := (o_more T dn).toInt) (a := -(mS T 10).toInt) (b := (mS T 10).toInt) (by omega)
  have e1 : (c_max T dn).toInt32.toInt = (c_max T dn).toInt := l32 (by omega) (by omega)
  have e2 : (c_a1 T dn).toInt = (mS T 13).toInt + (c_max T dn).toInt := by
    unfold c_a1
    rw [add32 (by omega) (by omega), e1]
  unfold c_a2 c_am o_ag0
  rw [← m, ← e2]
  generalize c_a1 T dn = z
  unfold o_cla
  simp only [Int32.lt_iff_toInt_lt]
  have h1 : (-100 : Int32).toInt = -100 := rfl
  have h2 : (300 : Int32).toInt = 300 := rfl
  (repeat' split) <;> omega
theorem i64of {x : Int32} {z : Int} (h : x.toInt = z) : x.toInt64 = Int64.ofInt z := by
  have hb := i32b x
  rw [← Int64.toInt_inj, Int32.toInt_toInt64, h, Int64.toInt_ofInt]
  show z = z.bmod 18446744073709551616
  unfold Int.bmod
  simp only []
  split <;> omega
theorem i32of {x : Int32} {z : Int} (h : x.toInt = z) : x = Int32.ofInt z := by
  have hb := i32b x
  rw [← Int32.toInt_inj, ofInt32 (by omega) (by omega), h]
theorem c_end {T : z_M} {dn : Int64} (inv : INV T) : uS (uT (uS (uT (uT (uS (uS T 13 (c_a1 T dn)) 13 (c_a2 T dn)) 65 (mT T 65 + (c_so T dn).toInt64)) 66 (mT T 66 + (c_bo T dn).toInt64)) 13 (c_a3 T dn)) 63 0) 14 (mS T 14 + 1) = o_agio T dn := by
  have e := c_a2_e (dn := dn) inv
  have t := inv.ter.2.2.2.2.2.2
  have b : -100 ≤ o_ag0 T dn ∧ o_ag0 T dn ≤ 300 := cla_in (by omega)
  have z0 : (0 : Int32).toInt = 0 := rfl
  have s1 : (c_so T dn).toInt = (if (mS T 12).toInt < o_ag0 T dn then o_ag0 T dn - (mS T 12).toInt else 0) := by
    unfold c_so
    simp only [Int32.lt_iff_toInt_lt]
    have q : (c_a2 T dn - mS T 12).toInt = (c_a2 T dn).toInt - (mS T 12).toInt := sub32 (by omega) (by omega)
    rw [q, e]
    (repeat' split) <;> omega
  have s2 : (c_bo T dn).toInt = (if o_ag0 T dn < (mS T 11).toInt then (mS T 11).toInt - o_ag0 T dn else 0) := by
    unfold c_bo
    simp only [Int32.lt_iff_toInt_lt]
    have q : (mS T 11 - c_a2 T dn).toInt = (mS T 11).toInt - (c_a2 T dn).toInt := sub32 (by omega) (by omega)
    rw [q, e]
    (repeat' split) <;> omega
  have s3 : (c_a3 T dn).toInt = o_cla (o_ag0 T dn) (mS T 11).toInt (mS T 12).toInt := by
    unfold c_a3 c_at o_cla
    simp only [Int32.lt_iff_toInt_lt]
    rw [← e]
    (repeat' split) <;> omega
  unfold o_agio
  rw [i64of s1, i64of s2, i32of s3]
  refine z_M_ext (fun _ _ => rfl) (fun _ _ => rfl) (fun k => ?_) (fun k => ?_)
  · simp only [mS_uS, mS_uT]
    (repeat' split) <;> rfl
  · simp only [mT_uS, mT_uT]
set_option maxRecDepth 20000 in
theorem m_close (l : Launch) (G : z_G) (d : Nat) (hd : 4 ≤ d) (S : z_M) (h : z_H) (e : mv h = S) (hM : z_MR h) (inv : INV S)  : z_MT l G d yX12_close cX12_close 6 (some .int) [z_r 14 0] h 0 0 (Qi h (o_close S)) := by
  have hM' := hM
  unfold z_MR at hM
  have huO : nO S = ci (mS S 18) := rfl
  have htO := inv.cO.t
  have hbO := inv.cO.2
  have hpO : (mS S 18 - 1).toInt = (ci (mS S 18) : Int) - 1 := by
    rw [sub32 (by rw [htO, show (1 : Int32).toInt = 1 from rfl]; omega) (by rw [htO, show (1 : Int32).toInt = 1 from rfl]; omega), htO]
    rfl
  have huR : nR S = ci (mS S 17) := rfl
  have htR := inv.cR.t
  have hbR := inv.cR.2
  have hpR : (mS S 17 - 1).toInt = (ci (mS S 17) : Int) - 1 := by
    rw [sub32 (by rw [htR, show (1 : Int32).toInt = 1 from rfl]; omega) (by rw [htR, show (1 : Int32).toInt = 1 from rfl]; omega), htR]
    rfl
  have huD : (dy S).toInt = (mS S 14).toInt := rfl
  have htD := inv.cD.t
  have hbD := inv.cD.2
  have hpD : (mS S 14 - 1).toInt = (ci (mS S 14) : Int) - 1 := by
    rw [sub32 (by rw [htD, show (1 : Int32).toInt = 1 from rfl]; omega) (by rw [htD, show (1 : Int32).toInt = 1 from rfl]; omega), htD]
    rfl
  refine z_mt2 14 false ⟨by decide, rfl, fun q => absurd q (by decide)⟩ (by show 1 ≤ 6; decide) (fun A st wk => ?_)
  refine st b_X12_close_0 _ _ k_X12_close_0 _ _ _ _ _ ?_
  simp only [b_X12_close_0, zr_T, zr_aload_n0, zr_bipush, zr_cP_ne, zr_get0, zr_icmp, zr_iconst, zr_iret, zr_put0, zr_rt_a, zr_rt_i, zr_rt_l, zr_rt_n, zr_rt_z, zr_sipush, zr_nil, zr_cons, ↓reduceIte, Nat.reduceAdd, Nat.reduceEqDiff, Nat.reduceLeDiff, Nat.reduceMul, Nat.reduceSub, Int32.reduceOfInt, Int64.reduceOfInt, Int64.reduceOfNat, true_and, and_true, false_and, and_false, or_false, false_or, true_or, or_true, Int.reduceEq, reduceCtorEq, or_self, and_self, ne_eq, not_false_eq_true, not_true_eq_false, eq_self, Nat.le_refl, Nat.zero_le, zr_eI, zr_eL, zr_eR, zr_pI, zr_pL, zr_pR, zr_pO, zr_pV, zq_pA0, zq_pA, zr_get, zr_put_n, zr_put, zr_rem_n, zr_rem, zr_cat_i, zr_cat_l, zr_cat_q, zr_w_n, zr_w, zr_args_n, zr_args, zr_tl_s, zr_tl_n, zr_hIsI, zr_hLsL, zr_hRsR, zr_hIsL, zr_hIsR, zr_hLsI, zr_hLsR, zr_hRsI, zr_hRsL, zr_hNsI, zr_hNsL, zr_hNsR, zr_hZsI, zr_hZsL, zr_hZsR, b2_01, Classical.not_not, Int32.toInt_toInt64, Int64.reduceToInt, zc_1000, zc_100, zc_10, zc_9, zc_2, ci_f, hM, ms_9 e, ms_10 e, ms_11 e, ms_12 e, ms_13 e, ms_14 e, ms_17 e, ms_18 e, mR_33, aLen_333, aCod_333, ma_33 e, mR_34, aLen_334, aCod_334, ma_34 e, mR_39, aLen_339, aCod_339, ma_39 e, mR_40, aLen_340, aCod_340, ma_40 e, mR_42, aLen_342, aCod_342, ma_42 e, mR_47, aLen_347, aCod_347, mb_47 e, mt_63 e, mt_65 e, mt_66 e]
  refine ⟨fun qc1 => ?_, fun qc1 => ?_⟩
  · try simp only [b2_0, Classical.not_not] at qc1
    try simp only [Int64.le_iff_toInt_le, Int64.lt_iff_toInt_lt, Int32.lt_iff_toInt_lt, Int32.le_iff_toInt_le, Int32.toInt_toInt64, Int64.reduceToInt, Int32.reduceToInt, Int.reduceNeg, Classical.not_not, i32e, l_add] at qc1
    refine st b_X12_close_18 _ _ k_X12_close_18 _ _ _ _ _ ?_
    simp only [b_X12_close_18, zr_iconst, zr_istore, zr_istore_n1, zr_lconst0, zr_lstore_n2, zr_nil, zr_cons, ↓reduceIte, Nat.reduceAdd, Nat.reduceEqDiff, Nat.reduceLeDiff, Nat.reduceMul, Nat.reduceSub, Int32.reduceOfInt, Int64.reduceOfInt, Int64.reduceOfNat, true_and, and_true, false_and, and_false, or_false, false_or, true_or, or_true, Int.reduceEq, reduceCtorEq, or_self, and_self, ne_eq, not_false_eq_true, not_true_eq_false, eq_self, Nat.le_refl, Nat.zero_le, zr_eI, zr_eL, zr_eR, zr_pI, zr_pL, zr_pR, zr_pO, zr_pV, zq_pA0, zq_pA, zr_get, zr_put_n, zr_put, zr_rem_n, zr_rem, zr_cat_i, zr_cat_l, zr_cat_q, zr_w_n, zr_w, zr_args_n, zr_args, zr_tl_s, zr_tl_n, zr_hIsI, zr_hLsL, zr_hRsR, zr_hIsL, zr_hIsR, zr_hLsI, zr_hLsR, zr_hRsI, zr_hRsL, zr_hNsI, zr_hNsL, zr_hNsR, zr_hZsI, zr_hZsL, zr_hZsR, b2_01, Classical.not_not, Int32.toInt_toInt64, Int64.reduceToInt, zc_1000, zc_100, zc_10, zc_9, zc_2, ci_f, hM, ms_9 e, ms_10 e, ms_11 e, ms_12 e, ms_13 e, ms_14 e, ms_17 e, ms_18 e, mR_33, aLen_333, aCod_333, ma_33 e, mR_34, aLen_334, aCod_334, ma_34 e, mR_39, aLen_339, aCod_339, ma_39 e, mR_40, aLen_340, aCod_340, ma_40 e, mR_42, aLen_342, aCod_342, ma_42 e, mR_47, aLen_347, aCod_347, mb_47 e, mt_63 e, mt_65 e, mt_66 e]
    refine (show ∀ hr, hr ≤ 24 → ∀ (q : z_Q) (h' : z_H), q = o_cl (nO S) hr (0, 0, S) → mv h' = q.2.2 → z_sC h h' → z_MR h' → A 25 [(0, z_r 14 0), (1, z_i (nI q.1)), (2, z_l q.2.1), (4, z_i (nI hr))] [] h' 0 0 from z_loop (fun hr hhr ihr => ?_)) 0 (Nat.zero_le _) (0, 0, S) _ rfl (by simp only [mv_thr, e]) (by repeat (first | exact z_sC.rf | exact hsc | refine z_sC.I ?_ (by decide) | refine z_sC.L ?_ (by decide))) hM'
    intro q h' hq e' hsc hM2
    have hM3 := hM2
    unfold z_MR at hM2
    have tr := toIntS (show hr < 2000000000 by omega)
    have qi0 : QI S q := by rw [hq]; exact (QI.start inv).cl (Nat.le_refl _)
    refine st b_X12_close_25 _ _ k_X12_close_25 _ _ _ _ _ ?_
    simp only [b_X12_close_25, zr_bipush, zr_cP_ge, zr_icmp, zr_iconst, zr_iload, zr_istore, zr_nil, zr_cons, ↓reduceIte, Nat.reduceAdd, Nat.reduceEqDiff, Nat.reduceLeDiff, Nat.reduceMul, Nat.reduceSub, Int32.reduceOfInt, Int64.reduceOfInt, Int64.reduceOfNat, true_and, and_true, false_and, and_false, or_false, false_or, true_or, or_true, Int.reduceEq, reduceCtorEq, or_self, and_self, ne_eq, not_false_eq_true, not_true_eq_false, eq_self, Nat.le_refl, Nat.zero_le, zr_eI, zr_eL, zr_eR, zr_pI, zr_pL, zr_pR, zr_pO, zr_pV, zq_pA0, zq_pA, zr_get, zr_put_n, zr_put, zr_rem_n, zr_rem, zr_cat_i, zr_cat_l, zr_cat_q, zr_w_n, zr_w, zr_args_n, zr_args, zr_tl_s, zr_tl_n, zr_hIsI, zr_hLsL, zr_hRsR, zr_hIsL, zr_hIsR, zr_hLsI, zr_hLsR, zr_hRsI, zr_hRsL, zr_hNsI, zr_hNsL, zr_hNsR, zr_hZsI, zr_hZsL, zr_hZsR, b2_01, Classical.not_not, Int32.toInt_toInt64, Int64.reduceToInt, zc_1000, zc_100, zc_10, zc_9, zc_2, ci_f, hM2, ms_9 e', ms_10 e', ms_11 e', ms_12 e', ms_13 e', ms_14 e', ms_17 e', ms_18 e', mR_33, aLen_333, aCod_333, ma_33 e', mR_34, aLen_334, aCod_334, ma_34 e', mR_39, aLen_339, aCod_339, ma_39 e', mR_40, aLen_340, aCod_340, ma_40 e', mR_42, aLen_342, aCod_342, ma_42 e', mR_47, aLen_347, aCod_347, mb_47 e', mt_63 e', mt_65 e', mt_66 e']
    refine ⟨fun qc21 => ?_, fun qc21 => ?_⟩
    · try simp only [b2_0, Classical.not_not] at qc21
      try simp only [Int64.le_iff_toInt_le, Int64.lt_iff_toInt_lt, Int32.lt_iff_toInt_lt, Int32.le_iff_toInt_le, Int32.toInt_toInt64, Int64.reduceToInt, Int32.reduceToInt, Int.reduceNeg, Classical.not_not, i32e, l_add] at qc21
      refine st b_X12_close_117 _ _ k_X12_close_117 _ _ _ _ _ ?_
      simp only [b_X12_close_117, zr_iconst, zr_istore, zr_nil, zr_cons, ↓reduceIte, Nat.reduceAdd, Nat.reduceEqDiff, Nat.reduceLeDiff, Nat.reduceMul, Nat.reduceSub, Int32.reduceOfInt, Int64.reduceOfInt, Int64.reduceOfNat, true_and, and_true, false_and, and_false, or_false, false_or, true_or, or_true, Int.reduceEq, reduceCtorEq, or_self, and_self, ne_eq, not_false_eq_true, not_true_eq_false, eq_self, Nat.le_refl, Nat.zero_le, zr_eI, zr_eL, zr_eR, zr_pI, zr_pL, zr_pR, zr_pO, zr_pV, zq_pA0, zq_pA, zr_get, zr_put_n, zr_put, zr_rem_n, zr_rem, zr_cat_i, zr_cat_l, zr_cat_q, zr_w_n, zr_w, zr_args_n, zr_args, zr_tl_s, zr_tl_n, zr_hIsI, zr_hLsL, zr_hRsR, zr_hIsL, zr_hIsR, zr_hLsI, zr_hLsR, zr_hRsI, zr_hRsL, zr_hNsI, zr_hNsL, zr_hNsR, zr_hZsI, zr_hZsL, zr_hZsR, b2_01, Classical.not_not, Int32.toInt_toInt64, Int64.reduceToInt, zc_1000, zc_100, zc_10, zc_9, zc_2, ci_f, hM2, ms_9 e', ms_10 e', ms_11 e', ms_12 e', ms_13 e', ms_14 e', ms_17 e', ms_18 e', mR_33, aLen_333, aCod_333, ma_33 e', mR_34, aLen_334, aCod_334, ma_34 e', mR_39, aLen_339, aCod_339, ma_39 e', mR_40, aLen_340, aCod_340, ma_40 e', mR_42, aLen_342, aCod_342, ma_42 e', mR_47, aLen_347, aCod_347, mb_47 e', mt_63 e', mt_65 e', mt_66 e']
      have er : hr = 24 := by omega
      subst er
      have rS : nR S = ci (mS S 17) := rfl
      refine (show ∀ i, i ≤ nR S → ∀ (h1 : z_H), mv h1 = o_lp q.2.2 i → z_sC h h1 → z_MR h1 → A 120 [(0, z_r 14 0), (1, z_i (nI q.1)), (2, z_l q.2.1), (4, z_i (nI i))] [] h1 0 0 from z_loop (fun i hi ih => ?_)) 0 (Nat.zero_le _) h' e' hsc hM3
      intro h1 e1 hsc1 hM4
      have hM5 := hM4
      unfold z_MR at hM4
      have ti := toIntS (show i < 2000000000 by omega)
      have ki := nI_clampS (show i < 2000000000 by omega)
      have f17 : hI h1 14 0 17 = mS S 17 := by rw [ms_17 e1, lp_S]; exact qi0.2.1 17 (by decide)
      have f14 : hI h1 14 0 14 = mS S 14 := by rw [ms_14 e1, lp_S]; exact qi0.2.1 14 (by decide)
      have f33 : hI h1 333 0 i = mA q.2.2 33 i := by rw [ma_33 e1, lp_A (by decide)]
      have f34 : hI h1 334 0 i = mA q.2.2 34 i := by rw [ma_34 e1, lp_34 (Nat.le_refl _)]
      have ed : (dy q.2.2).toInt = (mS S 14).toInt := by show (mS q.2.2 14).toInt = _; rw [qi0.2.1 14 (by decide)]
      refine st b_X12_close_120 _ _ k_X12_close_120 _ _ _ _ _ ?_
      simp only [b_X12_close_120, zr_aload_n0, zr_cP_ge, zr_cP_gt, zr_cP_ne, zr_get0, zr_get2, zr_iald, zr_iast, zr_icmp, zr_iconst, zr_ifc, zr_iload, zr_nil, zr_cons, ↓reduceIte, Nat.reduceAdd, Nat.reduceEqDiff, Nat.reduceLeDiff, Nat.reduceMul, Nat.reduceSub, Int32.reduceOfInt, Int64.reduceOfInt, Int64.reduceOfNat, true_and, and_true, false_and, and_false, or_false, false_or, true_or, or_true, Int.reduceEq, reduceCtorEq, or_self, and_self, ne_eq, not_false_eq_true, not_true_eq_false, eq_self, Nat.le_refl, Nat.zero_le, zr_eI, zr_eL, zr_eR, zr_pI, zr_pL, zr_pR, zr_pO, zr_pV, zq_pA0, zq_pA, zr_get, zr_put_n, zr_put, zr_rem_n, zr_rem, zr_cat_i, zr_cat_l, zr_cat_q, zr_w_n, zr_w, zr_args_n, zr_args, zr_tl_s, zr_tl_n, zr_hIsI, zr_hLsL, zr_hRsR, zr_hIsL, zr_hIsR, zr_hLsI, zr_hLsR, zr_hRsI, zr_hRsL, zr_hNsI, zr_hNsL, zr_hNsR, zr_hZsI, zr_hZsL, zr_hZsR, b2_01, Classical.not_not, Int32.toInt_toInt64, Int64.reduceToInt, zc_1000, zc_100, zc_10, zc_9, zc_2, ci_f, hM4, mR_33, aLen_333, aCod_333, mR_34, aLen_334, aCod_334, f33, f34, f14, f17, ki]
      refine ⟨fun qc61 => ?_, fun qc61 => ?_⟩
      · try simp only [b2_0, Classical.not_not] at qc61
        try simp only [Int64.le_iff_toInt_le, Int64.lt_iff_toInt_lt, Int32.lt_iff_toInt_lt, Int32.le_iff_toInt_le, Int32.toInt_toInt64, Int64.reduceToInt, Int32.reduceToInt, Int.reduceNeg, Classical.not_not, i32e, l_add] at qc61
        have ei : i = nR S := by omega
        subst ei
        have iv2 : INV (o_lp q.2.2 (nR S)) := inv_lp qi0.1 _
        have tk0 : mT (o_lp q.2.2 (nR S)) 63 = mT S 63 := by rw [lp_T]; exact qi0.2.2.2.2.2.2.1
        have tkb := inv.tak
        have dnb := qi0.2.2.2.1
        have dnc := qi0.2.2.1
        have md : mS (o_lp q.2.2 (nR S)) 14 = mS S 14 := by rw [lp_S]; exact qi0.2.1 14 (by decide)
        have hT : o_lp (o_cl (nO S) 24 (0, 0, S)).2.2 (nR S) = o_lp q.2.2 (nR S) := by rw [← hq]
        generalize o_lp q.2.2 (nR S) = T at *
        have tk1 : (mT T 63).toInt = (mT S 63).toInt := by rw [tk0]
        have dv : ¬ q.2.1 + mT T 63 + 1000 = 0 := by
          rw [i64e, add64 (by rw [add64 (by omega) (by omega)]; have : (1000 : Int64).toInt = 1000 := rfl; omega) (by rw [add64 (by omega) (by omega)]; have : (1000 : Int64).toInt = 1000 := rfl; omega), add64 (by omega) (by omega)]
          have h1 : (1000 : Int64).toInt = 1000 := rfl
          have h0 : (0 : Int64).toInt = 0 := rfl
          omega
        have g0 : (mS T 9).toInt64 * (q.2.1 - mT T 63) / (q.2.1 + mT T 63 + 1000) = o_more T q.2.1 := rfl
        have g1 : (if o_more T q.2.1 < (mS T 10).toInt64 then o_more T q.2.1 else (mS T 10).toInt64) = c_min T q.2.1 := rfl
        have g2 : (if c_min T q.2.1 < (-(mS T 10)).toInt64 then (-(mS T 10)).toInt64 else c_min T q.2.1) = c_max T q.2.1 := rfl
        have g3 : mS T 13 + (c_max T q.2.1).toInt32 = c_a1 T q.2.1 := rfl
        have g4 : (if c_a1 T q.2.1 < 300 then c_a1 T q.2.1 else 300) = c_am T q.2.1 := rfl
        have g5 : (if -100 < c_am T q.2.1 then c_am T q.2.1 else -100) = c_a2 T q.2.1 := rfl
        have g6 : (if 0 < c_a2 T q.2.1 - mS T 12 then c_a2 T q.2.1 - mS T 12 else 0) = c_so T q.2.1 := rfl
        have g7 : (if 0 < mS T 11 - c_a2 T q.2.1 then mS T 11 - c_a2 T q.2.1 else 0) = c_bo T q.2.1 := rfl
        have g8 : (if c_a2 T q.2.1 < mS T 12 then c_a2 T q.2.1 else mS T 12) = c_at T q.2.1 := rfl
        have g9 : (if mS T 11 < c_at T q.2.1 then c_at T q.2.1 else mS T 11) = c_a3 T q.2.1 := rfl
        refine st b_X12_close_167 _ _ k_X12_close_167 _ _ _ _ _ ?_
        simp only [b_X12_close_167, zr_T, zr_aload_n0, zr_bipush, zr_call1, zr_dup, zr_get0, zr_get1, zr_i2l, zr_iadd, zr_iconst, zr_iload_n1, zr_ineg, zr_iret, zr_isub, zr_l2i, zr_ladd, zr_lconst0, zr_ldc2, zr_ldiv, zr_lload, zr_lload_n2, zr_lmul, zr_lstore, zr_lsub, zr_put0, zr_put1, zr_rt_a, zr_rt_i, zr_rt_l, zr_rt_n, zr_rt_z, zr_sipush, zr_nil, zr_cons, ↓reduceIte, Nat.reduceAdd, Nat.reduceEqDiff, Nat.reduceLeDiff, Nat.reduceMul, Nat.reduceSub, Int32.reduceOfInt, Int64.reduceOfInt, Int64.reduceOfNat, true_and, and_true, false_and, and_false, or_false, false_or, true_or, or_true, Int.reduceEq, reduceCtorEq, or_self, and_self, ne_eq, not_false_eq_true, not_true_eq_false, eq_self, Nat.le_refl, Nat.zero_le, zr_eI, zr_eL, zr_eR, zr_pI, zr_pL, zr_pR, zr_pO, zr_pV, zq_pA0, zq_pA, zr_get, zr_put_n, zr_put, zr_rem_n, zr_rem, zr_cat_i, zr_cat_l, zr_cat_q, zr_w_n, zr_w, zr_args_n, zr_args, zr_tl_s, zr_tl_n, zr_hIsI, zr_hLsL, zr_hRsR, zr_hIsL, zr_hIsR, zr_hLsI, zr_hLsR, zr_hRsI, zr_hRsL, zr_hNsI, zr_hNsL, zr_hNsR, zr_hZsI, zr_hZsL, zr_hZsR, b2_01, Classical.not_not, Int32.toInt_toInt64, Int64.reduceToInt, zc_1000, zc_100, zc_10, zc_9, zc_2, ci_f, hM4, ms_9 e1, ms_10 e1, ms_11 e1, ms_12 e1, ms_13 e1, ms_14 e1, mt_63 e1, mt_65 e1, mt_66 e1, g0, g1, g2, g3, g4, g5, g6, g7, g8, g9]
        refine ⟨dv, ?_⟩
        refine cp_lmin (by omega) lk_X12_283.2 (Nat.le_refl _) (Nat.le_refl _) ?_
        simp only [zr_T, zr_aload_n0, zr_bipush, zr_call1, zr_dup, zr_get0, zr_get1, zr_i2l, zr_iadd, zr_iconst, zr_iload_n1, zr_iret, zr_isub, zr_l2i, zr_ladd, zr_lconst0, zr_put0, zr_put1, zr_rt_a, zr_rt_i, zr_rt_l, zr_rt_n, zr_rt_z, zr_sipush, zr_nil, zr_cons, ↓reduceIte, Nat.reduceAdd, Nat.reduceEqDiff, Nat.reduceLeDiff, Nat.reduceMul, Nat.reduceSub, Int32.reduceOfInt, Int64.reduceOfInt, Int64.reduceOfNat, true_and, and_true, false_and, and_false, or_false, false_or, true_or, or_true, Int.reduceEq, reduceCtorEq, or_self, and_self, ne_eq, not_false_eq_true, not_true_eq_false, eq_self, Nat.le_refl, Nat.zero_le, zr_eI, zr_eL, zr_eR, zr_pI, zr_pL, zr_pR, zr_pO, zr_pV, zq_pA0, zq_pA, zr_get, zr_put_n, zr_put, zr_rem_n, zr_rem, zr_cat_i, zr_cat_l, zr_cat_q, zr_w_n, zr_w, zr_args_n, zr_args, zr_tl_s, zr_tl_n, zr_hIsI, zr_hLsL, zr_hRsR, zr_hIsL, zr_hIsR, zr_hLsI, zr_hLsR, zr_hRsI, zr_hRsL, zr_hNsI, zr_hNsL, zr_hNsR, zr_hZsI, zr_hZsL, zr_hZsR, b2_01, Classical.not_not, Int32.toInt_toInt64, Int64.reduceToInt, zc_1000, zc_100, zc_10, zc_9, zc_2, ci_f, hM4, ms_9 e1, ms_10 e1, ms_11 e1, ms_12 e1, ms_13 e1, ms_14 e1, mt_63 e1, mt_65 e1, mt_66 e1, g0, g1, g2, g3, g4, g5, g6, g7, g8, g9]
        refine cp_lmax (by omega) lk_X12_296.2 (Nat.le_refl _) (Nat.le_refl _) ?_
        simp only [zr_T, zr_aload_n0, zr_bipush, zr_call1, zr_dup, zr_get0, zr_get1, zr_i2l, zr_iadd, zr_iconst, zr_iload_n1, zr_iret, zr_isub, zr_l2i, zr_ladd, zr_lconst0, zr_put0, zr_put1, zr_rt_a, zr_rt_i, zr_rt_l, zr_rt_n, zr_rt_z, zr_sipush, zr_nil, zr_cons, ↓reduceIte, Nat.reduceAdd, Nat.reduceEqDiff, Nat.reduceLeDiff, Nat.reduceMul, Nat.reduceSub, Int32.reduceOfInt, Int64.reduceOfInt, Int64.reduceOfNat, true_and, and_true, false_and, and_false, or_false, false_or, true_or, or_true, Int.reduceEq, reduceCtorEq, or_self, and_self, ne_eq, not_false_eq_true, not_true_eq_false, eq_self, Nat.le_refl, Nat.zero_le, zr_eI, zr_eL, zr_eR, zr_pI, zr_pL, zr_pR, zr_pO, zr_pV, zq_pA0, zq_pA, zr_get, zr_put_n, zr_put, zr_rem_n, zr_rem, zr_cat_i, zr_cat_l, zr_cat_q, zr_w_n, zr_w, zr_args_n, zr_args, zr_tl_s, zr_tl_n, zr_hIsI, zr_hLsL, zr_hRsR, zr_hIsL, zr_hIsR, zr_hLsI, zr_hLsR, zr_hRsI, zr_hRsL, zr_hNsI, zr_hNsL, zr_hNsR, zr_hZsI, zr_hZsL, zr_hZsR, b2_01, Classical.not_not, Int32.toInt_toInt64, Int64.reduceToInt, zc_1000, zc_100, zc_10, zc_9, zc_2, ci_f, hM4, ms_9 e1, ms_10 e1, ms_11 e1, ms_12 e1, ms_13 e1, ms_14 e1, mt_63 e1, mt_65 e1, mt_66 e1, g0, g1, g2, g3, g4, g5, g6, g7, g8, g9]
        refine cp_imin (by omega) lk_X12_299.2 (Nat.le_refl _) (Nat.le_refl _) ?_
        simp only [zr_T, zr_aload_n0, zr_call1, zr_dup, zr_get0, zr_get1, zr_i2l, zr_iadd, zr_iconst, zr_iload_n1, zr_iret, zr_isub, zr_ladd, zr_lconst0, zr_put0, zr_put1, zr_rt_a, zr_rt_i, zr_rt_l, zr_rt_n, zr_rt_z, zr_nil, zr_cons, ↓reduceIte, Nat.reduceAdd, Nat.reduceEqDiff, Nat.reduceLeDiff, Nat.reduceMul, Nat.reduceSub, Int32.reduceOfInt, Int64.reduceOfInt, Int64.reduceOfNat, true_and, and_true, false_and, and_false, or_false, false_or, true_or, or_true, Int.reduceEq, reduceCtorEq, or_self, and_self, ne_eq, not_false_eq_true, not_true_eq_false, eq_self, Nat.le_refl, Nat.zero_le, zr_eI, zr_eL, zr_eR, zr_pI, zr_pL, zr_pR, zr_pO, zr_pV, zq_pA0, zq_pA, zr_get, zr_put_n, zr_put, zr_rem_n, zr_rem, zr_cat_i, zr_cat_l, zr_cat_q, zr_w_n, zr_w, zr_args_n, zr_args, zr_tl_s, zr_tl_n, zr_hIsI, zr_hLsL, zr_hRsR, zr_hIsL, zr_hIsR, zr_hLsI, zr_hLsR, zr_hRsI, zr_hRsL, zr_hNsI, zr_hNsL, zr_hNsR, zr_hZsI, zr_hZsL, zr_hZsR, b2_01, Classical.not_not, Int32.toInt_toInt64, Int64.reduceToInt, zc_1000, zc_100, zc_10, zc_9, zc_2, ci_f, hM4, ms_9 e1, ms_10 e1, ms_11 e1, ms_12 e1, ms_13 e1, ms_14 e1, mt_63 e1, mt_65 e1, mt_66 e1, g0, g1, g2, g3, g4, g5, g6, g7, g8, g9]
        refine cp_imax (by omega) lk_X12_302.2 (Nat.le_refl _) (Nat.le_refl _) ?_
        simp only [zr_T, zr_aload_n0, zr_call1, zr_dup, zr_get0, zr_get1, zr_i2l, zr_iadd, zr_iconst, zr_iload_n1, zr_iret, zr_isub, zr_ladd, zr_lconst0, zr_put0, zr_put1, zr_rt_a, zr_rt_i, zr_rt_l, zr_rt_n, zr_rt_z, zr_nil, zr_cons, ↓reduceIte, Nat.reduceAdd, Nat.reduceEqDiff, Nat.reduceLeDiff, Nat.reduceMul, Nat.reduceSub, Int32.reduceOfInt, Int64.reduceOfInt, Int64.reduceOfNat, true_and, and_true, false_and, and_false, or_false, false_or, true_or, or_true, Int.reduceEq, reduceCtorEq, or_self, and_self, ne_eq, not_false_eq_true, not_true_eq_false, eq_self, Nat.le_refl, Nat.zero_le, zr_eI, zr_eL, zr_eR, zr_pI, zr_pL, zr_pR, zr_pO, zr_pV, zq_pA0, zq_pA, zr_get, zr_put_n, zr_put, zr_rem_n, zr_rem, zr_cat_i, zr_cat_l, zr_cat_q, zr_w_n, zr_w, zr_args_n, zr_args, zr_tl_s, zr_tl_n, zr_hIsI, zr_hLsL, zr_hRsR, zr_hIsL, zr_hIsR, zr_hLsI, zr_hLsR, zr_hRsI, zr_hRsL, zr_hNsI, zr_hNsL, zr_hNsR, zr_hZsI, zr_hZsL, zr_hZsR, b2_01, Classical.not_not, Int32.toInt_toInt64, Int64.reduceToInt, zc_1000, zc_100, zc_10, zc_9, zc_2, ci_f, hM4, ms_9 e1, ms_10 e1, ms_11 e1, ms_12 e1, ms_13 e1, ms_14 e1, mt_63 e1, mt_65 e1, mt_66 e1, g0, g1, g2, g3, g4, g5, g6, g7, g8, g9]
        refine cp_imax (by omega) lk_X12_302.2 (Nat.le_refl _) (Nat.le_refl _) ?_
        simp only [zr_T, zr_aload_n0, zr_call1, zr_dup, zr_get0, zr_get1, zr_i2l, zr_iadd, zr_iconst, zr_iload_n1, zr_iret, zr_isub, zr_ladd, zr_lconst0, zr_put0, zr_put1, zr_rt_a, zr_rt_i, zr_rt_l, zr_rt_n, zr_rt_z, zr_nil, zr_cons, ↓reduceIte, Nat.reduceAdd, Nat.reduceEqDiff, Nat.reduceLeDiff, Nat.reduceMul, Nat.reduceSub, Int32.reduceOfInt, Int64.reduceOfInt, Int64.reduceOfNat, true_and, and_true, false_and, and_false, or_false, false_or, true_or, or_true, Int.reduceEq, reduceCtorEq, or_self, and_self, ne_eq, not_false_eq_true, not_true_eq_false, eq_self, Nat.le_refl, Nat.zero_le, zr_eI, zr_eL, zr_eR, zr_pI, zr_pL, zr_pR, zr_pO, zr_pV, zq_pA0, zq_pA, zr_get, zr_put_n, zr_put, zr_rem_n, zr_rem, zr_cat_i, zr_cat_l, zr_cat_q, zr_w_n, zr_w, zr_args_n, zr_args, zr_tl_s, zr_tl_n, zr_hIsI, zr_hLsL, zr_hRsR, zr_hIsL, zr_hIsR, zr_hLsI, zr_hLsR, zr_hRsI, zr_hRsL, zr_hNsI, zr_hNsL, zr_hNsR, zr_hZsI, zr_hZsL, zr_hZsR, b2_01, Classical.not_not, Int32.toInt_toInt64, Int64.reduceToInt, zc_1000, zc_100, zc_10, zc_9, zc_2, ci_f, hM4, ms_9 e1, ms_10 e1, ms_11 e1, ms_12 e1, ms_13 e1, ms_14 e1, mt_63 e1, mt_65 e1, mt_66 e1, g0, g1, g2, g3, g4, g5, g6, g7, g8, g9]
        refine cp_imax (by omega) lk_X12_302.2 (Nat.le_refl _) (Nat.le_refl _) ?_
        simp only [zr_T, zr_aload_n0, zr_call1, zr_dup, zr_get0, zr_i2l, zr_iadd, zr_iconst, zr_iload_n1, zr_iret, zr_ladd, zr_lconst0, zr_put0, zr_put1, zr_rt_a, zr_rt_i, zr_rt_l, zr_rt_n, zr_rt_z, zr_nil, zr_cons, ↓reduceIte, Nat.reduceAdd, Nat.reduceEqDiff, Nat.reduceLeDiff, Nat.reduceMul, Nat.reduceSub, Int32.reduceOfInt, Int64.reduceOfInt, Int64.reduceOfNat, true_and, and_true, false_and, and_false, or_false, false_or, true_or, or_true, Int.reduceEq, reduceCtorEq, or_self, and_self, ne_eq, not_false_eq_true, not_true_eq_false, eq_self, Nat.le_refl, Nat.zero_le, zr_eI, zr_eL, zr_eR, zr_pI, zr_pL, zr_pR, zr_pO, zr_pV, zq_pA0, zq_pA, zr_get, zr_put_n, zr_put, zr_rem_n, zr_rem, zr_cat_i, zr_cat_l, zr_cat_q, zr_w_n, zr_w, zr_args_n, zr_args, zr_tl_s, zr_tl_n, zr_hIsI, zr_hLsL, zr_hRsR, zr_hIsL, zr_hIsR, zr_hLsI, zr_hLsR, zr_hRsI, zr_hRsL, zr_hNsI, zr_hNsL, zr_hNsR, zr_hZsI, zr_hZsL, zr_hZsR, b2_01, Classical.not_not, Int32.toInt_toInt64, Int64.reduceToInt, zc_1000, zc_100, zc_10, zc_9, zc_2, ci_f, hM4, ms_9 e1, ms_10 e1, ms_11 e1, ms_12 e1, ms_13 e1, ms_14 e1, mt_63 e1, mt_65 e1, mt_66 e1, g0, g1, g2, g3, g4, g5, g6, g7, g8, g9]
        refine cp_imin (by omega) lk_X12_299.2 (Nat.le_refl _) (Nat.le_refl _) ?_
        simp only [zr_T, zr_aload_n0, zr_call1, zr_dup, zr_get0, zr_iadd, zr_iconst, zr_iload_n1, zr_iret, zr_lconst0, zr_put0, zr_put1, zr_rt_a, zr_rt_i, zr_rt_l, zr_rt_n, zr_rt_z, zr_nil, zr_cons, ↓reduceIte, Nat.reduceAdd, Nat.reduceEqDiff, Nat.reduceLeDiff, Nat.reduceMul, Nat.reduceSub, Int32.reduceOfInt, Int64.reduceOfInt, Int64.reduceOfNat, true_and, and_true, false_and, and_false, or_false, false_or, true_or, or_true, Int.reduceEq, reduceCtorEq, or_self, and_self, ne_eq, not_false_eq_true, not_true_eq_false, eq_self, Nat.le_refl, Nat.zero_le, zr_eI, zr_eL, zr_eR, zr_pI, zr_pL, zr_pR, zr_pO, zr_pV, zq_pA0, zq_pA, zr_get, zr_put_n, zr_put, zr_rem_n, zr_rem, zr_cat_i, zr_cat_l, zr_cat_q, zr_w_n, zr_w, zr_args_n, zr_args, zr_tl_s, zr_tl_n, zr_hIsI, zr_hLsL, zr_hRsR, zr_hIsL, zr_hIsR, zr_hLsI, zr_hLsR, zr_hRsI, zr_hRsL, zr_hNsI, zr_hNsL, zr_hNsR, zr_hZsI, zr_hZsL, zr_hZsR, b2_01, Classical.not_not, Int32.toInt_toInt64, Int64.reduceToInt, zc_1000, zc_100, zc_10, zc_9, zc_2, ci_f, hM4, ms_9 e1, ms_10 e1, ms_11 e1, ms_12 e1, ms_13 e1, ms_14 e1, mt_63 e1, mt_65 e1, mt_66 e1, g0, g1, g2, g3, g4, g5, g6, g7, g8, g9]
        refine cp_imax (by omega) lk_X12_302.2 (Nat.le_refl _) (Nat.le_refl _) ?_
        simp only [zr_T, zr_aload_n0, zr_dup, zr_get0, zr_iadd, zr_iconst, zr_iload_n1, zr_iret, zr_lconst0, zr_put0, zr_put1, zr_rt_a, zr_rt_i, zr_rt_l, zr_rt_n, zr_rt_z, zr_nil, zr_cons, ↓reduceIte, Nat.reduceAdd, Nat.reduceEqDiff, Nat.reduceLeDiff, Nat.reduceMul, Nat.reduceSub, Int32.reduceOfInt, Int64.reduceOfInt, Int64.reduceOfNat, true_and, and_true, false_and, and_false, or_false, false_or, true_or, or_true, Int.reduceEq, reduceCtorEq, or_self, and_self, ne_eq, not_false_eq_true, not_true_eq_false, eq_self, Nat.le_refl, Nat.zero_le, zr_eI, zr_eL, zr_eR, zr_pI, zr_pL, zr_pR, zr_pO, zr_pV, zq_pA0, zq_pA, zr_get, zr_put_n, zr_put, zr_rem_n, zr_rem, zr_cat_i, zr_cat_l, zr_cat_q, zr_w_n, zr_w, zr_args_n, zr_args, zr_tl_s, zr_tl_n, zr_hIsI, zr_hLsL, zr_hRsR, zr_hIsL, zr_hIsR, zr_hLsI, zr_hLsR, zr_hRsI, zr_hRsL, zr_hNsI, zr_hNsL, zr_hNsR, zr_hZsI, zr_hZsL, zr_hZsR, b2_01, Classical.not_not, Int32.toInt_toInt64, Int64.reduceToInt, zc_1000, zc_100, zc_10, zc_9, zc_2, ci_f, hM4, ms_9 e1, ms_10 e1, ms_11 e1, ms_12 e1, ms_13 e1, ms_14 e1, mt_63 e1, mt_65 e1, mt_66 e1, g0, g1, g2, g3, g4, g5, g6, g7, g8, g9]
        refine qi' ?_ (by repeat (first | with_reducible exact hsc1 | with_reducible refine z_sC.I ?_ (by decide) | with_reducible refine z_sC.L ?_ (by decide))) (by repeat (first | with_reducible exact hM5 | with_reducible refine z_MR.I ?_ | with_reducible refine z_MR.L ?_))
        simp only [mv_sLs, mw_13, mw_14, e1]
        unfold o_close
        rw [if_neg (by omega), c_end iv2, hT, ← hq]
      · try simp only [b2_0, Classical.not_not] at qc61
        try simp only [Int64.le_iff_toInt_le, Int64.lt_iff_toInt_lt, Int32.lt_iff_toInt_lt, Int32.le_iff_toInt_le, Int32.toInt_toInt64, Int64.reduceToInt, Int32.reduceToInt, Int.reduceNeg, Classical.not_not, i32e, l_add] at qc61
        refine ⟨by first | exact vpi (by omega) | with_reducible exact vp_in_nI (by omega) (by omega), ?_⟩
        refine ⟨fun qc62 => ?_, fun qc62 => ?_⟩
        · try simp only [b2_0, Classical.not_not] at qc62
          try simp only [Int64.le_iff_toInt_le, Int64.lt_iff_toInt_lt, Int32.lt_iff_toInt_lt, Int32.le_iff_toInt_le, Int32.toInt_toInt64, Int64.reduceToInt, Int32.reduceToInt, Int.reduceNeg, Classical.not_not, i32e, l_add] at qc62
          refine st b_X12_close_161 _ _ k_X12_close_161 _ _ _ _ _ ?_
          simp only [b_X12_close_161, zr_goto, zr_iinc, zr_nil, zr_cons, ↓reduceIte, Nat.reduceAdd, Nat.reduceEqDiff, Nat.reduceLeDiff, Nat.reduceMul, Nat.reduceSub, Int32.reduceOfInt, Int64.reduceOfInt, Int64.reduceOfNat, true_and, and_true, false_and, and_false, or_false, false_or, true_or, or_true, Int.reduceEq, reduceCtorEq, or_self, and_self, ne_eq, not_false_eq_true, not_true_eq_false, eq_self, Nat.le_refl, Nat.zero_le, zr_eI, zr_eL, zr_eR, zr_pI, zr_pL, zr_pR, zr_pO, zr_pV, zq_pA0, zq_pA, zr_get, zr_put_n, zr_put, zr_rem_n, zr_rem, zr_cat_i, zr_cat_l, zr_cat_q, zr_w_n, zr_w, zr_args_n, zr_args, zr_tl_s, zr_tl_n, zr_hIsI, zr_hLsL, zr_hRsR, zr_hIsL, zr_hIsR, zr_hLsI, zr_hLsR, zr_hRsI, zr_hRsL, zr_hNsI, zr_hNsL, zr_hNsR, zr_hZsI, zr_hZsL, zr_hZsR, b2_01, Classical.not_not, Int32.toInt_toInt64, Int64.reduceToInt, zc_1000, zc_100, zc_10, zc_9, zc_2, ci_f, hM4, mR_33, aLen_333, aCod_333, mR_34, aLen_334, aCod_334, f33, f34, f14, f17, ki]
          first
            | (rw [nI_1]
               refine ih (by omega) h1 ?_ hsc1 hM5
               rw [e1]
               show _ = (if _ then _ else o_lp q.2.2 i)
               rw [if_neg (by omega)])
            | (rw [nI_1]
               refine ih (by omega) _ ?_ (z_sC.I hsc1 (by decide)) hM5
               simp only [mx_34, e1]
               show _ = (if _ then _ else o_lp q.2.2 i)
               rw [if_pos (by omega)])
        · try simp only [b2_0, Classical.not_not] at qc62
          try simp only [Int64.le_iff_toInt_le, Int64.lt_iff_toInt_lt, Int32.lt_iff_toInt_lt, Int32.le_iff_toInt_le, Int32.toInt_toInt64, Int64.reduceToInt, Int32.reduceToInt, Int.reduceNeg, Classical.not_not, i32e, l_add] at qc62
          refine ⟨by first | exact vpi (by omega) | with_reducible exact vp_in_nI (by omega) (by omega), ?_⟩
          refine ⟨fun qc63 => ?_, fun qc63 => ?_⟩
          · try simp only [b2_0, Classical.not_not] at qc63
            try simp only [Int64.le_iff_toInt_le, Int64.lt_iff_toInt_lt, Int32.lt_iff_toInt_lt, Int32.le_iff_toInt_le, Int32.toInt_toInt64, Int64.reduceToInt, Int32.reduceToInt, Int.reduceNeg, Classical.not_not, i32e, l_add] at qc63
            refine st b_X12_close_161 _ _ k_X12_close_161 _ _ _ _ _ ?_
            simp only [b_X12_close_161, zr_goto, zr_iinc, zr_nil, zr_cons, ↓reduceIte, Nat.reduceAdd, Nat.reduceEqDiff, Nat.reduceLeDiff, Nat.reduceMul, Nat.reduceSub, Int32.reduceOfInt, Int64.reduceOfInt, Int64.reduceOfNat, true_and, and_true, false_and, and_false, or_false, false_or, true_or, or_true, Int.reduceEq, reduceCtorEq, or_self, and_self, ne_eq, not_false_eq_true, not_true_eq_false, eq_self, Nat.le_refl, Nat.zero_le, zr_eI, zr_eL, zr_eR, zr_pI, zr_pL, zr_pR, zr_pO, zr_pV, zq_pA0, zq_pA, zr_get, zr_put_n, zr_put, zr_rem_n, zr_rem, zr_cat_i, zr_cat_l, zr_cat_q, zr_w_n, zr_w, zr_args_n, zr_args, zr_tl_s, zr_tl_n, zr_hIsI, zr_hLsL, zr_hRsR, zr_hIsL, zr_hIsR, zr_hLsI, zr_hLsR, zr_hRsI, zr_hRsL, zr_hNsI, zr_hNsL, zr_hNsR, zr_hZsI, zr_hZsL, zr_hZsR, b2_01, Classical.not_not, Int32.toInt_toInt64, Int64.reduceToInt, zc_1000, zc_100, zc_10, zc_9, zc_2, ci_f, hM4, mR_33, aLen_333, aCod_333, mR_34, aLen_334, aCod_334, f33, f34, f14, f17, ki]
            first
              | (rw [nI_1]
                 refine ih (by omega) h1 ?_ hsc1 hM5
                 rw [e1]
                 show _ = (if _ then _ else o_lp q.2.2 i)
                 rw [if_neg (by omega)])
              | (rw [nI_1]
                 refine ih (by omega) _ ?_ (z_sC.I hsc1 (by decide)) hM5
                 simp only [mx_34, e1]
                 show _ = (if _ then _ else o_lp q.2.2 i)
                 rw [if_pos (by omega)])
          · try simp only [b2_0, Classical.not_not] at qc63
            try simp only [Int64.le_iff_toInt_le, Int64.lt_iff_toInt_lt, Int32.lt_iff_toInt_lt, Int32.le_iff_toInt_le, Int32.toInt_toInt64, Int64.reduceToInt, Int32.reduceToInt, Int.reduceNeg, Classical.not_not, i32e, l_add] at qc63
            refine ⟨by first | exact vpi (by omega) | with_reducible exact vp_in_nI (by omega) (by omega), ?_⟩
            refine st b_X12_close_161 _ _ k_X12_close_161 _ _ _ _ _ ?_
            simp only [b_X12_close_161, zr_goto, zr_iinc, zr_nil, zr_cons, ↓reduceIte, Nat.reduceAdd, Nat.reduceEqDiff, Nat.reduceLeDiff, Nat.reduceMul, Nat.reduceSub, Int32.reduceOfInt, Int64.reduceOfInt, Int64.reduceOfNat, true_and, and_true, false_and, and_false, or_false, false_or, true_or, or_true, Int.reduceEq, reduceCtorEq, or_self, and_self, ne_eq, not_false_eq_true, not_true_eq_false, eq_self, Nat.le_refl, Nat.zero_le, zr_eI, zr_eL, zr_eR, zr_pI, zr_pL, zr_pR, zr_pO, zr_pV, zq_pA0, zq_pA, zr_get, zr_put_n, zr_put, zr_rem_n, zr_rem, zr_cat_i, zr_cat_l, zr_cat_q, zr_w_n, zr_w, zr_args_n, zr_args, zr_tl_s, zr_tl_n, zr_hIsI, zr_hLsL, zr_hRsR, zr_hIsL, zr_hIsR, zr_hLsI, zr_hLsR, zr_hRsI, zr_hRsL, zr_hNsI, zr_hNsL, zr_hNsR, zr_hZsI, zr_hZsL, zr_hZsR, b2_01, Classical.not_not, Int32.toInt_toInt64, Int64.reduceToInt, zc_1000, zc_100, zc_10, zc_9, zc_2, ci_f, hM4, mR_33, aLen_333, aCod_333, mR_34, aLen_334, aCod_334, f33, f34, f14, f17, ki]
            first
              | (rw [nI_1]
                 refine ih (by omega) h1 ?_ hsc1 hM5
                 rw [e1]
                 show _ = (if _ then _ else o_lp q.2.2 i)
                 rw [if_neg (by omega)])
              | (rw [nI_1]
                 refine ih (by omega) _ ?_ (z_sC.I hsc1 (by decide)) hM5
                 simp only [mx_34, e1]
                 show _ = (if _ then _ else o_lp q.2.2 i)
                 rw [if_pos (by omega)])
    · try simp only [b2_0, Classical.not_not] at qc21
      try simp only [Int64.le_iff_toInt_le, Int64.lt_iff_toInt_lt, Int32.lt_iff_toInt_lt, Int32.le_iff_toInt_le, Int32.toInt_toInt64, Int64.reduceToInt, Int32.reduceToInt, Int.reduceNeg, Classical.not_not, i32e, l_add] at qc21
      refine (show ∀ i, i ≤ nO S → ∀ (p : z_Q) (h1 : z_H), p = o_hs hr i q → mv h1 = p.2.2 → z_sC h h1 → z_MR h1 → A 35 [(0, z_r 14 0), (1, z_i (nI p.1)), (2, z_l p.2.1), (4, z_i (nI hr)), (5, z_i (nI i))] [] h1 0 0 from z_loop (fun i hi ih => ?_)) 0 (Nat.zero_le _) q h' rfl e' hsc hM3
      intro p h1 hp e1 hsc1 hM4
      have hM5 := hM4
      unfold z_MR at hM4
      have ti := toIntS (show i < 2000000000 by omega)
      have ki := nI_clampS (show i < 2000000000 by omega)
      have qi1 : QI S p := by rw [hp]; exact qi0.hs hi
      have f14 : hI h1 14 0 14 = mS S 14 := by rw [ms_14 e1]; exact qi1.2.1 14 (by decide)
      have f18 : hI h1 14 0 18 = mS S 18 := by rw [ms_18 e1]; exact qi1.2.1 18 (by decide)
      have eo : nO p.2.2 = nO S := by show ci _ = ci _; rw [qi1.2.1 18 (by decide)]
      have ed : (dy p.2.2).toInt = (mS S 14).toInt := by show (mS p.2.2 14).toInt = _; rw [qi1.2.1 14 (by decide)]
      refine st b_X12_close_35 _ _ k_X12_close_35 _ _ _ _ _ ?_
      simp only [b_X12_close_35, zr_aload_n0, zr_cP_ge, zr_cP_gt, zr_cP_ne, zr_call0, zr_get0, zr_get2, zr_goto, zr_iald, zr_icmp, zr_ifc, zr_iload, zr_nil, zr_cons, ↓reduceIte, Nat.reduceAdd, Nat.reduceEqDiff, Nat.reduceLeDiff, Nat.reduceMul, Nat.reduceSub, Int32.reduceOfInt, Int64.reduceOfInt, Int64.reduceOfNat, true_and, and_true, false_and, and_false, or_false, false_or, true_or, or_true, Int.reduceEq, reduceCtorEq, or_self, and_self, ne_eq, not_false_eq_true, not_true_eq_false, eq_self, Nat.le_refl, Nat.zero_le, zr_eI, zr_eL, zr_eR, zr_pI, zr_pL, zr_pR, zr_pO, zr_pV, zq_pA0, zq_pA, zr_get, zr_put_n, zr_put, zr_rem_n, zr_rem, zr_cat_i, zr_cat_l, zr_cat_q, zr_w_n, zr_w, zr_args_n, zr_args, zr_tl_s, zr_tl_n, zr_hIsI, zr_hLsL, zr_hRsR, zr_hIsL, zr_hIsR, zr_hLsI, zr_hLsR, zr_hRsI, zr_hRsL, zr_hNsI, zr_hNsL, zr_hNsR, zr_hZsI, zr_hZsL, zr_hZsR, b2_01, Classical.not_not, Int32.toInt_toInt64, Int64.reduceToInt, zc_1000, zc_100, zc_10, zc_9, zc_2, ci_f, hM4, mR_42, aLen_342, aCod_342, ma_42 e1, mR_39, aLen_339, aCod_339, ma_39 e1, mR_40, aLen_340, aCod_340, ma_40 e1, mR_47, aLen_347, aCod_347, mb_47 e1, f14, f18, ki]
      refine ⟨fun qc41 => ?_, fun qc41 => ?_⟩
      · try simp only [b2_0, Classical.not_not] at qc41
        try simp only [Int64.le_iff_toInt_le, Int64.lt_iff_toInt_lt, Int32.lt_iff_toInt_lt, Int32.le_iff_toInt_le, Int32.toInt_toInt64, Int64.reduceToInt, Int32.reduceToInt, Int.reduceNeg, Classical.not_not, i32e, l_add] at qc41
        refine st b_X12_close_111 _ _ k_X12_close_111 _ _ _ _ _ ?_
        simp only [b_X12_close_111, zr_goto, zr_iinc, zr_nil, zr_cons, ↓reduceIte, Nat.reduceAdd, Nat.reduceEqDiff, Nat.reduceLeDiff, Nat.reduceMul, Nat.reduceSub, Int32.reduceOfInt, Int64.reduceOfInt, Int64.reduceOfNat, true_and, and_true, false_and, and_false, or_false, false_or, true_or, or_true, Int.reduceEq, reduceCtorEq, or_self, and_self, ne_eq, not_false_eq_true, not_true_eq_false, eq_self, Nat.le_refl, Nat.zero_le, zr_eI, zr_eL, zr_eR, zr_pI, zr_pL, zr_pR, zr_pO, zr_pV, zq_pA0, zq_pA, zr_get, zr_put_n, zr_put, zr_rem_n, zr_rem, zr_cat_i, zr_cat_l, zr_cat_q, zr_w_n, zr_w, zr_args_n, zr_args, zr_tl_s, zr_tl_n, zr_hIsI, zr_hLsL, zr_hRsR, zr_hIsL, zr_hIsR, zr_hLsI, zr_hLsR, zr_hRsI, zr_hRsL, zr_hNsI, zr_hNsL, zr_hNsR, zr_hZsI, zr_hZsL, zr_hZsR, b2_01, Classical.not_not, Int32.toInt_toInt64, Int64.reduceToInt, zc_1000, zc_100, zc_10, zc_9, zc_2, ci_f, hM4, mR_42, aLen_342, aCod_342, ma_42 e1, mR_39, aLen_339, aCod_339, ma_39 e1, mR_40, aLen_340, aCod_340, ma_40 e1, mR_47, aLen_347, aCod_347, mb_47 e1, f14, f18, ki]
        have ei : i = nO S := by omega
        subst ei
        rw [nI_1]
        refine wk _ _ _ _ _ _ _ (ihr (by omega) p h1 ?_ e1 hsc1 hM5)
        rw [hp, hq]
        rfl
      · try simp only [b2_0, Classical.not_not] at qc41
        try simp only [Int64.le_iff_toInt_le, Int64.lt_iff_toInt_lt, Int32.lt_iff_toInt_lt, Int32.le_iff_toInt_le, Int32.toInt_toInt64, Int64.reduceToInt, Int32.reduceToInt, Int.reduceNeg, Classical.not_not, i32e, l_add] at qc41
        refine ⟨by first | exact vpi (by omega) | with_reducible exact vp_in_nI (by omega) (by omega), ?_⟩
        refine ⟨fun qc42 => ?_, fun qc42 => ?_⟩
        · try simp only [b2_0, Classical.not_not] at qc42
          try simp only [Int64.le_iff_toInt_le, Int64.lt_iff_toInt_lt, Int32.lt_iff_toInt_lt, Int32.le_iff_toInt_le, Int32.toInt_toInt64, Int64.reduceToInt, Int32.reduceToInt, Int.reduceNeg, Classical.not_not, i32e, l_add] at qc42
          refine st b_X12_close_105 _ _ k_X12_close_105 _ _ _ _ _ ?_
          simp only [b_X12_close_105, zr_goto, zr_iinc, zr_nil, zr_cons, ↓reduceIte, Nat.reduceAdd, Nat.reduceEqDiff, Nat.reduceLeDiff, Nat.reduceMul, Nat.reduceSub, Int32.reduceOfInt, Int64.reduceOfInt, Int64.reduceOfNat, true_and, and_true, false_and, and_false, or_false, false_or, true_or, or_true, Int.reduceEq, reduceCtorEq, or_self, and_self, ne_eq, not_false_eq_true, not_true_eq_false, eq_self, Nat.le_refl, Nat.zero_le, zr_eI, zr_eL, zr_eR, zr_pI, zr_pL, zr_pR, zr_pO, zr_pV, zq_pA0, zq_pA, zr_get, zr_put_n, zr_put, zr_rem_n, zr_rem, zr_cat_i, zr_cat_l, zr_cat_q, zr_w_n, zr_w, zr_args_n, zr_args, zr_tl_s, zr_tl_n, zr_hIsI, zr_hLsL, zr_hRsR, zr_hIsL, zr_hIsR, zr_hLsI, zr_hLsR, zr_hRsI, zr_hRsL, zr_hNsI, zr_hNsL, zr_hNsR, zr_hZsI, zr_hZsL, zr_hZsR, b2_01, Classical.not_not, Int32.toInt_toInt64, Int64.reduceToInt, zc_1000, zc_100, zc_10, zc_9, zc_2, ci_f, hM4, mR_42, aLen_342, aCod_342, ma_42 e1, mR_39, aLen_339, aCod_339, ma_39 e1, mR_40, aLen_340, aCod_340, ma_40 e1, mR_47, aLen_347, aCod_347, mb_47 e1, f14, f18, ki]
          first
            | (simp only [nI_1]
               refine ih (by omega) (p.1 + 1, p.2.1 + mB p.2.2 47 i, (o_does p.2.2 i).2) h2 ?_ e2 hsc2 M2
               show _ = o_st hr i (o_hs hr i q)
               rw [← hp]
               unfold o_st
               rw [if_pos (by omega), if_pos (by assumption)])
            | (rw [nI_1]
               refine ih (by omega) (p.1, p.2.1, (o_does p.2.2 i).2) h2 ?_ e2 hsc2 M2
               show _ = o_st hr i (o_hs hr i q)
               rw [← hp]
               unfold o_st
               rw [if_pos (by omega), if_neg (by assumption)])
            | (rw [nI_1]
               refine ih (by omega) p h1 ?_ e1 hsc1 hM5
               show _ = o_st hr i (o_hs hr i q)
               rw [← hp]
               unfold o_st
               rw [if_neg (by omega)])
        · try simp only [b2_0, Classical.not_not] at qc42
          try simp only [Int64.le_iff_toInt_le, Int64.lt_iff_toInt_lt, Int32.lt_iff_toInt_lt, Int32.le_iff_toInt_le, Int32.toInt_toInt64, Int64.reduceToInt, Int32.reduceToInt, Int.reduceNeg, Classical.not_not, i32e, l_add] at qc42
          refine ⟨by first | exact vpi (by omega) | with_reducible exact vp_in_nI (by omega) (by omega), ?_⟩
          refine ⟨fun qc43 => ?_, fun qc43 => ?_⟩
          · try simp only [b2_0, Classical.not_not] at qc43
            try simp only [Int64.le_iff_toInt_le, Int64.lt_iff_toInt_lt, Int32.lt_iff_toInt_lt, Int32.le_iff_toInt_le, Int32.toInt_toInt64, Int64.reduceToInt, Int32.reduceToInt, Int.reduceNeg, Classical.not_not, i32e, l_add] at qc43
            refine st b_X12_close_105 _ _ k_X12_close_105 _ _ _ _ _ ?_
            simp only [b_X12_close_105, zr_goto, zr_iinc, zr_nil, zr_cons, ↓reduceIte, Nat.reduceAdd, Nat.reduceEqDiff, Nat.reduceLeDiff, Nat.reduceMul, Nat.reduceSub, Int32.reduceOfInt, Int64.reduceOfInt, Int64.reduceOfNat, true_and, and_true, false_and, and_false, or_false, false_or, true_or, or_true, Int.reduceEq, reduceCtorEq, or_self, and_self, ne_eq, not_false_eq_true, not_true_eq_false, eq_self, Nat.le_refl, Nat.zero_le, zr_eI, zr_eL, zr_eR, zr_pI, zr_pL, zr_pR, zr_pO, zr_pV, zq_pA0, zq_pA, zr_get, zr_put_n, zr_put, zr_rem_n, zr_rem, zr_cat_i, zr_cat_l, zr_cat_q, zr_w_n, zr_w, zr_args_n, zr_args, zr_tl_s, zr_tl_n, zr_hIsI, zr_hLsL, zr_hRsR, zr_hIsL, zr_hIsR, zr_hLsI, zr_hLsR, zr_hRsI, zr_hRsL, zr_hNsI, zr_hNsL, zr_hNsR, zr_hZsI, zr_hZsL, zr_hZsR, b2_01, Classical.not_not, Int32.toInt_toInt64, Int64.reduceToInt, zc_1000, zc_100, zc_10, zc_9, zc_2, ci_f, hM4, mR_42, aLen_342, aCod_342, ma_42 e1, mR_39, aLen_339, aCod_339, ma_39 e1, mR_40, aLen_340, aCod_340, ma_40 e1, mR_47, aLen_347, aCod_347, mb_47 e1, f14, f18, ki]
            first
              | (simp only [nI_1]
                 refine ih (by omega) (p.1 + 1, p.2.1 + mB p.2.2 47 i, (o_does p.2.2 i).2) h2 ?_ e2 hsc2 M2
                 show _ = o_st hr i (o_hs hr i q)
                 rw [← hp]
                 unfold o_st
                 rw [if_pos (by omega), if_pos (by assumption)])
              | (rw [nI_1]
                 refine ih (by omega) (p.1, p.2.1, (o_does p.2.2 i).2) h2 ?_ e2 hsc2 M2
                 show _ = o_st hr i (o_hs hr i q)
                 rw [← hp]
                 unfold o_st
                 rw [if_pos (by omega), if_neg (by assumption)])
              | (rw [nI_1]
                 refine ih (by omega) p h1 ?_ e1 hsc1 hM5
                 show _ = o_st hr i (o_hs hr i q)
                 rw [← hp]
                 unfold o_st
                 rw [if_neg (by omega)])
          · try simp only [b2_0, Classical.not_not] at qc43
            try simp only [Int64.le_iff_toInt_le, Int64.lt_iff_toInt_lt, Int32.lt_iff_toInt_lt, Int32.le_iff_toInt_le, Int32.toInt_toInt64, Int64.reduceToInt, Int32.reduceToInt, Int.reduceNeg, Classical.not_not, i32e, l_add] at qc43
            refine ⟨by first | exact vpi (by omega) | with_reducible exact vp_in_nI (by omega) (by omega), ?_⟩
            refine ⟨fun qc44 => ?_, fun qc44 => ?_⟩
            · try simp only [b2_0, Classical.not_not] at qc44
              try simp only [Int64.le_iff_toInt_le, Int64.lt_iff_toInt_lt, Int32.lt_iff_toInt_lt, Int32.le_iff_toInt_le, Int32.toInt_toInt64, Int64.reduceToInt, Int32.reduceToInt, Int.reduceNeg, Classical.not_not, i32e, l_add] at qc44
              refine st b_X12_close_105 _ _ k_X12_close_105 _ _ _ _ _ ?_
              simp only [b_X12_close_105, zr_goto, zr_iinc, zr_nil, zr_cons, ↓reduceIte, Nat.reduceAdd, Nat.reduceEqDiff, Nat.reduceLeDiff, Nat.reduceMul, Nat.reduceSub, Int32.reduceOfInt, Int64.reduceOfInt, Int64.reduceOfNat, true_and, and_true, false_and, and_false, or_false, false_or, true_or, or_true, Int.reduceEq, reduceCtorEq, or_self, and_self, ne_eq, not_false_eq_true, not_true_eq_false, eq_self, Nat.le_refl, Nat.zero_le, zr_eI, zr_eL, zr_eR, zr_pI, zr_pL, zr_pR, zr_pO, zr_pV, zq_pA0, zq_pA, zr_get, zr_put_n, zr_put, zr_rem_n, zr_rem, zr_cat_i, zr_cat_l, zr_cat_q, zr_w_n, zr_w, zr_args_n, zr_args, zr_tl_s, zr_tl_n, zr_hIsI, zr_hLsL, zr_hRsR, zr_hIsL, zr_hIsR, zr_hLsI, zr_hLsR, zr_hRsI, zr_hRsL, zr_hNsI, zr_hNsL, zr_hNsR, zr_hZsI, zr_hZsL, zr_hZsR, b2_01, Classical.not_not, Int32.toInt_toInt64, Int64.reduceToInt, zc_1000, zc_100, zc_10, zc_9, zc_2, ci_f, hM4, mR_42, aLen_342, aCod_342, ma_42 e1, mR_39, aLen_339, aCod_339, ma_39 e1, mR_40, aLen_340, aCod_340, ma_40 e1, mR_47, aLen_347, aCod_347, mb_47 e1, f14, f18, ki]
              first
                | (simp only [nI_1]
                   refine ih (by omega) (p.1 + 1, p.2.1 + mB p.2.2 47 i, (o_does p.2.2 i).2) h2 ?_ e2 hsc2 M2
                   show _ = o_st hr i (o_hs hr i q)
                   rw [← hp]
                   unfold o_st
                   rw [if_pos (by omega), if_pos (by assumption)])
                | (rw [nI_1]
                   refine ih (by omega) (p.1, p.2.1, (o_does p.2.2 i).2) h2 ?_ e2 hsc2 M2
                   show _ = o_st hr i (o_hs hr i q)
                   rw [← hp]
                   unfold o_st
                   rw [if_pos (by omega), if_neg (by assumption)])
                | (rw [nI_1]
                   refine ih (by omega) p h1 ?_ e1 hsc1 hM5
                   show _ = o_st hr i (o_hs hr i q)
                   rw [← hp]
                   unfold o_st
                   rw [if_neg (by omega)])
            · try simp only [b2_0, Classical.not_not] at qc44
              try simp only [Int64.le_iff_toInt_le, Int64.lt_iff_toInt_lt, Int32.lt_iff_toInt_lt, Int32.le_iff_toInt_le, Int32.toInt_toInt64, Int64.reduceToInt, Int32.reduceToInt, Int.reduceNeg, Classical.not_not, i32e, l_add] at qc44
              have hw0 : (mA p.2.2 42 i).toInt = 0 := by omega
              refine cpx (by omega) lk_X12_293 (rc_14 rfl) (m_does l G _ (by omega) p.2.2 _ e1 hM5 qi1.1 i (by omega) hw0) (Nat.le_refl _) (Nat.le_refl _) (fun r2 h2 g2 => ?_)
              obtain ⟨rfl, e2, s2, M2⟩ := g2
              have hsc2 : z_sC h h2 := hsc1.tr s2
              have N2 := M2
              unfold z_MR at N2
              have f47 : hL h2 347 0 i = mB p.2.2 47 i := by rw [mb_47 e2, does_B (by decide)]
              simp only [zr_cP_ne, zr_goto, zr_ifc, zr_nil, zr_cons, ↓reduceIte, Nat.reduceAdd, Nat.reduceEqDiff, Nat.reduceLeDiff, Nat.reduceMul, Nat.reduceSub, Int32.reduceOfInt, Int64.reduceOfInt, Int64.reduceOfNat, true_and, and_true, false_and, and_false, or_false, false_or, true_or, or_true, Int.reduceEq, reduceCtorEq, or_self, and_self, ne_eq, not_false_eq_true, not_true_eq_false, eq_self, Nat.le_refl, Nat.zero_le, zr_eI, zr_eL, zr_eR, zr_pI, zr_pL, zr_pR, zr_pO, zr_pV, zq_pA0, zq_pA, zr_get, zr_put_n, zr_put, zr_rem_n, zr_rem, zr_cat_i, zr_cat_l, zr_cat_q, zr_w_n, zr_w, zr_args_n, zr_args, zr_tl_s, zr_tl_n, zr_hIsI, zr_hLsL, zr_hRsR, zr_hIsL, zr_hIsR, zr_hLsI, zr_hLsR, zr_hRsI, zr_hRsL, zr_hNsI, zr_hNsL, zr_hNsR, zr_hZsI, zr_hZsL, zr_hZsR, b2_01, Classical.not_not, Int32.toInt_toInt64, Int64.reduceToInt, zc_1000, zc_100, zc_10, zc_9, zc_2, ci_f, N2, mR_47, aLen_347, aCod_347, f47, ki]
              refine ⟨fun qc45 => ?_, fun qc45 => ?_⟩
              · try simp only [b2_0, Classical.not_not] at qc45
                try simp only [Int64.le_iff_toInt_le, Int64.lt_iff_toInt_lt, Int32.lt_iff_toInt_lt, Int32.le_iff_toInt_le, Int32.toInt_toInt64, Int64.reduceToInt, Int32.reduceToInt, Int.reduceNeg, Classical.not_not, i32e, l_add] at qc45
                refine st b_X12_close_92 _ _ k_X12_close_92 _ _ _ _ _ ?_
                simp only [b_X12_close_92, zr_aload_n0, zr_get2, zr_iinc, zr_iload, zr_ladd, zr_lald, zr_lload_n2, zr_lstore_n2, zr_nil, zr_cons, ↓reduceIte, Nat.reduceAdd, Nat.reduceEqDiff, Nat.reduceLeDiff, Nat.reduceMul, Nat.reduceSub, Int32.reduceOfInt, Int64.reduceOfInt, Int64.reduceOfNat, true_and, and_true, false_and, and_false, or_false, false_or, true_or, or_true, Int.reduceEq, reduceCtorEq, or_self, and_self, ne_eq, not_false_eq_true, not_true_eq_false, eq_self, Nat.le_refl, Nat.zero_le, zr_eI, zr_eL, zr_eR, zr_pI, zr_pL, zr_pR, zr_pO, zr_pV, zq_pA0, zq_pA, zr_get, zr_put_n, zr_put, zr_rem_n, zr_rem, zr_cat_i, zr_cat_l, zr_cat_q, zr_w_n, zr_w, zr_args_n, zr_args, zr_tl_s, zr_tl_n, zr_hIsI, zr_hLsL, zr_hRsR, zr_hIsL, zr_hIsR, zr_hLsI, zr_hLsR, zr_hRsI, zr_hRsL, zr_hNsI, zr_hNsL, zr_hNsR, zr_hZsI, zr_hZsL, zr_hZsR, b2_01, Classical.not_not, Int32.toInt_toInt64, Int64.reduceToInt, zc_1000, zc_100, zc_10, zc_9, zc_2, ci_f, N2, mR_47, aLen_347, aCod_347, f47, ki]
                refine ⟨by first | exact vpi (by omega) | with_reducible exact vp_in_nI (by omega) (by omega), ?_⟩
                refine st b_X12_close_105 _ _ k_X12_close_105 _ _ _ _ _ ?_
                simp only [b_X12_close_105, zr_goto, zr_iinc, zr_nil, zr_cons, ↓reduceIte, Nat.reduceAdd, Nat.reduceEqDiff, Nat.reduceLeDiff, Nat.reduceMul, Nat.reduceSub, Int32.reduceOfInt, Int64.reduceOfInt, Int64.reduceOfNat, true_and, and_true, false_and, and_false, or_false, false_or, true_or, or_true, Int.reduceEq, reduceCtorEq, or_self, and_self, ne_eq, not_false_eq_true, not_true_eq_false, eq_self, Nat.le_refl, Nat.zero_le, zr_eI, zr_eL, zr_eR, zr_pI, zr_pL, zr_pR, zr_pO, zr_pV, zq_pA0, zq_pA, zr_get, zr_put_n, zr_put, zr_rem_n, zr_rem, zr_cat_i, zr_cat_l, zr_cat_q, zr_w_n, zr_w, zr_args_n, zr_args, zr_tl_s, zr_tl_n, zr_hIsI, zr_hLsL, zr_hRsR, zr_hIsL, zr_hIsR, zr_hLsI, zr_hLsR, zr_hRsI, zr_hRsL, zr_hNsI, zr_hNsL, zr_hNsR, zr_hZsI, zr_hZsL, zr_hZsR, b2_01, Classical.not_not, Int32.toInt_toInt64, Int64.reduceToInt, zc_1000, zc_100, zc_10, zc_9, zc_2, ci_f, N2, mR_47, aLen_347, aCod_347, f47, ki]
                first
                  | (simp only [nI_1]
                     refine ih (by omega) (p.1 + 1, p.2.1 + mB p.2.2 47 i, (o_does p.2.2 i).2) h2 ?_ e2 hsc2 M2
                     show _ = o_st hr i (o_hs hr i q)
                     rw [← hp]
                     unfold o_st
                     rw [if_pos (by omega), if_pos (by assumption)])
                  | (rw [nI_1]
                     refine ih (by omega) (p.1, p.2.1, (o_does p.2.2 i).2) h2 ?_ e2 hsc2 M2
                     show _ = o_st hr i (o_hs hr i q)
                     rw [← hp]
                     unfold o_st
                     rw [if_pos (by omega), if_neg (by assumption)])
                  | (rw [nI_1]
                     refine ih (by omega) p h1 ?_ e1 hsc1 hM5
                     show _ = o_st hr i (o_hs hr i q)
                     rw [← hp]
                     unfold o_st
                     rw [if_neg (by omega)])
              · try simp only [b2_0, Classical.not_not] at qc45
                try simp only [Int64.le_iff_toInt_le, Int64.lt_iff_toInt_lt, Int32.lt_iff_toInt_lt, Int32.le_iff_toInt_le, Int32.toInt_toInt64, Int64.reduceToInt, Int32.reduceToInt, Int.reduceNeg, Classical.not_not, i32e, l_add] at qc45
                refine st b_X12_close_105 _ _ k_X12_close_105 _ _ _ _ _ ?_
                simp only [b_X12_close_105, zr_goto, zr_iinc, zr_nil, zr_cons, ↓reduceIte, Nat.reduceAdd, Nat.reduceEqDiff, Nat.reduceLeDiff, Nat.reduceMul, Nat.reduceSub, Int32.reduceOfInt, Int64.reduceOfInt, Int64.reduceOfNat, true_and, and_true, false_and, and_false, or_false, false_or, true_or, or_true, Int.reduceEq, reduceCtorEq, or_self, and_self, ne_eq, not_false_eq_true, not_true_eq_false, eq_self, Nat.le_refl, Nat.zero_le, zr_eI, zr_eL, zr_eR, zr_pI, zr_pL, zr_pR, zr_pO, zr_pV, zq_pA0, zq_pA, zr_get, zr_put_n, zr_put, zr_rem_n, zr_rem, zr_cat_i, zr_cat_l, zr_cat_q, zr_w_n, zr_w, zr_args_n, zr_args, zr_tl_s, zr_tl_n, zr_hIsI, zr_hLsL, zr_hRsR, zr_hIsL, zr_hIsR, zr_hLsI, zr_hLsR, zr_hRsI, zr_hRsL, zr_hNsI, zr_hNsL, zr_hNsR, zr_hZsI, zr_hZsL, zr_hZsR, b2_01, Classical.not_not, Int32.toInt_toInt64, Int64.reduceToInt, zc_1000, zc_100, zc_10, zc_9, zc_2, ci_f, N2, mR_47, aLen_347, aCod_347, f47, ki]
                first
                  | (simp only [nI_1]
                     refine ih (by omega) (p.1 + 1, p.2.1 + mB p.2.2 47 i, (o_does p.2.2 i).2) h2 ?_ e2 hsc2 M2
                     show _ = o_st hr i (o_hs hr i q)
                     rw [← hp]
                     unfold o_st
                     rw [if_pos (by omega), if_pos (by assumption)])
                  | (rw [nI_1]
                     refine ih (by omega) (p.1, p.2.1, (o_does p.2.2 i).2) h2 ?_ e2 hsc2 M2
                     show _ = o_st hr i (o_hs hr i q)
                     rw [← hp]
                     unfold o_st
                     rw [if_pos (by omega), if_neg (by assumption)])
                  | (rw [nI_1]
                     refine ih (by omega) p h1 ?_ e1 hsc1 hM5
                     show _ = o_st hr i (o_hs hr i q)
                     rw [← hp]
                     unfold o_st
                     rw [if_neg (by omega)])
  · try simp only [b2_0, Classical.not_not] at qc1
    try simp only [Int64.le_iff_toInt_le, Int64.lt_iff_toInt_lt, Int32.lt_iff_toInt_lt, Int32.le_iff_toInt_le, Int32.toInt_toInt64, Int64.reduceToInt, Int32.reduceToInt, Int.reduceNeg, Classical.not_not, i32e, l_add] at qc1
    refine qi' ?_ (by repeat (first | exact z_sC.rf | exact hsc | refine z_sC.I ?_ (by decide) | refine z_sC.L ?_ (by decide))) hM'
    simp only [mv_thr, mv_sLs, mv_moved, e, mw_9, mw_10, mw_11, mw_12, mw_13, mw_14, mw_17, mw_18, mx_33, mx_34, mx_39, mx_40, mx_42, my_47]
    unfold o_close
    (repeat' split) <;> (first | rfl | (exfalso; omega))
