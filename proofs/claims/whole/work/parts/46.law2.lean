/-! the law's loop; its beginning -/
theorem law_loop {l : Launch} {G : z_G} {A : Nat → z_K} (st : LawSt l G A) (hL : gL G ≤ 4608) (j : Nat) (hj : j ≤ gL G / 9) : ∀ (S : z_M) (h : z_H) (ce sl : Nat), LI j S h ce sl → A 18 [(0, z_r 400 0), (1, z_r 13 0), (2, z_r 14 0), (3, z_i (nI (9 * j)))] [] h ce sl := by
  refine z_loop (n := gL G / 9) (P := fun j => ∀ (S : z_M) (h : z_H) (ce sl : Nat), LI j S h ce sl → A 18 [(0, z_r 400 0), (1, z_r 13 0), (2, z_r 14 0), (3, z_i (nI (9 * j)))] [] h ce sl) (fun j hj ih => ?_) j hj
  intro S h ce sl I
  have c1 := I.2.2.2.2.1
  have c2 := I.2.2.2.2.2
  have tj := toIntS (show 9 * j < 2000000000 by omega)
  have kj := nI_clampS (show 9 * j < 2000000000 by omega)
  have tL := toIntS (show gL G < 2000000000 by omega)
  have t9 : (9 : Int32).toInt = 9 := rfl
  have tL9 : (nI (gL G) - 9).toInt = (gL G : Int) - 9 := by
    rw [sub32 (by omega) (by omega), tL, t9]
  have K : 9 * j + 9 ≤ gL G → LK A j := fun h9 => by
    intro S' h' ce' sl' I'
    refine st b_L_law_1579 _ _ k_L_law_1579 _ _ _ _ _ ?_
    simp only [b_L_law_1579, zr_goto, zr_iinc, zr_nil, zr_cons, ↓reduceIte, Nat.reduceAdd, Nat.reduceEqDiff, Nat.reduceLeDiff, Nat.reduceMul, Nat.reduceSub, Int32.reduceOfInt, Int64.reduceOfInt, Int64.reduceOfNat, true_and, and_true, false_and, and_false, or_false, false_or, true_or, or_true, Int.reduceEq, reduceCtorEq, or_self, and_self, ne_eq, not_false_eq_true, not_true_eq_false, eq_self, Nat.le_refl, Nat.zero_le, zr_eI, zr_eL, zr_eR, zr_pI, zr_pL, zr_pR, zr_pO, zr_pV, zq_pA0, zq_pA, zr_get, zr_put_n, zr_put, zr_rem_n, zr_rem, zr_cat_i, zr_cat_l, zr_cat_q, zr_w_n, zr_w, zr_args_n, zr_args, zr_tl_s, zr_tl_n, zq_hIsI, zq_hLsL, zq_hRsR, zq_hIsL, zq_hIsR, zq_hLsI, zq_hLsR, zq_hRsI, zq_hRsL, zq_hNsI, zq_hNsL, zq_hNsR, zq_hZsI, zq_hZsL, zq_hZsR, b2_01, Classical.not_not, Int32.toInt_toInt64, Int64.reduceToInt, zc_1000, zc_100, zc_10, zc_9, zc_2, ci_f]
    rw [show nI (9 * j) + 9 = nI (9 * (j + 1)) from nI_add (9 * j) 9]
    exact ih (by omega) S' h' ce' sl' I'
  refine st b_L_law_18 _ _ k_L_law_18 _ _ _ _ _ ?_
  simp only [b_L_law_18, zr_alen, zr_aload_n0, zr_bipush, zr_cP_gt, zr_iald1, zr_iand, zr_icmp, zr_iload_n3, zr_isub, zr_tsw, zr_nil, zr_cons, ↓reduceIte, Nat.reduceAdd, Nat.reduceEqDiff, Nat.reduceLeDiff, Nat.reduceMul, Nat.reduceSub, Int32.reduceOfInt, Int64.reduceOfInt, Int64.reduceOfNat, true_and, and_true, false_and, and_false, or_false, false_or, true_or, or_true, Int.reduceEq, reduceCtorEq, or_self, and_self, ne_eq, not_false_eq_true, not_true_eq_false, eq_self, Nat.le_refl, Nat.zero_le, zr_eI, zr_eL, zr_eR, zr_pI, zr_pL, zr_pR, zr_pO, zr_pV, zq_pA0, zq_pA, zr_get, zr_put_n, zr_put, zr_rem_n, zr_rem, zr_cat_i, zr_cat_l, zr_cat_q, zr_w_n, zr_w, zr_args_n, zr_args, zr_tl_s, zr_tl_n, zq_hIsI, zq_hLsL, zq_hRsR, zq_hIsL, zq_hIsR, zq_hLsI, zq_hLsR, zq_hRsI, zq_hRsL, zq_hNsI, zq_hNsL, zq_hNsR, zq_hZsI, zq_hZsL, zq_hZsR, b2_01, Classical.not_not, Int32.toInt_toInt64, Int64.reduceToInt, zc_1000, zc_100, zc_10, zc_9, zc_2, ci_f, kj]
  refine ⟨fun qc1 => ?_, fun qc1 => ?_⟩
  · try simp only [b2_0, Classical.not_not] at qc1
    try simp only [Int64.le_iff_toInt_le, Int64.lt_iff_toInt_lt, Int32.lt_iff_toInt_lt, Int32.le_iff_toInt_le, Int32.toInt_toInt64, Int64.reduceToInt, Int32.reduceToInt, Int.reduceNeg, Classical.not_not, i32e, l_add] at qc1
    refine st b_L_law_1585 _ _ k_L_law_1585 _ _ _ _ _ ?_
    simp only [b_L_law_1585, zr_T, zr_iconst, zr_iret, zr_rt_a, zr_rt_i, zr_rt_l, zr_rt_n, zr_rt_z, zr_nil, zr_cons, ↓reduceIte, Nat.reduceAdd, Nat.reduceEqDiff, Nat.reduceLeDiff, Nat.reduceMul, Nat.reduceSub, Int32.reduceOfInt, Int64.reduceOfInt, Int64.reduceOfNat, true_and, and_true, false_and, and_false, or_false, false_or, true_or, or_true, Int.reduceEq, reduceCtorEq, or_self, and_self, ne_eq, not_false_eq_true, not_true_eq_false, eq_self, Nat.le_refl, Nat.zero_le, zr_eI, zr_eL, zr_eR, zr_pI, zr_pL, zr_pR, zr_pO, zr_pV, zq_pA0, zq_pA, zr_get, zr_put_n, zr_put, zr_rem_n, zr_rem, zr_cat_i, zr_cat_l, zr_cat_q, zr_w_n, zr_w, zr_args_n, zr_args, zr_tl_s, zr_tl_n, zq_hIsI, zq_hLsL, zq_hRsR, zq_hIsL, zq_hIsR, zq_hLsI, zq_hLsR, zq_hRsI, zq_hRsL, zq_hNsI, zq_hNsL, zq_hNsR, zq_hZsI, zq_hZsL, zq_hZsR, b2_01, Classical.not_not, Int32.toInt_toInt64, Int64.reduceToInt, zc_1000, zc_100, zc_10, zc_9, zc_2, ci_f, kj]
    exact ⟨by omega, by omega, rfl⟩
  · try simp only [b2_0, Classical.not_not] at qc1
    try simp only [Int64.le_iff_toInt_le, Int64.lt_iff_toInt_lt, Int32.lt_iff_toInt_lt, Int32.le_iff_toInt_le, Int32.toInt_toInt64, Int64.reduceToInt, Int32.reduceToInt, Int.reduceNeg, Classical.not_not, i32e, l_add] at qc1
    have hj9 : 9 * j + 9 ≤ gL G := by omega
    try simp only [zr_aload_n0, zr_bipush, zr_iald1, zr_iand, zr_iload_n3, zr_tsw, zr_nil, zr_cons, ↓reduceIte, Nat.reduceAdd, Nat.reduceEqDiff, Nat.reduceLeDiff, Nat.reduceMul, Nat.reduceSub, Int32.reduceOfInt, Int64.reduceOfInt, Int64.reduceOfNat, true_and, and_true, false_and, and_false, or_false, false_or, true_or, or_true, Int.reduceEq, reduceCtorEq, or_self, and_self, ne_eq, not_false_eq_true, not_true_eq_false, eq_self, Nat.le_refl, Nat.zero_le, zr_eI, zr_eL, zr_eR, zr_pI, zr_pL, zr_pR, zr_pO, zr_pV, zq_pA0, zq_pA, zr_get, zr_put_n, zr_put, zr_rem_n, zr_rem, zr_cat_i, zr_cat_l, zr_cat_q, zr_w_n, zr_w, zr_args_n, zr_args, zr_tl_s, zr_tl_n, zq_hIsI, zq_hLsL, zq_hRsR, zq_hIsL, zq_hIsR, zq_hLsI, zq_hLsR, zq_hRsI, zq_hRsL, zq_hNsI, zq_hNsL, zq_hNsR, zq_hZsI, zq_hZsL, zq_hZsR, b2_01, Classical.not_not, Int32.toInt_toInt64, Int64.reduceToInt, zc_1000, zc_100, zc_10, zc_9, zc_2, ci_f, kj]
    refine ⟨by exact vp_in_nI (by omega) (by omega), ?_⟩
    by_cases qt2 : (gV G (9 * j) &&& 63).toInt = 0
    · refine z_swA 192 0 qt2 rfl ?_
      exact lc_terms st hj9 hL I (K hj9)
    · by_cases qt3 : (gV G (9 * j) &&& 63).toInt = 1
      · refine z_swA 291 1 qt3 rfl ?_
        exact lc_kind st hj9 hL I (K hj9)
      · by_cases qt4 : (gV G (9 * j) &&& 63).toInt = 2
        · refine z_swA 334 2 qt4 rfl ?_
          exact lc_account st hj9 hL I (K hj9)
        · by_cases qt5 : (gV G (9 * j) &&& 63).toInt = 3
          · refine z_swA 347 3 qt5 rfl ?_
            exact lc_attorney st hj9 hL I (K hj9)
          · by_cases qt6 : (gV G (9 * j) &&& 63).toInt = 4
            · refine z_swA 390 4 qt6 rfl ?_
              exact lc_take st hj9 hL I (K hj9)
            · by_cases qt7 : (gV G (9 * j) &&& 63).toInt = 5
              · refine z_swA 433 5 qt7 rfl ?_
                exact lc_redeem st hj9 hL I (K hj9)
              · by_cases qt8 : (gV G (9 * j) &&& 63).toInt = 6
                · refine z_swA 457 6 qt8 rfl ?_
                  exact lc_prolong st hj9 hL I (K hj9)
                · by_cases qt9 : (gV G (9 * j) &&& 63).toInt = 7
                  · refine z_swA 481 7 qt9 rfl ?_
                    exact lc_give st hj9 hL I (K hj9)
                  · by_cases qt10 : (gV G (9 * j) &&& 63).toInt = 8
                    · refine z_swA 514 8 qt10 rfl ?_
                      exact lc_order st hj9 hL I (K hj9)
                    · by_cases qt11 : (gV G (9 * j) &&& 63).toInt = 9
                      · refine z_swA 609 9 qt11 rfl ?_
                        exact lc_bill st hj9 hL I (K hj9)
                      · by_cases qt12 : (gV G (9 * j) &&& 63).toInt = 10
                        · refine z_swA 692 10 qt12 rfl ?_
                          exact lc_slip st hj9 hL I (K hj9)
                        · by_cases qt13 : (gV G (9 * j) &&& 63).toInt = 11
                          · refine z_swA 735 11 qt13 rfl ?_
                            exact lc_close st hj9 hL I (K hj9)
                          · by_cases qt14 : (gV G (9 * j) &&& 63).toInt = 12
                            · refine z_swA 748 12 qt14 rfl ?_
                              exact lc_suspects st hj9 hL I (K hj9)
                            · by_cases qt15 : (gV G (9 * j) &&& 63).toInt = 13
                              · refine z_swA 771 13 qt15 rfl ?_
                                exact lc_suspect st hj9 hL I (K hj9)
                              · by_cases qt16 : (gV G (9 * j) &&& 63).toInt = 14
                                · refine z_swA 804 14 qt16 rfl ?_
                                  exact lc_mend st hj9 hL I (K hj9)
                                · by_cases qt17 : (gV G (9 * j) &&& 63).toInt = 15
                                  · refine z_swA 827 15 qt17 rfl ?_
                                    exact lc_weighed st hj9 hL I (K hj9)
                                  · by_cases qt18 : (gV G (9 * j) &&& 63).toInt = 16
                                    · refine z_swA 871 16 qt18 rfl ?_
                                      exact lc_loan st hj9 hL I (K hj9)
                                    · by_cases qt19 : (gV G (9 * j) &&& 63).toInt = 17
                                      · refine z_swA 914 17 qt19 rfl ?_
                                        exact lc_tell st hj9 hL I (K hj9)
                                      · by_cases qt20 : (gV G (9 * j) &&& 63).toInt = 18
                                        · refine z_swA 947 18 qt20 rfl ?_
                                          exact lc_gap st hj9 hL I (K hj9)
                                        · by_cases qt21 : (gV G (9 * j) &&& 63).toInt = 19
                                          · refine z_swA 981 19 qt21 rfl ?_
                                            exact lc_run st hj9 hL I (K hj9)
                                          · by_cases qt22 : (gV G (9 * j) &&& 63).toInt = 20
                                            · refine z_swA 1035 20 qt22 rfl ?_
                                              exact lc_accountOf st hj9 hL I (K hj9)
                                            · by_cases qt23 : (gV G (9 * j) &&& 63).toInt = 21
                                              · refine z_swA 1068 21 qt23 rfl ?_
                                                exact lc_folio st hj9 hL I (K hj9)
                                              · by_cases qt24 : (gV G (9 * j) &&& 63).toInt = 22
                                                · refine z_swA 1101 22 qt24 rfl ?_
                                                  exact lc_balance st hj9 hL I (K hj9)
                                                · by_cases qt25 : (gV G (9 * j) &&& 63).toInt = 23
                                                  · refine z_swA 1125 23 qt25 rfl ?_
                                                    exact lc_written st hj9 hL I (K hj9)
                                                  · by_cases qt26 : (gV G (9 * j) &&& 63).toInt = 24
                                                    · refine z_swA 1149 24 qt26 rfl ?_
                                                      exact lc_line st hj9 hL I (K hj9)
                                                    · by_cases qt27 : (gV G (9 * j) &&& 63).toInt = 25
                                                      · refine z_swA 1182 25 qt27 rfl ?_
                                                        exact lc_lineSum st hj9 hL I (K hj9)
                                                      · by_cases qt28 : (gV G (9 * j) &&& 63).toInt = 26
                                                        · refine z_swA 1206 26 qt28 rfl ?_
                                                          exact lc_orderOf st hj9 hL I (K hj9)
                                                        · by_cases qt29 : (gV G (9 * j) &&& 63).toInt = 27
                                                          · refine z_swA 1239 27 qt29 rfl ?_
                                                            exact lc_receipt st hj9 hL I (K hj9)
                                                          · by_cases qt30 : (gV G (9 * j) &&& 63).toInt = 28
                                                            · refine z_swA 1272 28 qt30 rfl ?_
                                                              exact lc_book st hj9 hL I (K hj9)
                                                            · by_cases qt31 : (gV G (9 * j) &&& 63).toInt = 29
                                                              · refine z_swA 1296 29 qt31 rfl ?_
                                                                exact lc_vault st hj9 hL I (K hj9)
                                                              · by_cases qt32 : (gV G (9 * j) &&& 63).toInt = 30
                                                                · refine z_swA 1330 30 qt32 rfl ?_
                                                                  exact lc_count st hj9 hL I (K hj9)
                                                                · by_cases qt33 : (gV G (9 * j) &&& 63).toInt = 31
                                                                  · refine z_swA 1353 31 qt33 rfl ?_
                                                                    exact lc_sum st hj9 hL I (K hj9)
                                                                  · by_cases qt34 : (gV G (9 * j) &&& 63).toInt = 32
                                                                    · refine z_swA 1377 32 qt34 rfl ?_
                                                                      exact lc_row st hj9 hL I (K hj9)
                                                                    · by_cases qt35 : (gV G (9 * j) &&& 63).toInt = 33
                                                                      · refine z_swA 1420 33 qt35 rfl ?_
                                                                        exact lc_tear st hj9 hL I (K hj9)
                                                                      · by_cases qt36 : (gV G (9 * j) &&& 63).toInt = 34
                                                                        · refine z_swA 1443 34 qt36 rfl ?_
                                                                          exact lc_write st hj9 hL I (K hj9)
                                                                        · by_cases qt37 : (gV G (9 * j) &&& 63).toInt = 35
                                                                          · refine z_swA 1516 35 qt37 rfl ?_
                                                                            exact lc_paste st hj9 hL I (K hj9)
                                                                          · refine z_swD 1579 (by omega) rfl ?_
                                                                            exact K hj9 _ _ _ _ ⟨I.1, I.2.1, I.2.2.1, I.2.2.2.1, by omega, by omega⟩
theorem CR.keepD {tr : z_TR} {S : z_M} {h h' : z_H} (q : CR tr S h) (a : z_sD h h') : CR tr S h' := by
  have e : ∀ K, K < 300 → K ≠ 14 → hI h' K = hI h K ∧ hL h' K = hL h K ∧ hR h' K = hR h K ∧ hZ h' K = hZ h K ∧ hN h' K = hN h K := a
  unfold CR at q ⊢
  rw [(e 2 (by decide) (by decide)).2.2.2.2, (e 4 (by decide) (by decide)).2.2.2.2, (e 6 (by decide) (by decide)).2.2.2.2, (e 7 (by decide) (by decide)).2.2.2.2, (e 8 (by decide) (by decide)).2.2.2.2, (e 9 (by decide) (by decide)).2.2.2.2, (e 103 (by decide) (by decide)).2.2.2.2, (e 207 (by decide) (by decide)).2.2.2.2, (e 200 (by decide) (by decide)).2.2.2.1, (e 201 (by decide) (by decide)).2.2.2.1, (e 202 (by decide) (by decide)).2.2.2.1, (e 203 (by decide) (by decide)).2.2.2.1, (e 204 (by decide) (by decide)).2.2.2.1, (e 205 (by decide) (by decide)).2.2.2.1, (e 206 (by decide) (by decide)).2.2.2.1, (e 207 (by decide) (by decide)).2.2.2.1, (e 13 (by decide) (by decide)).2.2.1, (e 5 (by decide) (by decide)).2.2.1, (e 13 (by decide) (by decide)).1, (e 13 (by decide) (by decide)).2.1, (e 11 (by decide) (by decide)).1, (e 3 (by decide) (by decide)).1, (e 3 (by decide) (by decide)).2.1, (e 5 (by decide) (by decide)).1, (e 4 (by decide) (by decide)).1, (e 4 (by decide) (by decide)).2.1, (e 2 (by decide) (by decide)).1, (e 2 (by decide) (by decide)).2.1, (e 2 (by decide) (by decide)).2.2.1, (e 207 (by decide) (by decide)).1, (e 9 (by decide) (by decide)).1, (e 9 (by decide) (by decide)).2.1, (e 9 (by decide) (by decide)).2.2.1, (e 8 (by decide) (by decide)).1, (e 8 (by decide) (by decide)).2.1, (e 8 (by decide) (by decide)).2.2.1, (e 6 (by decide) (by decide)).1, (e 6 (by decide) (by decide)).2.1, (e 6 (by decide) (by decide)).2.2.1, (e 7 (by decide) (by decide)).2.1, (e 7 (by decide) (by decide)).2.2.1, (e 103 (by decide) (by decide)).1, (e 10 (by decide) (by decide)).1, (e 10 (by decide) (by decide)).2.2.1, (e 100 (by decide) (by decide)).2.1, (e 101 (by decide) (by decide)).1, (e 102 (by decide) (by decide)).1]
  exact q
theorem mv_m14 {h1 : z_H} (m : z_sM (z_nw h00 13) h1) : mv (z_nw h1 14) = S_00 ∧ hR (z_nw h1 14) 14 0 = (fun _ => none) ∨ ¬ hN h1 14 = 0 := by
  by_cases n : hN h1 14 = 0
  · refine Or.inl ⟨?_, ?_⟩
    · refine z_M_ext (fun k j => ?_) (fun k j => ?_) (fun k => ?_) (fun k => ?_)
      · rw [mA_mv, zr_hInw, if_neg (by omega), (m (300 + k) (Or.inl (by omega))).1, zr_hInw, if_neg (by omega)]
        rfl
      · rw [mB_mv, zr_hLnw]
        split
        · rfl
        · rw [if_neg (by omega), (m (300 + k) (Or.inl (by omega))).2.1, zr_hLnw, if_neg (by omega)]
          rfl
      · rw [mS_mv, zr_hInw, n]
        split
        · rfl
        · rw [if_pos ⟨rfl, rfl⟩]
          rfl
      · rw [mT_mv, zr_hLnw, n, if_pos ⟨rfl, rfl⟩]
        rfl
    · funext k
      rw [zr_hRnw, n, if_pos ⟨rfl, rfl⟩]
  · exact Or.inr n
theorem law_run {l : Launch} {G : z_G} {A : Nat → z_K} (st : LawSt l G A) (hL : gL G ≤ 4608) : A 0 [(0, z_r 400 0)] [] h00 0 0 := by
  refine st b_L_law_0 _ _ k_L_law_0 _ _ _ _ _ ?_
  simp only [b_L_law_0, zr_astore_n1, zr_astore_n2, zr_call2, zr_dup, zr_iconst, zr_istore_n3, zr_new, zr_nil, zr_cons, ↓reduceIte, Nat.reduceAdd, Nat.reduceEqDiff, Nat.reduceLeDiff, Nat.reduceMul, Nat.reduceSub, Int32.reduceOfInt, Int64.reduceOfInt, Int64.reduceOfNat, true_and, and_true, false_and, and_false, or_false, false_or, true_or, or_true, Int.reduceEq, reduceCtorEq, or_self, and_self, ne_eq, not_false_eq_true, not_true_eq_false, eq_self, Nat.le_refl, Nat.zero_le, zr_eI, zr_eL, zr_eR, zr_pI, zr_pL, zr_pR, zr_pO, zr_pV, zq_pA0, zq_pA, zr_get, zr_put_n, zr_put, zr_rem_n, zr_rem, zr_cat_i, zr_cat_l, zr_cat_q, zr_w_n, zr_w, zr_args_n, zr_args, zr_tl_s, zr_tl_n, zq_hIsI, zq_hLsL, zq_hRsR, zq_hIsL, zq_hIsR, zq_hLsI, zq_hLsR, zq_hRsI, zq_hRsL, zq_hNsI, zq_hNsL, zq_hNsR, zq_hZsI, zq_hZsL, zq_hZsR, b2_01, Classical.not_not, Int32.toInt_toInt64, Int64.reduceToInt, zc_1000, zc_100, zc_10, zc_9, zc_2, ci_f, zq_hNnw, h0_N, kF_13, kF_14]
  repeat (with_reducible refine ⟨by omega, ?_⟩)
  refine cpx (by omega) lk_L_9 rc_s (c_init l G _ (by omega)) (by omega) (by omega) (fun r1 h1 g1 => ?_)
  obtain ⟨rfl, C1, m1, n1⟩ := g1
  have n14 := n1 14 (Or.inr rfl)
  have z1 := (mv_m14 m1).resolve_right (fun q => q n14)
  simp only [zr_astore_n1, zr_astore_n2, zr_call2, zr_dup, zr_iconst, zr_istore_n3, zr_new, zr_nil, zr_cons, ↓reduceIte, Nat.reduceAdd, Nat.reduceEqDiff, Nat.reduceLeDiff, Nat.reduceMul, Nat.reduceSub, Int32.reduceOfInt, Int64.reduceOfInt, Int64.reduceOfNat, true_and, and_true, false_and, and_false, or_false, false_or, true_or, or_true, Int.reduceEq, reduceCtorEq, or_self, and_self, ne_eq, not_false_eq_true, not_true_eq_false, eq_self, Nat.le_refl, Nat.zero_le, zr_eI, zr_eL, zr_eR, zr_pI, zr_pL, zr_pR, zr_pO, zr_pV, zq_pA0, zq_pA, zr_get, zr_put_n, zr_put, zr_rem_n, zr_rem, zr_cat_i, zr_cat_l, zr_cat_q, zr_w_n, zr_w, zr_args_n, zr_args, zr_tl_s, zr_tl_n, zq_hIsI, zq_hLsL, zq_hRsR, zq_hIsL, zq_hIsR, zq_hLsI, zq_hLsR, zq_hRsI, zq_hRsL, zq_hNsI, zq_hNsL, zq_hNsR, zq_hZsI, zq_hZsL, zq_hZsR, b2_01, Classical.not_not, Int32.toInt_toInt64, Int64.reduceToInt, zc_1000, zc_100, zc_10, zc_9, zc_2, ci_f, zq_hNnw, h0_N, kF_13, kF_14, n14]
  repeat (with_reducible refine ⟨by omega, ?_⟩)
  refine cpx (by omega) lk_L_12 rc_s (m_init l G _ (by omega) (z_nw h1 14) (fun K hK hK2 => by rw [zr_hNnw, if_neg (by omega)]; exact n1 K (Or.inl ⟨hK, hK2⟩)) z1.1 z1.2) (by omega) (by omega) (fun r2 h2 g2 => ?_)
  obtain ⟨rfl, e2, d2, M2⟩ := g2
  simp only [zr_astore_n2, zr_iconst, zr_istore_n3, zr_nil, zr_cons, ↓reduceIte, Nat.reduceAdd, Nat.reduceEqDiff, Nat.reduceLeDiff, Nat.reduceMul, Nat.reduceSub, Int32.reduceOfInt, Int64.reduceOfInt, Int64.reduceOfNat, true_and, and_true, false_and, and_false, or_false, false_or, true_or, or_true, Int.reduceEq, reduceCtorEq, or_self, and_self, ne_eq, not_false_eq_true, not_true_eq_false, eq_self, Nat.le_refl, Nat.zero_le, zr_eI, zr_eL, zr_eR, zr_pI, zr_pL, zr_pR, zr_pO, zr_pV, zq_pA0, zq_pA, zr_get, zr_put_n, zr_put, zr_rem_n, zr_rem, zr_cat_i, zr_cat_l, zr_cat_q, zr_w_n, zr_w, zr_args_n, zr_args, zr_tl_s, zr_tl_n, zq_hIsI, zq_hLsL, zq_hRsR, zq_hIsL, zq_hIsR, zq_hLsI, zq_hLsR, zq_hRsI, zq_hRsL, zq_hNsI, zq_hNsL, zq_hNsR, zq_hZsI, zq_hZsL, zq_hZsR, b2_01, Classical.not_not, Int32.toInt_toInt64, Int64.reduceToInt, zc_1000, zc_100, zc_10, zc_9, zc_2, ci_f, zq_hNnw, h0_N, kF_13, kF_14, n14]
  have dd : z_sD h1 h2 := fun K q1 q2 => by
    obtain ⟨b1, b2, b3, b4, b5⟩ := d2 K q1 q2
    refine ⟨?_, ?_, ?_, ?_, ?_⟩
    · rw [b1, zr_hInwN q2]
    · rw [b2, zr_hLnwN q2]
    · rw [b3, zr_hRnwN q2]
    · rw [b4]
      funext i
      rw [zr_hZnw, if_neg (by omega)]
    · rw [b5, zr_hNnw, if_neg q2]
  exact law_loop st hL 0 (Nat.zero_le _) S_0 h2 _ _ ⟨C1.keepD dd, e2, M2, inv_S0, by show 76 + 8 * 0 ≤ _; decide, by show 27770 + 12080 * 0 ≤ _; decide⟩
