/-! the law, call by call -/
theorem wt_wr {T : z_M} {t a side order : Int32} {sum : Int64} : o_wt (mA (o_writes T t a side sum order).2 42) (nO (o_writes T t a side sum order).2) = o_wt (mA T 42) (nO T) := by
  have e : nO (o_writes T t a side sum order).2 = nO T := by show ci _ = ci _; rw [wr_S (by decide)]
  rw [wr_A (by decide), e]
theorem wt_pays {T : z_M} {a : Int32} {sum : Int64} : o_wt (mA (o_pays T a sum) 42) (nO (o_pays T a sum)) = o_wt (mA T 42) (nO T) := wt_wr.trans rfl
theorem w_terms {S : z_M} (x0 : Int32) (x1 : Int32) (x2 : Int32) (x3 : Int32) (x4 : Int32) (x5 : Int32) (x6 : Int32) (x7 : Int32) : o_wt (mA (o_terms S x0 x1 x2 x3 x4 x5 x6 x7).2 42) (nO (o_terms S x0 x1 x2 x3 x4 x5 x6 x7).2) = o_wt (mA S 42) (nO S) := by
  unfold o_terms
  (repeat' split) <;> rfl
theorem w_kind {S : z_M} (x0 : Int32) (x1 : Int32) (x2 : Int32) : o_wt (mA (o_kind S x0 x1 x2).2 42) (nO (o_kind S x0 x1 x2).2) = o_wt (mA S 42) (nO S) := by
  unfold o_kind
  (repeat' split) <;> rfl
theorem w_account {S : z_M} : o_wt (mA (o_account S).2 42) (nO (o_account S).2) = o_wt (mA S 42) (nO S) := by
  unfold o_account
  (repeat' split) <;> rfl
theorem w_attorney {S : z_M} (x0 : Int32) (x1 : Int32) (x2 : Int32) : o_wt (mA (o_attorney S x0 x1 x2).2 42) (nO (o_attorney S x0 x1 x2).2) = o_wt (mA S 42) (nO S) := by
  unfold o_attorney
  (repeat' split) <;> rfl
theorem w_take {S : z_M} (x0 : Int32) (x1 : Int32) (x2 : Int32) : o_wt (mA (o_take S x0 x1 x2).2 42) (nO (o_take S x0 x1 x2).2) = o_wt (mA S 42) (nO S) := by
  unfold o_take
  (repeat' split) <;> first | rfl | exact wt_wr.trans rfl
theorem w_redeem {S : z_M} (x0 : Int32) : o_wt (mA (o_redeem S x0).2 42) (nO (o_redeem S x0).2) = o_wt (mA S 42) (nO S) := by
  unfold o_redeem
  (repeat' split) <;> first | rfl | exact wt_pays.trans rfl
theorem w_prolong {S : z_M} (x0 : Int32) : o_wt (mA (o_prolong S x0).2 42) (nO (o_prolong S x0).2) = o_wt (mA S 42) (nO S) := by
  unfold o_prolong
  (repeat' split) <;> first | rfl | exact wt_pays.trans rfl
theorem w_give {S : z_M} (x0 : Int32) (x1 : Int32) : o_wt (mA (o_give S x0 x1).2 42) (nO (o_give S x0 x1).2) = o_wt (mA S 42) (nO S) := by
  unfold o_give
  (repeat' split) <;> rfl
theorem w_slip {S : z_M} (x0 : Int32) (x1 : Int32) (x2 : Int32) : o_wt (mA (o_slip S x0 x1 x2).2 42) (nO (o_slip S x0 x1 x2).2) = o_wt (mA S 42) (nO S) := by
  unfold o_slip
  (repeat' split) <;> rfl
theorem w_suspects {S : z_M} (x0 : Int32) : o_wt (mA (o_suspects S x0).2 42) (nO (o_suspects S x0).2) = o_wt (mA S 42) (nO S) := by
  unfold o_suspects
  split
  · rfl
  · split
    · rfl
    · have e : ∀ m, nO (o_su S x0 (o_dif S x0 (nL S)) m) = nO S := fun m => by show ci _ = ci _; rw [su_S (by decide)]
      show o_wt (mA (o_su S x0 (o_dif S x0 (nL S)) (nL S)) 42) (nO (o_su S x0 (o_dif S x0 (nL S)) (nL S))) = _
      rw [e, su_A (by decide)]
theorem w_mend {S : z_M} (x0 : Int32) : o_wt (mA (o_mend S x0).2 42) (nO (o_mend S x0).2) = o_wt (mA S 42) (nO S) := by
  unfold o_mend
  (repeat' split) <;> first | rfl | exact wt_wr
theorem w_loan {S : z_M} (x0 : Int32) (x1 : Int32) (x2 : Int32) : o_wt (mA (o_loan S x0 x1 x2).2 42) (nO (o_loan S x0 x1 x2).2) = o_wt (mA S 42) (nO S) := by
  unfold o_loan
  (repeat' split) <;> rfl
theorem w_tell {S : z_M} (x0 : Int32) (x1 : Int32) : o_wt (mA (o_tell S x0 x1).2 42) (nO (o_tell S x0 x1).2) = o_wt (mA S 42) (nO S) := by
  unfold o_tell
  (repeat' split) <;> rfl
theorem w_row {S : z_M} (x0 : Int32) (x1 : Int32) (x2 : Int32) : o_wt (mA (o_row S x0 x1 x2).2 42) (nO (o_row S x0 x1 x2).2) = o_wt (mA S 42) (nO S) := by
  unfold o_row
  (repeat' split) <;> rfl
theorem w_tear {S : z_M} (x0 : Int32) : o_wt (mA (o_tear S x0).2 42) (nO (o_tear S x0).2) = o_wt (mA S 42) (nO S) := by
  unfold o_tear
  (repeat' split) <;> rfl
theorem w_write {S : z_M} (x0 : Int32) (x1 : Int32) (x2 : Int64) : o_wt (mA (o_write S x0 x1 x2).2 42) (nO (o_write S x0 x1 x2).2) = o_wt (mA S 42) (nO S) := by
  unfold o_write
  (repeat' split) <;> rfl
theorem w_paste {S : z_M} (x0 : Int32) (x1 : Int32) (x2 : Int32) (x3 : Int32) (x4 : Int32) : o_wt (mA (o_paste S x0 x1 x2 x3 x4).2 42) (nO (o_paste S x0 x1 x2 x3 x4).2) = o_wt (mA S 42) (nO S) := by
  unfold o_paste
  (repeat' split) <;> rfl
theorem w_close {S : z_M} (inv : INV S) : o_wt (mA (o_close S).2 42) (nO (o_close S).2) ≤ o_wt (mA S 42) (nO S) := by
  by_cases h5 : (dy S).toInt = 5000
  · have es : o_close S = (-9, S) := by
      unfold o_close
      rw [if_pos h5]
    rw [es]
    exact Nat.le_refl _
  · rw [(wt_close inv h5).2]
    exact wt_cl
theorem w_waits {S : z_M} {f t on hour signer : Int32} {sum : Int64} (inv : INV S) : o_wt (mA (o_waits S f t sum on hour signer).2 42) (nO (o_waits S f t sum on hour signer).2) ≤ o_wt (mA S 42) (nO S) + 1 := by
  have hb : nO S ≤ 300 := inv.cO.2
  unfold o_waits
  split
  · exact Nat.le_succ _
  · split
    · exact Nat.le_succ _
    · exact Nat.le_of_eq (wt_ord (by omega))
theorem w_order {S : z_M} {f t hour signer : Int32} {sum : Int64} (inv : INV S) : o_wt (mA (o_order S f t sum hour signer).2 42) (nO (o_order S f t sum hour signer).2) ≤ o_wt (mA S 42) (nO S) + 1 := by
  unfold o_order
  split
  · exact Nat.le_succ _
  · exact w_waits inv
theorem w_bill {S : z_M} {f t days : Int32} {sum : Int64} (inv : INV S) : o_wt (mA (o_bill S f t sum days).2 42) (nO (o_bill S f t sum days).2) ≤ o_wt (mA S 42) (nO S) + 1 := by
  unfold o_bill
  split
  · exact Nat.le_succ _
  · exact w_waits inv
def z_LT : Option z_V → z_H → Nat → Nat → Prop := fun r _ ce sl => ce ≤ 600000 ∧ sl ≤ 7302250 ∧ r = some (z_i 1)
def LawSt (l : Launch) (G : z_G) (A : Nat → z_K) : Prop := ∀ (es : List z_E) (pc ep : Nat), z_chk 16 false cL_law 4 pc es ep = true → ∀ ls st h' ce sl, z_wp l G 15 600000 7302250 RL A z_LT ep es ls st h' ce sl → A pc ls st h' ce sl
abbrev o_W (S : z_M) : Nat := o_wt (mA S 42) (nO S)
/-- what holds between the calls -/
def LI (j : Nat) (S : z_M) (h : z_H) (ce sl : Nat) : Prop := CR (0, nI (o_W S)) S h ∧ mv h = S ∧ z_MR h ∧ INV S ∧ ce + 8 * o_W S ≤ 100 + 40 * j ∧ sl + 12080 * o_W S ≤ 60000 + 13000 * j
def LK (A : Nat → z_K) (j : Nat) : Prop := ∀ (S' : z_M) (h' : z_H) (ce' sl' : Nat), LI (j + 1) S' h' ce' sl' → A 1579 [(0, z_r 400 0), (1, z_r 13 0), (2, z_r 14 0), (3, z_i (nI (9 * j)))] [] h' ce' sl'
theorem LI.mk {j : Nat} {S S' : z_M} {h1 h2 : z_H} {ce sl : Nat} (C1 : CR (0, nI (o_W S)) S' h1) (s2 : z_sC h1 h2) (e2 : mv h2 = S') (M2 : z_MR h2) (iv : INV S') (hW : o_W S' = o_W S) (c1 : ce + 8 * o_W S ≤ 100 + 40 * (j + 1)) (c2 : sl + 12080 * o_W S ≤ 60000 + 13000 * (j + 1)) : LI (j + 1) S' h2 ce sl := by
  refine ⟨?_, e2, M2, iv, ?_, ?_⟩
  · rw [hW]
    exact C1.keep s2
  · rw [hW]
    exact c1
  · rw [hW]
    exact c2
set_option maxRecDepth 4000 in
theorem lc_terms {l : Launch} {G : z_G} {A : Nat → z_K} (st : LawSt l G A) {j : Nat} {S : z_M} {h : z_H} {ce sl : Nat} (hj : 9 * j + 9 ≤ gL G) (hL : gL G ≤ 4608) (I : LI j S h ce sl) (K : LK A j) : A 192 [(0, z_r 400 0), (1, z_r 13 0), (2, z_r 14 0), (3, z_i (nI (9 * j)))] [] h ce sl := by
  obtain ⟨C, e, M, inv, c1, c2⟩ := I
  have hWd : o_W S = o_wt (mA S 42) (nO S) := rfl
  have a1 : nI (9 * j) + 1 = nI (9 * j + 1) := nI_add (9 * j) 1
  have k1 := nI_clampS (show 9 * j + 1 < 2000000000 by omega)
  have a2 : nI (9 * j) + 2 = nI (9 * j + 2) := nI_add (9 * j) 2
  have k2 := nI_clampS (show 9 * j + 2 < 2000000000 by omega)
  have a3 : nI (9 * j) + 3 = nI (9 * j + 3) := nI_add (9 * j) 3
  have k3 := nI_clampS (show 9 * j + 3 < 2000000000 by omega)
  have a4 : nI (9 * j) + 4 = nI (9 * j + 4) := nI_add (9 * j) 4
  have k4 := nI_clampS (show 9 * j + 4 < 2000000000 by omega)
  have a5 : nI (9 * j) + 5 = nI (9 * j + 5) := nI_add (9 * j) 5
  have k5 := nI_clampS (show 9 * j + 5 < 2000000000 by omega)
  have a6 : nI (9 * j) + 6 = nI (9 * j + 6) := nI_add (9 * j) 6
  have k6 := nI_clampS (show 9 * j + 6 < 2000000000 by omega)
  have a7 : nI (9 * j) + 7 = nI (9 * j + 7) := nI_add (9 * j) 7
  have k7 := nI_clampS (show 9 * j + 7 < 2000000000 by omega)
  have a8 : nI (9 * j) + 8 = nI (9 * j + 8) := nI_add (9 * j) 8
  have k8 := nI_clampS (show 9 * j + 8 < 2000000000 by omega)
  refine st b_L_law_192 _ _ k_L_law_192 _ _ _ _ _ ?_
  simp only [b_L_law_192, zr_T, zr_aload_n0, zr_aload_n1, zr_aload_n2, zr_bipush, zr_cP_eq, zr_call0, zr_iadd, zr_iald1, zr_icmp, zr_iconst, zr_iload_n3, zr_iret, zr_rt_a, zr_rt_i, zr_rt_l, zr_rt_n, zr_rt_z, zr_nil, zr_cons, ↓reduceIte, Nat.reduceAdd, Nat.reduceEqDiff, Nat.reduceLeDiff, Nat.reduceMul, Nat.reduceSub, Int32.reduceOfInt, Int64.reduceOfInt, Int64.reduceOfNat, true_and, and_true, false_and, and_false, or_false, false_or, true_or, or_true, Int.reduceEq, reduceCtorEq, or_self, and_self, ne_eq, not_false_eq_true, not_true_eq_false, eq_self, Nat.le_refl, Nat.zero_le, zr_eI, zr_eL, zr_eR, zr_pI, zr_pL, zr_pR, zr_pO, zr_pV, zq_pA0, zq_pA, zr_get, zr_put_n, zr_put, zr_rem_n, zr_rem, zr_cat_i, zr_cat_l, zr_cat_q, zr_w_n, zr_w, zr_args_n, zr_args, zr_tl_s, zr_tl_n, zq_hIsI, zq_hLsL, zq_hRsR, zq_hIsL, zq_hIsR, zq_hLsI, zq_hLsR, zq_hRsI, zq_hRsL, zq_hNsI, zq_hNsL, zq_hNsR, zq_hZsI, zq_hZsL, zq_hZsR, b2_01, Classical.not_not, Int32.toInt_toInt64, Int64.reduceToInt, zc_1000, zc_100, zc_10, zc_9, zc_2, ci_f, a1, k1, a2, k2, a3, k3, a4, k4, a5, k5, a6, k6, a7, k7, a8, k8]
  refine ⟨by exact vp_in_nI (by omega) (by omega), ?_⟩
  refine ⟨by exact vp_in_nI (by omega) (by omega), ?_⟩
  refine ⟨by exact vp_in_nI (by omega) (by omega), ?_⟩
  refine ⟨by exact vp_in_nI (by omega) (by omega), ?_⟩
  refine ⟨by exact vp_in_nI (by omega) (by omega), ?_⟩
  refine ⟨by exact vp_in_nI (by omega) (by omega), ?_⟩
  refine ⟨by exact vp_in_nI (by omega) (by omega), ?_⟩
  refine ⟨by exact vp_in_nI (by omega) (by omega), ?_⟩
  refine cpx (by omega) lk_L_13 (rc_13 rfl) (c_terms l G _ (by omega) (0, nI (o_W S)) S h C inv _ _ _ _ _ _ _ _) (by omega) (by omega) (fun r1 h1 g1 => ?_)
  obtain ⟨rfl, C1, m1⟩ := g1
  have e1 : mv h1 = S := m1.mv.trans e
  have M1 := m1.mr M
  simp only [zr_T, zr_aload_n0, zr_aload_n2, zr_bipush, zr_cP_eq, zr_call0, zr_iadd, zr_iald1, zr_icmp, zr_iconst, zr_iload_n3, zr_iret, zr_rt_a, zr_rt_i, zr_rt_l, zr_rt_n, zr_rt_z, zr_nil, zr_cons, ↓reduceIte, Nat.reduceAdd, Nat.reduceEqDiff, Nat.reduceLeDiff, Nat.reduceMul, Nat.reduceSub, Int32.reduceOfInt, Int64.reduceOfInt, Int64.reduceOfNat, true_and, and_true, false_and, and_false, or_false, false_or, true_or, or_true, Int.reduceEq, reduceCtorEq, or_self, and_self, ne_eq, not_false_eq_true, not_true_eq_false, eq_self, Nat.le_refl, Nat.zero_le, zr_eI, zr_eL, zr_eR, zr_pI, zr_pL, zr_pR, zr_pO, zr_pV, zq_pA0, zq_pA, zr_get, zr_put_n, zr_put, zr_rem_n, zr_rem, zr_cat_i, zr_cat_l, zr_cat_q, zr_w_n, zr_w, zr_args_n, zr_args, zr_tl_s, zr_tl_n, zq_hIsI, zq_hLsL, zq_hRsR, zq_hIsL, zq_hIsR, zq_hLsI, zq_hLsR, zq_hRsI, zq_hRsL, zq_hNsI, zq_hNsL, zq_hNsR, zq_hZsI, zq_hZsL, zq_hZsR, b2_01, Classical.not_not, Int32.toInt_toInt64, Int64.reduceToInt, zc_1000, zc_100, zc_10, zc_9, zc_2, ci_f, a1, k1, a2, k2, a3, k3, a4, k4, a5, k5, a6, k6, a7, k7, a8, k8]
  refine ⟨by exact vp_in_nI (by omega) (by omega), ?_⟩
  refine ⟨by exact vp_in_nI (by omega) (by omega), ?_⟩
  refine ⟨by exact vp_in_nI (by omega) (by omega), ?_⟩
  refine ⟨by exact vp_in_nI (by omega) (by omega), ?_⟩
  refine ⟨by exact vp_in_nI (by omega) (by omega), ?_⟩
  refine ⟨by exact vp_in_nI (by omega) (by omega), ?_⟩
  refine ⟨by exact vp_in_nI (by omega) (by omega), ?_⟩
  refine ⟨by exact vp_in_nI (by omega) (by omega), ?_⟩
  refine cpx (by omega) lk_L_17 (rc_14 rfl) (m_terms l G _ (by omega) S h1 e1 M1 inv _ _ _ _ _ _ _ _) (by omega) (by omega) (fun r2 h2 g2 => ?_)
  obtain ⟨rfl, e2, s2, M2⟩ := g2
  simp only [zr_T, zr_cP_eq, zr_icmp, zr_iconst, zr_iret, zr_rt_a, zr_rt_i, zr_rt_l, zr_rt_n, zr_rt_z, zr_nil, zr_cons, ↓reduceIte, Nat.reduceAdd, Nat.reduceEqDiff, Nat.reduceLeDiff, Nat.reduceMul, Nat.reduceSub, Int32.reduceOfInt, Int64.reduceOfInt, Int64.reduceOfNat, true_and, and_true, false_and, and_false, or_false, false_or, true_or, or_true, Int.reduceEq, reduceCtorEq, or_self, and_self, ne_eq, not_false_eq_true, not_true_eq_false, eq_self, Nat.le_refl, Nat.zero_le, zr_eI, zr_eL, zr_eR, zr_pI, zr_pL, zr_pR, zr_pO, zr_pV, zq_pA0, zq_pA, zr_get, zr_put_n, zr_put, zr_rem_n, zr_rem, zr_cat_i, zr_cat_l, zr_cat_q, zr_w_n, zr_w, zr_args_n, zr_args, zr_tl_s, zr_tl_n, zq_hIsI, zq_hLsL, zq_hRsR, zq_hIsL, zq_hIsR, zq_hLsI, zq_hLsR, zq_hRsI, zq_hRsL, zq_hNsI, zq_hNsL, zq_hNsR, zq_hZsI, zq_hZsL, zq_hZsR, b2_01, Classical.not_not, Int32.toInt_toInt64, Int64.reduceToInt, zc_1000, zc_100, zc_10, zc_9, zc_2, ci_f, a1, k1, a2, k2, a3, k3, a4, k4, a5, k5, a6, k6, a7, k7, a8, k8]
  refine ⟨fun qc1 => ?_, fun qc1 => ?_⟩
  · try simp only [b2_0, Classical.not_not] at qc1
    try simp only [Int64.le_iff_toInt_le, Int64.lt_iff_toInt_lt, Int32.lt_iff_toInt_lt, Int32.le_iff_toInt_le, Int32.toInt_toInt64, Int64.reduceToInt, Int32.reduceToInt, Int.reduceNeg, Classical.not_not, i32e, l_add] at qc1
    all_goals
      exact K _ _ _ _ (LI.mk C1 s2 e2 M2 (inv_terms inv _ _ _ _ _ _ _ _) (w_terms _ _ _ _ _ _ _ _) (by omega) (by omega))
  · try simp only [b2_0, Classical.not_not] at qc1
    try simp only [Int64.le_iff_toInt_le, Int64.lt_iff_toInt_lt, Int32.lt_iff_toInt_lt, Int32.le_iff_toInt_le, Int32.toInt_toInt64, Int64.reduceToInt, Int32.reduceToInt, Int.reduceNeg, Classical.not_not, i32e, l_add] at qc1
    all_goals
      contradiction
set_option maxRecDepth 4000 in
theorem lc_kind {l : Launch} {G : z_G} {A : Nat → z_K} (st : LawSt l G A) {j : Nat} {S : z_M} {h : z_H} {ce sl : Nat} (hj : 9 * j + 9 ≤ gL G) (hL : gL G ≤ 4608) (I : LI j S h ce sl) (K : LK A j) : A 291 [(0, z_r 400 0), (1, z_r 13 0), (2, z_r 14 0), (3, z_i (nI (9 * j)))] [] h ce sl := by
  obtain ⟨C, e, M, inv, c1, c2⟩ := I
  have hWd : o_W S = o_wt (mA S 42) (nO S) := rfl
  have a1 : nI (9 * j) + 1 = nI (9 * j + 1) := nI_add (9 * j) 1
  have k1 := nI_clampS (show 9 * j + 1 < 2000000000 by omega)
  have a2 : nI (9 * j) + 2 = nI (9 * j + 2) := nI_add (9 * j) 2
  have k2 := nI_clampS (show 9 * j + 2 < 2000000000 by omega)
  have a3 : nI (9 * j) + 3 = nI (9 * j + 3) := nI_add (9 * j) 3
  have k3 := nI_clampS (show 9 * j + 3 < 2000000000 by omega)
  have a4 : nI (9 * j) + 4 = nI (9 * j + 4) := nI_add (9 * j) 4
  have k4 := nI_clampS (show 9 * j + 4 < 2000000000 by omega)
  have a5 : nI (9 * j) + 5 = nI (9 * j + 5) := nI_add (9 * j) 5
  have k5 := nI_clampS (show 9 * j + 5 < 2000000000 by omega)
  have a6 : nI (9 * j) + 6 = nI (9 * j + 6) := nI_add (9 * j) 6
  have k6 := nI_clampS (show 9 * j + 6 < 2000000000 by omega)
  have a7 : nI (9 * j) + 7 = nI (9 * j + 7) := nI_add (9 * j) 7
  have k7 := nI_clampS (show 9 * j + 7 < 2000000000 by omega)
  have a8 : nI (9 * j) + 8 = nI (9 * j + 8) := nI_add (9 * j) 8
  have k8 := nI_clampS (show 9 * j + 8 < 2000000000 by omega)
  refine st b_L_law_291 _ _ k_L_law_291 _ _ _ _ _ ?_
  simp only [b_L_law_291, zr_T, zr_aload_n0, zr_aload_n1, zr_aload_n2, zr_cP_eq, zr_call0, zr_iadd, zr_iald1, zr_icmp, zr_iconst, zr_iload_n3, zr_iret, zr_rt_a, zr_rt_i, zr_rt_l, zr_rt_n, zr_rt_z, zr_nil, zr_cons, ↓reduceIte, Nat.reduceAdd, Nat.reduceEqDiff, Nat.reduceLeDiff, Nat.reduceMul, Nat.reduceSub, Int32.reduceOfInt, Int64.reduceOfInt, Int64.reduceOfNat, true_and, and_true, false_and, and_false, or_false, false_or, true_or, or_true, Int.reduceEq, reduceCtorEq, or_self, and_self, ne_eq, not_false_eq_true, not_true_eq_false, eq_self, Nat.le_refl, Nat.zero_le, zr_eI, zr_eL, zr_eR, zr_pI, zr_pL, zr_pR, zr_pO, zr_pV, zq_pA0, zq_pA, zr_get, zr_put_n, zr_put, zr_rem_n, zr_rem, zr_cat_i, zr_cat_l, zr_cat_q, zr_w_n, zr_w, zr_args_n, zr_args, zr_tl_s, zr_tl_n, zq_hIsI, zq_hLsL, zq_hRsR, zq_hIsL, zq_hIsR, zq_hLsI, zq_hLsR, zq_hRsI, zq_hRsL, zq_hNsI, zq_hNsL, zq_hNsR, zq_hZsI, zq_hZsL, zq_hZsR, b2_01, Classical.not_not, Int32.toInt_toInt64, Int64.reduceToInt, zc_1000, zc_100, zc_10, zc_9, zc_2, ci_f, a1, k1, a2, k2, a3, k3, a4, k4, a5, k5, a6, k6, a7, k7, a8, k8]
  refine ⟨by exact vp_in_nI (by omega) (by omega), ?_⟩
  refine ⟨by exact vp_in_nI (by omega) (by omega), ?_⟩
  refine ⟨by exact vp_in_nI (by omega) (by omega), ?_⟩
  refine cpx (by omega) lk_L_18 (rc_13 rfl) (c_kind l G _ (by omega) (0, nI (o_W S)) S h C inv _ _ _) (by omega) (by omega) (fun r1 h1 g1 => ?_)
  obtain ⟨rfl, C1, m1⟩ := g1
  have e1 : mv h1 = S := m1.mv.trans e
  have M1 := m1.mr M
  simp only [zr_T, zr_aload_n0, zr_aload_n2, zr_cP_eq, zr_call0, zr_iadd, zr_iald1, zr_icmp, zr_iconst, zr_iload_n3, zr_iret, zr_rt_a, zr_rt_i, zr_rt_l, zr_rt_n, zr_rt_z, zr_nil, zr_cons, ↓reduceIte, Nat.reduceAdd, Nat.reduceEqDiff, Nat.reduceLeDiff, Nat.reduceMul, Nat.reduceSub, Int32.reduceOfInt, Int64.reduceOfInt, Int64.reduceOfNat, true_and, and_true, false_and, and_false, or_false, false_or, true_or, or_true, Int.reduceEq, reduceCtorEq, or_self, and_self, ne_eq, not_false_eq_true, not_true_eq_false, eq_self, Nat.le_refl, Nat.zero_le, zr_eI, zr_eL, zr_eR, zr_pI, zr_pL, zr_pR, zr_pO, zr_pV, zq_pA0, zq_pA, zr_get, zr_put_n, zr_put, zr_rem_n, zr_rem, zr_cat_i, zr_cat_l, zr_cat_q, zr_w_n, zr_w, zr_args_n, zr_args, zr_tl_s, zr_tl_n, zq_hIsI, zq_hLsL, zq_hRsR, zq_hIsL, zq_hIsR, zq_hLsI, zq_hLsR, zq_hRsI, zq_hRsL, zq_hNsI, zq_hNsL, zq_hNsR, zq_hZsI, zq_hZsL, zq_hZsR, b2_01, Classical.not_not, Int32.toInt_toInt64, Int64.reduceToInt, zc_1000, zc_100, zc_10, zc_9, zc_2, ci_f, a1, k1, a2, k2, a3, k3, a4, k4, a5, k5, a6, k6, a7, k7, a8, k8]
  refine ⟨by exact vp_in_nI (by omega) (by omega), ?_⟩
  refine ⟨by exact vp_in_nI (by omega) (by omega), ?_⟩
  refine ⟨by exact vp_in_nI (by omega) (by omega), ?_⟩
  refine cpx (by omega) lk_L_22 (rc_14 rfl) (m_kind l G _ (by omega) S h1 e1 M1 inv _ _ _) (by omega) (by omega) (fun r2 h2 g2 => ?_)
  obtain ⟨rfl, e2, s2, M2⟩ := g2
  simp only [zr_T, zr_cP_eq, zr_icmp, zr_iconst, zr_iret, zr_rt_a, zr_rt_i, zr_rt_l, zr_rt_n, zr_rt_z, zr_nil, zr_cons, ↓reduceIte, Nat.reduceAdd, Nat.reduceEqDiff, Nat.reduceLeDiff, Nat.reduceMul, Nat.reduceSub, Int32.reduceOfInt, Int64.reduceOfInt, Int64.reduceOfNat, true_and, and_true, false_and, and_false, or_false, false_or, true_or, or_true, Int.reduceEq, reduceCtorEq, or_self, and_self, ne_eq, not_false_eq_true, not_true_eq_false, eq_self, Nat.le_refl, Nat.zero_le, zr_eI, zr_eL, zr_eR, zr_pI, zr_pL, zr_pR, zr_pO, zr_pV, zq_pA0, zq_pA, zr_get, zr_put_n, zr_put, zr_rem_n, zr_rem, zr_cat_i, zr_cat_l, zr_cat_q, zr_w_n, zr_w, zr_args_n, zr_args, zr_tl_s, zr_tl_n, zq_hIsI, zq_hLsL, zq_hRsR, zq_hIsL, zq_hIsR, zq_hLsI, zq_hLsR, zq_hRsI, zq_hRsL, zq_hNsI, zq_hNsL, zq_hNsR, zq_hZsI, zq_hZsL, zq_hZsR, b2_01, Classical.not_not, Int32.toInt_toInt64, Int64.reduceToInt, zc_1000, zc_100, zc_10, zc_9, zc_2, ci_f, a1, k1, a2, k2, a3, k3, a4, k4, a5, k5, a6, k6, a7, k7, a8, k8]
  refine ⟨fun qc1 => ?_, fun qc1 => ?_⟩
  · try simp only [b2_0, Classical.not_not] at qc1
    try simp only [Int64.le_iff_toInt_le, Int64.lt_iff_toInt_lt, Int32.lt_iff_toInt_lt, Int32.le_iff_toInt_le, Int32.toInt_toInt64, Int64.reduceToInt, Int32.reduceToInt, Int.reduceNeg, Classical.not_not, i32e, l_add] at qc1
    all_goals
      exact K _ _ _ _ (LI.mk C1 s2 e2 M2 (inv_kind inv _ _ _) (w_kind _ _ _) (by omega) (by omega))
  · try simp only [b2_0, Classical.not_not] at qc1
    try simp only [Int64.le_iff_toInt_le, Int64.lt_iff_toInt_lt, Int32.lt_iff_toInt_lt, Int32.le_iff_toInt_le, Int32.toInt_toInt64, Int64.reduceToInt, Int32.reduceToInt, Int.reduceNeg, Classical.not_not, i32e, l_add] at qc1
    all_goals
      contradiction
set_option maxRecDepth 4000 in
theorem lc_account {l : Launch} {G : z_G} {A : Nat → z_K} (st : LawSt l G A) {j : Nat} {S : z_M} {h : z_H} {ce sl : Nat} (hj : 9 * j + 9 ≤ gL G) (hL : gL G ≤ 4608) (I : LI j S h ce sl) (K : LK A j) : A 334 [(0, z_r 400 0), (1, z_r 13 0), (2, z_r 14 0), (3, z_i (nI (9 * j)))] [] h ce sl := by
  obtain ⟨C, e, M, inv, c1, c2⟩ := I
  have hWd : o_W S = o_wt (mA S 42) (nO S) := rfl
  have a1 : nI (9 * j) + 1 = nI (9 * j + 1) := nI_add (9 * j) 1
  have k1 := nI_clampS (show 9 * j + 1 < 2000000000 by omega)
  have a2 : nI (9 * j) + 2 = nI (9 * j + 2) := nI_add (9 * j) 2
  have k2 := nI_clampS (show 9 * j + 2 < 2000000000 by omega)
  have a3 : nI (9 * j) + 3 = nI (9 * j + 3) := nI_add (9 * j) 3
  have k3 := nI_clampS (show 9 * j + 3 < 2000000000 by omega)
  have a4 : nI (9 * j) + 4 = nI (9 * j + 4) := nI_add (9 * j) 4
  have k4 := nI_clampS (show 9 * j + 4 < 2000000000 by omega)
  have a5 : nI (9 * j) + 5 = nI (9 * j + 5) := nI_add (9 * j) 5
  have k5 := nI_clampS (show 9 * j + 5 < 2000000000 by omega)
  have a6 : nI (9 * j) + 6 = nI (9 * j + 6) := nI_add (9 * j) 6
  have k6 := nI_clampS (show 9 * j + 6 < 2000000000 by omega)
  have a7 : nI (9 * j) + 7 = nI (9 * j + 7) := nI_add (9 * j) 7
  have k7 := nI_clampS (show 9 * j + 7 < 2000000000 by omega)
  have a8 : nI (9 * j) + 8 = nI (9 * j + 8) := nI_add (9 * j) 8
  have k8 := nI_clampS (show 9 * j + 8 < 2000000000 by omega)
  refine st b_L_law_334 _ _ k_L_law_334 _ _ _ _ _ ?_
  simp only [b_L_law_334, zr_T, zr_aload_n1, zr_aload_n2, zr_cP_eq, zr_call0, zr_icmp, zr_iconst, zr_iret, zr_rt_a, zr_rt_i, zr_rt_l, zr_rt_n, zr_rt_z, zr_nil, zr_cons, ↓reduceIte, Nat.reduceAdd, Nat.reduceEqDiff, Nat.reduceLeDiff, Nat.reduceMul, Nat.reduceSub, Int32.reduceOfInt, Int64.reduceOfInt, Int64.reduceOfNat, true_and, and_true, false_and, and_false, or_false, false_or, true_or, or_true, Int.reduceEq, reduceCtorEq, or_self, and_self, ne_eq, not_false_eq_true, not_true_eq_false, eq_self, Nat.le_refl, Nat.zero_le, zr_eI, zr_eL, zr_eR, zr_pI, zr_pL, zr_pR, zr_pO, zr_pV, zq_pA0, zq_pA, zr_get, zr_put_n, zr_put, zr_rem_n, zr_rem, zr_cat_i, zr_cat_l, zr_cat_q, zr_w_n, zr_w, zr_args_n, zr_args, zr_tl_s, zr_tl_n, zq_hIsI, zq_hLsL, zq_hRsR, zq_hIsL, zq_hIsR, zq_hLsI, zq_hLsR, zq_hRsI, zq_hRsL, zq_hNsI, zq_hNsL, zq_hNsR, zq_hZsI, zq_hZsL, zq_hZsR, b2_01, Classical.not_not, Int32.toInt_toInt64, Int64.reduceToInt, zc_1000, zc_100, zc_10, zc_9, zc_2, ci_f, a1, k1, a2, k2, a3, k3, a4, k4, a5, k5, a6, k6, a7, k7, a8, k8]
  refine cpx (by omega) lk_L_23 (rc_13 rfl) (c_account l G _ (by omega) (0, nI (o_W S)) S h C inv ) (by omega) (by omega) (fun r1 h1 g1 => ?_)
  obtain ⟨rfl, C1, m1⟩ := g1
  have e1 : mv h1 = S := m1.mv.trans e
  have M1 := m1.mr M
  simp only [zr_T, zr_aload_n2, zr_cP_eq, zr_call0, zr_icmp, zr_iconst, zr_iret, zr_rt_a, zr_rt_i, zr_rt_l, zr_rt_n, zr_rt_z, zr_nil, zr_cons, ↓reduceIte, Nat.reduceAdd, Nat.reduceEqDiff, Nat.reduceLeDiff, Nat.reduceMul, Nat.reduceSub, Int32.reduceOfInt, Int64.reduceOfInt, Int64.reduceOfNat, true_and, and_true, false_and, and_false, or_false, false_or, true_or, or_true, Int.reduceEq, reduceCtorEq, or_self, and_self, ne_eq, not_false_eq_true, not_true_eq_false, eq_self, Nat.le_refl, Nat.zero_le, zr_eI, zr_eL, zr_eR, zr_pI, zr_pL, zr_pR, zr_pO, zr_pV, zq_pA0, zq_pA, zr_get, zr_put_n, zr_put, zr_rem_n, zr_rem, zr_cat_i, zr_cat_l, zr_cat_q, zr_w_n, zr_w, zr_args_n, zr_args, zr_tl_s, zr_tl_n, zq_hIsI, zq_hLsL, zq_hRsR, zq_hIsL, zq_hIsR, zq_hLsI, zq_hLsR, zq_hRsI, zq_hRsL, zq_hNsI, zq_hNsL, zq_hNsR, zq_hZsI, zq_hZsL, zq_hZsR, b2_01, Classical.not_not, Int32.toInt_toInt64, Int64.reduceToInt, zc_1000, zc_100, zc_10, zc_9, zc_2, ci_f, a1, k1, a2, k2, a3, k3, a4, k4, a5, k5, a6, k6, a7, k7, a8, k8]
  refine cpx (by omega) lk_L_27 (rc_14 rfl) (m_account l G _ (by omega) S h1 e1 M1 inv ) (by omega) (by omega) (fun r2 h2 g2 => ?_)
  obtain ⟨rfl, e2, s2, M2⟩ := g2
  simp only [zr_T, zr_cP_eq, zr_icmp, zr_iconst, zr_iret, zr_rt_a, zr_rt_i, zr_rt_l, zr_rt_n, zr_rt_z, zr_nil, zr_cons, ↓reduceIte, Nat.reduceAdd, Nat.reduceEqDiff, Nat.reduceLeDiff, Nat.reduceMul, Nat.reduceSub, Int32.reduceOfInt, Int64.reduceOfInt, Int64.reduceOfNat, true_and, and_true, false_and, and_false, or_false, false_or, true_or, or_true, Int.reduceEq, reduceCtorEq, or_self, and_self, ne_eq, not_false_eq_true, not_true_eq_false, eq_self, Nat.le_refl, Nat.zero_le, zr_eI, zr_eL, zr_eR, zr_pI, zr_pL, zr_pR, zr_pO, zr_pV, zq_pA0, zq_pA, zr_get, zr_put_n, zr_put, zr_rem_n, zr_rem, zr_cat_i, zr_cat_l, zr_cat_q, zr_w_n, zr_w, zr_args_n, zr_args, zr_tl_s, zr_tl_n, zq_hIsI, zq_hLsL, zq_hRsR, zq_hIsL, zq_hIsR, zq_hLsI, zq_hLsR, zq_hRsI, zq_hRsL, zq_hNsI, zq_hNsL, zq_hNsR, zq_hZsI, zq_hZsL, zq_hZsR, b2_01, Classical.not_not, Int32.toInt_toInt64, Int64.reduceToInt, zc_1000, zc_100, zc_10, zc_9, zc_2, ci_f, a1, k1, a2, k2, a3, k3, a4, k4, a5, k5, a6, k6, a7, k7, a8, k8]
  refine ⟨fun qc1 => ?_, fun qc1 => ?_⟩
  · try simp only [b2_0, Classical.not_not] at qc1
    try simp only [Int64.le_iff_toInt_le, Int64.lt_iff_toInt_lt, Int32.lt_iff_toInt_lt, Int32.le_iff_toInt_le, Int32.toInt_toInt64, Int64.reduceToInt, Int32.reduceToInt, Int.reduceNeg, Classical.not_not, i32e, l_add] at qc1
    all_goals
      exact K _ _ _ _ (LI.mk C1 s2 e2 M2 (inv_account inv ) (w_account ) (by omega) (by omega))
  · try simp only [b2_0, Classical.not_not] at qc1
    try simp only [Int64.le_iff_toInt_le, Int64.lt_iff_toInt_lt, Int32.lt_iff_toInt_lt, Int32.le_iff_toInt_le, Int32.toInt_toInt64, Int64.reduceToInt, Int32.reduceToInt, Int.reduceNeg, Classical.not_not, i32e, l_add] at qc1
    all_goals
      contradiction
set_option maxRecDepth 4000 in
theorem lc_attorney {l : Launch} {G : z_G} {A : Nat → z_K} (st : LawSt l G A) {j : Nat} {S : z_M} {h : z_H} {ce sl : Nat} (hj : 9 * j + 9 ≤ gL G) (hL : gL G ≤ 4608) (I : LI j S h ce sl) (K : LK A j) : A 347 [(0, z_r 400 0), (1, z_r 13 0), (2, z_r 14 0), (3, z_i (nI (9 * j)))] [] h ce sl := by
  obtain ⟨C, e, M, inv, c1, c2⟩ := I
  have hWd : o_W S = o_wt (mA S 42) (nO S) := rfl
  have a1 : nI (9 * j) + 1 = nI (9 * j + 1) := nI_add (9 * j) 1
  have k1 := nI_clampS (show 9 * j + 1 < 2000000000 by omega)
  have a2 : nI (9 * j) + 2 = nI (9 * j + 2) := nI_add (9 * j) 2
  have k2 := nI_clampS (show 9 * j + 2 < 2000000000 by omega)
  have a3 : nI (9 * j) + 3 = nI (9 * j + 3) := nI_add (9 * j) 3
  have k3 := nI_clampS (show 9 * j + 3 < 2000000000 by omega)
  have a4 : nI (9 * j) + 4 = nI (9 * j + 4) := nI_add (9 * j) 4
  have k4 := nI_clampS (show 9 * j + 4 < 2000000000 by omega)
  have a5 : nI (9 * j) + 5 = nI (9 * j + 5) := nI_add (9 * j) 5
  have k5 := nI_clampS (show 9 * j + 5 < 2000000000 by omega)
  have a6 : nI (9 * j) + 6 = nI (9 * j + 6) := nI_add (9 * j) 6
  have k6 := nI_clampS (show 9 * j + 6 < 2000000000 by omega)
  have a7 : nI (9 * j) + 7 = nI (9 * j + 7) := nI_add (9 * j) 7
  have k7 := nI_clampS (show 9 * j + 7 < 2000000000 by omega)
  have a8 : nI (9 * j) + 8 = nI (9 * j + 8) := nI_add (9 * j) 8
  have k8 := nI_clampS (show 9 * j + 8 < 2000000000 by omega)
  refine st b_L_law_347 _ _ k_L_law_347 _ _ _ _ _ ?_
  simp only [b_L_law_347, zr_T, zr_aload_n0, zr_aload_n1, zr_aload_n2, zr_cP_eq, zr_call0, zr_iadd, zr_iald1, zr_icmp, zr_iconst, zr_iload_n3, zr_iret, zr_rt_a, zr_rt_i, zr_rt_l, zr_rt_n, zr_rt_z, zr_nil, zr_cons, ↓reduceIte, Nat.reduceAdd, Nat.reduceEqDiff, Nat.reduceLeDiff, Nat.reduceMul, Nat.reduceSub, Int32.reduceOfInt, Int64.reduceOfInt, Int64.reduceOfNat, true_and, and_true, false_and, and_false, or_false, false_or, true_or, or_true, Int.reduceEq, reduceCtorEq, or_self, and_self, ne_eq, not_false_eq_true, not_true_eq_false, eq_self, Nat.le_refl, Nat.zero_le, zr_eI, zr_eL, zr_eR, zr_pI, zr_pL, zr_pR, zr_pO, zr_pV, zq_pA0, zq_pA, zr_get, zr_put_n, zr_put, zr_rem_n, zr_rem, zr_cat_i, zr_cat_l, zr_cat_q, zr_w_n, zr_w, zr_args_n, zr_args, zr_tl_s, zr_tl_n, zq_hIsI, zq_hLsL, zq_hRsR, zq_hIsL, zq_hIsR, zq_hLsI, zq_hLsR, zq_hRsI, zq_hRsL, zq_hNsI, zq_hNsL, zq_hNsR, zq_hZsI, zq_hZsL, zq_hZsR, b2_01, Classical.not_not, Int32.toInt_toInt64, Int64.reduceToInt, zc_1000, zc_100, zc_10, zc_9, zc_2, ci_f, a1, k1, a2, k2, a3, k3, a4, k4, a5, k5, a6, k6, a7, k7, a8, k8]
  refine ⟨by exact vp_in_nI (by omega) (by omega), ?_⟩
  refine ⟨by exact vp_in_nI (by omega) (by omega), ?_⟩
  refine ⟨by exact vp_in_nI (by omega) (by omega), ?_⟩
  refine cpx (by omega) lk_L_28 (rc_13 rfl) (c_attorney l G _ (by omega) (0, nI (o_W S)) S h C inv _ _ _) (by omega) (by omega) (fun r1 h1 g1 => ?_)
  obtain ⟨rfl, C1, m1⟩ := g1
  have e1 : mv h1 = S := m1.mv.trans e
  have M1 := m1.mr M
  simp only [zr_T, zr_aload_n0, zr_aload_n2, zr_cP_eq, zr_call0, zr_iadd, zr_iald1, zr_icmp, zr_iconst, zr_iload_n3, zr_iret, zr_rt_a, zr_rt_i, zr_rt_l, zr_rt_n, zr_rt_z, zr_nil, zr_cons, ↓reduceIte, Nat.reduceAdd, Nat.reduceEqDiff, Nat.reduceLeDiff, Nat.reduceMul, Nat.reduceSub, Int32.reduceOfInt, Int64.reduceOfInt, Int64.reduceOfNat, true_and, and_true, false_and, and_false, or_false, false_or, true_or, or_true, Int.reduceEq, reduceCtorEq, or_self, and_self, ne_eq, not_false_eq_true, not_true_eq_false, eq_self, Nat.le_refl, Nat.zero_le, zr_eI, zr_eL, zr_eR, zr_pI, zr_pL, zr_pR, zr_pO, zr_pV, zq_pA0, zq_pA, zr_get, zr_put_n, zr_put, zr_rem_n, zr_rem, zr_cat_i, zr_cat_l, zr_cat_q, zr_w_n, zr_w, zr_args_n, zr_args, zr_tl_s, zr_tl_n, zq_hIsI, zq_hLsL, zq_hRsR, zq_hIsL, zq_hIsR, zq_hLsI, zq_hLsR, zq_hRsI, zq_hRsL, zq_hNsI, zq_hNsL, zq_hNsR, zq_hZsI, zq_hZsL, zq_hZsR, b2_01, Classical.not_not, Int32.toInt_toInt64, Int64.reduceToInt, zc_1000, zc_100, zc_10, zc_9, zc_2, ci_f, a1, k1, a2, k2, a3, k3, a4, k4, a5, k5, a6, k6, a7, k7, a8, k8]
  refine ⟨by exact vp_in_nI (by omega) (by omega), ?_⟩
  refine ⟨by exact vp_in_nI (by omega) (by omega), ?_⟩
  refine ⟨by exact vp_in_nI (by omega) (by omega), ?_⟩
  refine cpx (by omega) lk_L_31 (rc_14 rfl) (m_attorney l G _ (by omega) S h1 e1 M1 inv _ _ _) (by omega) (by omega) (fun r2 h2 g2 => ?_)
  obtain ⟨rfl, e2, s2, M2⟩ := g2
  simp only [zr_T, zr_cP_eq, zr_icmp, zr_iconst, zr_iret, zr_rt_a, zr_rt_i, zr_rt_l, zr_rt_n, zr_rt_z, zr_nil, zr_cons, ↓reduceIte, Nat.reduceAdd, Nat.reduceEqDiff, Nat.reduceLeDiff, Nat.reduceMul, Nat.reduceSub, Int32.reduceOfInt, Int64.reduceOfInt, Int64.reduceOfNat, true_and, and_true, false_and, and_false, or_false, false_or, true_or, or_true, Int.reduceEq, reduceCtorEq, or_self, and_self, ne_eq, not_false_eq_true, not_true_eq_false, eq_self, Nat.le_refl, Nat.zero_le, zr_eI, zr_eL, zr_eR, zr_pI, zr_pL, zr_pR, zr_pO, zr_pV, zq_pA0, zq_pA, zr_get, zr_put_n, zr_put, zr_rem_n, zr_rem, zr_cat_i, zr_cat_l, zr_cat_q, zr_w_n, zr_w, zr_args_n, zr_args, zr_tl_s, zr_tl_n, zq_hIsI, zq_hLsL, zq_hRsR, zq_hIsL, zq_hIsR, zq_hLsI, zq_hLsR, zq_hRsI, zq_hRsL, zq_hNsI, zq_hNsL, zq_hNsR, zq_hZsI, zq_hZsL, zq_hZsR, b2_01, Classical.not_not, Int32.toInt_toInt64, Int64.reduceToInt, zc_1000, zc_100, zc_10, zc_9, zc_2, ci_f, a1, k1, a2, k2, a3, k3, a4, k4, a5, k5, a6, k6, a7, k7, a8, k8]
  refine ⟨fun qc1 => ?_, fun qc1 => ?_⟩
  · try simp only [b2_0, Classical.not_not] at qc1
    try simp only [Int64.le_iff_toInt_le, Int64.lt_iff_toInt_lt, Int32.lt_iff_toInt_lt, Int32.le_iff_toInt_le, Int32.toInt_toInt64, Int64.reduceToInt, Int32.reduceToInt, Int.reduceNeg, Classical.not_not, i32e, l_add] at qc1
    all_goals
      exact K _ _ _ _ (LI.mk C1 s2 e2 M2 (inv_attorney inv _ _ _) (w_attorney _ _ _) (by omega) (by omega))
  · try simp only [b2_0, Classical.not_not] at qc1
    try simp only [Int64.le_iff_toInt_le, Int64.lt_iff_toInt_lt, Int32.lt_iff_toInt_lt, Int32.le_iff_toInt_le, Int32.toInt_toInt64, Int64.reduceToInt, Int32.reduceToInt, Int.reduceNeg, Classical.not_not, i32e, l_add] at qc1
    all_goals
      contradiction
set_option maxRecDepth 4000 in
theorem lc_take {l : Launch} {G : z_G} {A : Nat → z_K} (st : LawSt l G A) {j : Nat} {S : z_M} {h : z_H} {ce sl : Nat} (hj : 9 * j + 9 ≤ gL G) (hL : gL G ≤ 4608) (I : LI j S h ce sl) (K : LK A j) : A 390 [(0, z_r 400 0), (1, z_r 13 0), (2, z_r 14 0), (3, z_i (nI (9 * j)))] [] h ce sl := by
  obtain ⟨C, e, M, inv, c1, c2⟩ := I
  have hWd : o_W S = o_wt (mA S 42) (nO S) := rfl
  have a1 : nI (9 * j) + 1 = nI (9 * j + 1) := nI_add (9 * j) 1
  have k1 := nI_clampS (show 9 * j + 1 < 2000000000 by omega)
  have a2 : nI (9 * j) + 2 = nI (9 * j + 2) := nI_add (9 * j) 2
  have k2 := nI_clampS (show 9 * j + 2 < 2000000000 by omega)
  have a3 : nI (9 * j) + 3 = nI (9 * j + 3) := nI_add (9 * j) 3
  have k3 := nI_clampS (show 9 * j + 3 < 2000000000 by omega)
  have a4 : nI (9 * j) + 4 = nI (9 * j + 4) := nI_add (9 * j) 4
  have k4 := nI_clampS (show 9 * j + 4 < 2000000000 by omega)
  have a5 : nI (9 * j) + 5 = nI (9 * j + 5) := nI_add (9 * j) 5
  have k5 := nI_clampS (show 9 * j + 5 < 2000000000 by omega)
  have a6 : nI (9 * j) + 6 = nI (9 * j + 6) := nI_add (9 * j) 6
  have k6 := nI_clampS (show 9 * j + 6 < 2000000000 by omega)
  have a7 : nI (9 * j) + 7 = nI (9 * j + 7) := nI_add (9 * j) 7
  have k7 := nI_clampS (show 9 * j + 7 < 2000000000 by omega)
  have a8 : nI (9 * j) + 8 = nI (9 * j + 8) := nI_add (9 * j) 8
  have k8 := nI_clampS (show 9 * j + 8 < 2000000000 by omega)
  refine st b_L_law_390 _ _ k_L_law_390 _ _ _ _ _ ?_
  simp only [b_L_law_390, zr_T, zr_aload_n0, zr_aload_n1, zr_aload_n2, zr_cP_eq, zr_call0, zr_iadd, zr_iald1, zr_icmp, zr_iconst, zr_iload_n3, zr_iret, zr_rt_a, zr_rt_i, zr_rt_l, zr_rt_n, zr_rt_z, zr_nil, zr_cons, ↓reduceIte, Nat.reduceAdd, Nat.reduceEqDiff, Nat.reduceLeDiff, Nat.reduceMul, Nat.reduceSub, Int32.reduceOfInt, Int64.reduceOfInt, Int64.reduceOfNat, true_and, and_true, false_and, and_false, or_false, false_or, true_or, or_true, Int.reduceEq, reduceCtorEq, or_self, and_self, ne_eq, not_false_eq_true, not_true_eq_false, eq_self, Nat.le_refl, Nat.zero_le, zr_eI, zr_eL, zr_eR, zr_pI, zr_pL, zr_pR, zr_pO, zr_pV, zq_pA0, zq_pA, zr_get, zr_put_n, zr_put, zr_rem_n, zr_rem, zr_cat_i, zr_cat_l, zr_cat_q, zr_w_n, zr_w, zr_args_n, zr_args, zr_tl_s, zr_tl_n, zq_hIsI, zq_hLsL, zq_hRsR, zq_hIsL, zq_hIsR, zq_hLsI, zq_hLsR, zq_hRsI, zq_hRsL, zq_hNsI, zq_hNsL, zq_hNsR, zq_hZsI, zq_hZsL, zq_hZsR, b2_01, Classical.not_not, Int32.toInt_toInt64, Int64.reduceToInt, zc_1000, zc_100, zc_10, zc_9, zc_2, ci_f, a1, k1, a2, k2, a3, k3, a4, k4, a5, k5, a6, k6, a7, k7, a8, k8]
  refine ⟨by exact vp_in_nI (by omega) (by omega), ?_⟩
  refine ⟨by exact vp_in_nI (by omega) (by omega), ?_⟩
  refine ⟨by exact vp_in_nI (by omega) (by omega), ?_⟩
  refine cpx (by omega) lk_L_32 (rc_13 rfl) (c_take l G _ (by omega) (0, nI (o_W S)) S h C inv rfl _ _ _) (by omega) (by omega) (fun r1 h1 g1 => ?_)
  obtain ⟨rfl, C1, m1⟩ := g1
  have e1 : mv h1 = S := m1.mv.trans e
  have M1 := m1.mr M
  simp only [zr_T, zr_aload_n0, zr_aload_n2, zr_cP_eq, zr_call0, zr_iadd, zr_iald1, zr_icmp, zr_iconst, zr_iload_n3, zr_iret, zr_rt_a, zr_rt_i, zr_rt_l, zr_rt_n, zr_rt_z, zr_nil, zr_cons, ↓reduceIte, Nat.reduceAdd, Nat.reduceEqDiff, Nat.reduceLeDiff, Nat.reduceMul, Nat.reduceSub, Int32.reduceOfInt, Int64.reduceOfInt, Int64.reduceOfNat, true_and, and_true, false_and, and_false, or_false, false_or, true_or, or_true, Int.reduceEq, reduceCtorEq, or_self, and_self, ne_eq, not_false_eq_true, not_true_eq_false, eq_self, Nat.le_refl, Nat.zero_le, zr_eI, zr_eL, zr_eR, zr_pI, zr_pL, zr_pR, zr_pO, zr_pV, zq_pA0, zq_pA, zr_get, zr_put_n, zr_put, zr_rem_n, zr_rem, zr_cat_i, zr_cat_l, zr_cat_q, zr_w_n, zr_w, zr_args_n, zr_args, zr_tl_s, zr_tl_n, zq_hIsI, zq_hLsL, zq_hRsR, zq_hIsL, zq_hIsR, zq_hLsI, zq_hLsR, zq_hRsI, zq_hRsL, zq_hNsI, zq_hNsL, zq_hNsR, zq_hZsI, zq_hZsL, zq_hZsR, b2_01, Classical.not_not, Int32.toInt_toInt64, Int64.reduceToInt, zc_1000, zc_100, zc_10, zc_9, zc_2, ci_f, a1, k1, a2, k2, a3, k3, a4, k4, a5, k5, a6, k6, a7, k7, a8, k8]
  refine ⟨by exact vp_in_nI (by omega) (by omega), ?_⟩
  refine ⟨by exact vp_in_nI (by omega) (by omega), ?_⟩
  refine ⟨by exact vp_in_nI (by omega) (by omega), ?_⟩
  refine cpx (by omega) lk_L_35 (rc_14 rfl) (m_take l G _ (by omega) S h1 e1 M1 inv _ _ _) (by omega) (by omega) (fun r2 h2 g2 => ?_)
  obtain ⟨rfl, e2, s2, M2⟩ := g2
  simp only [zr_T, zr_cP_eq, zr_icmp, zr_iconst, zr_iret, zr_rt_a, zr_rt_i, zr_rt_l, zr_rt_n, zr_rt_z, zr_nil, zr_cons, ↓reduceIte, Nat.reduceAdd, Nat.reduceEqDiff, Nat.reduceLeDiff, Nat.reduceMul, Nat.reduceSub, Int32.reduceOfInt, Int64.reduceOfInt, Int64.reduceOfNat, true_and, and_true, false_and, and_false, or_false, false_or, true_or, or_true, Int.reduceEq, reduceCtorEq, or_self, and_self, ne_eq, not_false_eq_true, not_true_eq_false, eq_self, Nat.le_refl, Nat.zero_le, zr_eI, zr_eL, zr_eR, zr_pI, zr_pL, zr_pR, zr_pO, zr_pV, zq_pA0, zq_pA, zr_get, zr_put_n, zr_put, zr_rem_n, zr_rem, zr_cat_i, zr_cat_l, zr_cat_q, zr_w_n, zr_w, zr_args_n, zr_args, zr_tl_s, zr_tl_n, zq_hIsI, zq_hLsL, zq_hRsR, zq_hIsL, zq_hIsR, zq_hLsI, zq_hLsR, zq_hRsI, zq_hRsL, zq_hNsI, zq_hNsL, zq_hNsR, zq_hZsI, zq_hZsL, zq_hZsR, b2_01, Classical.not_not, Int32.toInt_toInt64, Int64.reduceToInt, zc_1000, zc_100, zc_10, zc_9, zc_2, ci_f, a1, k1, a2, k2, a3, k3, a4, k4, a5, k5, a6, k6, a7, k7, a8, k8]
  refine ⟨fun qc1 => ?_, fun qc1 => ?_⟩
  · try simp only [b2_0, Classical.not_not] at qc1
    try simp only [Int64.le_iff_toInt_le, Int64.lt_iff_toInt_lt, Int32.lt_iff_toInt_lt, Int32.le_iff_toInt_le, Int32.toInt_toInt64, Int64.reduceToInt, Int32.reduceToInt, Int.reduceNeg, Classical.not_not, i32e, l_add] at qc1
    all_goals
      exact K _ _ _ _ (LI.mk C1 s2 e2 M2 (inv_take inv _ _ _) (w_take _ _ _) (by omega) (by omega))
  · try simp only [b2_0, Classical.not_not] at qc1
    try simp only [Int64.le_iff_toInt_le, Int64.lt_iff_toInt_lt, Int32.lt_iff_toInt_lt, Int32.le_iff_toInt_le, Int32.toInt_toInt64, Int64.reduceToInt, Int32.reduceToInt, Int.reduceNeg, Classical.not_not, i32e, l_add] at qc1
    all_goals
      contradiction
set_option maxRecDepth 4000 in
theorem lc_redeem {l : Launch} {G : z_G} {A : Nat → z_K} (st : LawSt l G A) {j : Nat} {S : z_M} {h : z_H} {ce sl : Nat} (hj : 9 * j + 9 ≤ gL G) (hL : gL G ≤ 4608) (I : LI j S h ce sl) (K : LK A j) : A 433 [(0, z_r 400 0), (1, z_r 13 0), (2, z_r 14 0), (3, z_i (nI (9 * j)))] [] h ce sl := by
  obtain ⟨C, e, M, inv, c1, c2⟩ := I
  have hWd : o_W S = o_wt (mA S 42) (nO S) := rfl
  have a1 : nI (9 * j) + 1 = nI (9 * j + 1) := nI_add (9 * j) 1
  have k1 := nI_clampS (show 9 * j + 1 < 2000000000 by omega)
  have a2 : nI (9 * j) + 2 = nI (9 * j + 2) := nI_add (9 * j) 2
  have k2 := nI_clampS (show 9 * j + 2 < 2000000000 by omega)
  have a3 : nI (9 * j) + 3 = nI (9 * j + 3) := nI_add (9 * j) 3
  have k3 := nI_clampS (show 9 * j + 3 < 2000000000 by omega)
  have a4 : nI (9 * j) + 4 = nI (9 * j + 4) := nI_add (9 * j) 4
  have k4 := nI_clampS (show 9 * j + 4 < 2000000000 by omega)
  have a5 : nI (9 * j) + 5 = nI (9 * j + 5) := nI_add (9 * j) 5
  have k5 := nI_clampS (show 9 * j + 5 < 2000000000 by omega)
  have a6 : nI (9 * j) + 6 = nI (9 * j + 6) := nI_add (9 * j) 6
  have k6 := nI_clampS (show 9 * j + 6 < 2000000000 by omega)
  have a7 : nI (9 * j) + 7 = nI (9 * j + 7) := nI_add (9 * j) 7
  have k7 := nI_clampS (show 9 * j + 7 < 2000000000 by omega)
  have a8 : nI (9 * j) + 8 = nI (9 * j + 8) := nI_add (9 * j) 8
  have k8 := nI_clampS (show 9 * j + 8 < 2000000000 by omega)
  refine st b_L_law_433 _ _ k_L_law_433 _ _ _ _ _ ?_
  simp only [b_L_law_433, lg_cmp_eq, lg_cmp_ge, lg_cmp_gt, lg_cmp_le, lg_cmp_lt, zr_T, zr_aload_n0, zr_aload_n1, zr_aload_n2, zr_cP_eq, zr_call0, zr_iadd, zr_iald1, zr_iconst, zr_ifc, zr_iload_n3, zr_iret, zr_lcmp, zr_rt_a, zr_rt_i, zr_rt_l, zr_rt_n, zr_rt_z, zr_nil, zr_cons, ↓reduceIte, Nat.reduceAdd, Nat.reduceEqDiff, Nat.reduceLeDiff, Nat.reduceMul, Nat.reduceSub, Int32.reduceOfInt, Int64.reduceOfInt, Int64.reduceOfNat, true_and, and_true, false_and, and_false, or_false, false_or, true_or, or_true, Int.reduceEq, reduceCtorEq, or_self, and_self, ne_eq, not_false_eq_true, not_true_eq_false, eq_self, Nat.le_refl, Nat.zero_le, zr_eI, zr_eL, zr_eR, zr_pI, zr_pL, zr_pR, zr_pO, zr_pV, zq_pA0, zq_pA, zr_get, zr_put_n, zr_put, zr_rem_n, zr_rem, zr_cat_i, zr_cat_l, zr_cat_q, zr_w_n, zr_w, zr_args_n, zr_args, zr_tl_s, zr_tl_n, zq_hIsI, zq_hLsL, zq_hRsR, zq_hIsL, zq_hIsR, zq_hLsI, zq_hLsR, zq_hRsI, zq_hRsL, zq_hNsI, zq_hNsL, zq_hNsR, zq_hZsI, zq_hZsL, zq_hZsR, b2_01, Classical.not_not, Int32.toInt_toInt64, Int64.reduceToInt, zc_1000, zc_100, zc_10, zc_9, zc_2, ci_f, a1, k1, a2, k2, a3, k3, a4, k4, a5, k5, a6, k6, a7, k7, a8, k8]
  refine ⟨by exact vp_in_nI (by omega) (by omega), ?_⟩
  refine cpx (by omega) lk_L_36 (rc_13 rfl) (c_redeem l G _ (by omega) (0, nI (o_W S)) S h C inv rfl _) (by omega) (by omega) (fun r1 h1 g1 => ?_)
  obtain ⟨rfl, C1, m1⟩ := g1
  have e1 : mv h1 = S := m1.mv.trans e
  have M1 := m1.mr M
  simp only [lg_cmp_eq, lg_cmp_ge, lg_cmp_gt, lg_cmp_le, lg_cmp_lt, zr_T, zr_aload_n0, zr_aload_n2, zr_cP_eq, zr_call0, zr_iadd, zr_iald1, zr_iconst, zr_ifc, zr_iload_n3, zr_iret, zr_lcmp, zr_rt_a, zr_rt_i, zr_rt_l, zr_rt_n, zr_rt_z, zr_nil, zr_cons, ↓reduceIte, Nat.reduceAdd, Nat.reduceEqDiff, Nat.reduceLeDiff, Nat.reduceMul, Nat.reduceSub, Int32.reduceOfInt, Int64.reduceOfInt, Int64.reduceOfNat, true_and, and_true, false_and, and_false, or_false, false_or, true_or, or_true, Int.reduceEq, reduceCtorEq, or_self, and_self, ne_eq, not_false_eq_true, not_true_eq_false, eq_self, Nat.le_refl, Nat.zero_le, zr_eI, zr_eL, zr_eR, zr_pI, zr_pL, zr_pR, zr_pO, zr_pV, zq_pA0, zq_pA, zr_get, zr_put_n, zr_put, zr_rem_n, zr_rem, zr_cat_i, zr_cat_l, zr_cat_q, zr_w_n, zr_w, zr_args_n, zr_args, zr_tl_s, zr_tl_n, zq_hIsI, zq_hLsL, zq_hRsR, zq_hIsL, zq_hIsR, zq_hLsI, zq_hLsR, zq_hRsI, zq_hRsL, zq_hNsI, zq_hNsL, zq_hNsR, zq_hZsI, zq_hZsL, zq_hZsR, b2_01, Classical.not_not, Int32.toInt_toInt64, Int64.reduceToInt, zc_1000, zc_100, zc_10, zc_9, zc_2, ci_f, a1, k1, a2, k2, a3, k3, a4, k4, a5, k5, a6, k6, a7, k7, a8, k8]
  refine ⟨by exact vp_in_nI (by omega) (by omega), ?_⟩
  refine cpx (by omega) lk_L_40 (rc_14 rfl) (m_redeem l G _ (by omega) S h1 e1 M1 inv _) (by omega) (by omega) (fun r2 h2 g2 => ?_)
  obtain ⟨rfl, e2, s2, M2⟩ := g2
  simp only [lg_cmp_eq, lg_cmp_ge, lg_cmp_gt, lg_cmp_le, lg_cmp_lt, zr_T, zr_cP_eq, zr_iconst, zr_ifc, zr_iret, zr_lcmp, zr_rt_a, zr_rt_i, zr_rt_l, zr_rt_n, zr_rt_z, zr_nil, zr_cons, ↓reduceIte, Nat.reduceAdd, Nat.reduceEqDiff, Nat.reduceLeDiff, Nat.reduceMul, Nat.reduceSub, Int32.reduceOfInt, Int64.reduceOfInt, Int64.reduceOfNat, true_and, and_true, false_and, and_false, or_false, false_or, true_or, or_true, Int.reduceEq, reduceCtorEq, or_self, and_self, ne_eq, not_false_eq_true, not_true_eq_false, eq_self, Nat.le_refl, Nat.zero_le, zr_eI, zr_eL, zr_eR, zr_pI, zr_pL, zr_pR, zr_pO, zr_pV, zq_pA0, zq_pA, zr_get, zr_put_n, zr_put, zr_rem_n, zr_rem, zr_cat_i, zr_cat_l, zr_cat_q, zr_w_n, zr_w, zr_args_n, zr_args, zr_tl_s, zr_tl_n, zq_hIsI, zq_hLsL, zq_hRsR, zq_hIsL, zq_hIsR, zq_hLsI, zq_hLsR, zq_hRsI, zq_hRsL, zq_hNsI, zq_hNsL, zq_hNsR, zq_hZsI, zq_hZsL, zq_hZsR, b2_01, Classical.not_not, Int32.toInt_toInt64, Int64.reduceToInt, zc_1000, zc_100, zc_10, zc_9, zc_2, ci_f, a1, k1, a2, k2, a3, k3, a4, k4, a5, k5, a6, k6, a7, k7, a8, k8]
  refine ⟨fun qc1 => ?_, fun qc1 => ?_⟩
  · try simp only [b2_0, Classical.not_not] at qc1
    try simp only [Int64.le_iff_toInt_le, Int64.lt_iff_toInt_lt, Int32.lt_iff_toInt_lt, Int32.le_iff_toInt_le, Int32.toInt_toInt64, Int64.reduceToInt, Int32.reduceToInt, Int.reduceNeg, Classical.not_not, i32e, l_add] at qc1
    all_goals
      exact K _ _ _ _ (LI.mk C1 s2 e2 M2 (inv_redeem inv _) (w_redeem _) (by omega) (by omega))
  · try simp only [b2_0, Classical.not_not] at qc1
    try simp only [Int64.le_iff_toInt_le, Int64.lt_iff_toInt_lt, Int32.lt_iff_toInt_lt, Int32.le_iff_toInt_le, Int32.toInt_toInt64, Int64.reduceToInt, Int32.reduceToInt, Int.reduceNeg, Classical.not_not, i32e, l_add] at qc1
    all_goals
      contradiction
set_option maxRecDepth 4000 in
theorem lc_prolong {l : Launch} {G : z_G} {A : Nat → z_K} (st : LawSt l G A) {j : Nat} {S : z_M} {h : z_H} {ce sl : Nat} (hj : 9 * j + 9 ≤ gL G) (hL : gL G ≤ 4608) (I : LI j S h ce sl) (K : LK A j) : A 457 [(0, z_r 400 0), (1, z_r 13 0), (2, z_r 14 0), (3, z_i (nI (9 * j)))] [] h ce sl := by
  obtain ⟨C, e, M, inv, c1, c2⟩ := I
  have hWd : o_W S = o_wt (mA S 42) (nO S) := rfl
  have a1 : nI (9 * j) + 1 = nI (9 * j + 1) := nI_add (9 * j) 1
  have k1 := nI_clampS (show 9 * j + 1 < 2000000000 by omega)
  have a2 : nI (9 * j) + 2 = nI (9 * j + 2) := nI_add (9 * j) 2
  have k2 := nI_clampS (show 9 * j + 2 < 2000000000 by omega)
  have a3 : nI (9 * j) + 3 = nI (9 * j + 3) := nI_add (9 * j) 3
  have k3 := nI_clampS (show 9 * j + 3 < 2000000000 by omega)
  have a4 : nI (9 * j) + 4 = nI (9 * j + 4) := nI_add (9 * j) 4
  have k4 := nI_clampS (show 9 * j + 4 < 2000000000 by omega)
  have a5 : nI (9 * j) + 5 = nI (9 * j + 5) := nI_add (9 * j) 5
  have k5 := nI_clampS (show 9 * j + 5 < 2000000000 by omega)
  have a6 : nI (9 * j) + 6 = nI (9 * j + 6) := nI_add (9 * j) 6
  have k6 := nI_clampS (show 9 * j + 6 < 2000000000 by omega)
  have a7 : nI (9 * j) + 7 = nI (9 * j + 7) := nI_add (9 * j) 7
  have k7 := nI_clampS (show 9 * j + 7 < 2000000000 by omega)
  have a8 : nI (9 * j) + 8 = nI (9 * j + 8) := nI_add (9 * j) 8
  have k8 := nI_clampS (show 9 * j + 8 < 2000000000 by omega)
  refine st b_L_law_457 _ _ k_L_law_457 _ _ _ _ _ ?_
  simp only [b_L_law_457, lg_cmp_eq, lg_cmp_ge, lg_cmp_gt, lg_cmp_le, lg_cmp_lt, zr_T, zr_aload_n0, zr_aload_n1, zr_aload_n2, zr_cP_eq, zr_call0, zr_iadd, zr_iald1, zr_iconst, zr_ifc, zr_iload_n3, zr_iret, zr_lcmp, zr_rt_a, zr_rt_i, zr_rt_l, zr_rt_n, zr_rt_z, zr_nil, zr_cons, ↓reduceIte, Nat.reduceAdd, Nat.reduceEqDiff, Nat.reduceLeDiff, Nat.reduceMul, Nat.reduceSub, Int32.reduceOfInt, Int64.reduceOfInt, Int64.reduceOfNat, true_and, and_true, false_and, and_false, or_false, false_or, true_or, or_true, Int.reduceEq, reduceCtorEq, or_self, and_self, ne_eq, not_false_eq_true, not_true_eq_false, eq_self, Nat.le_refl, Nat.zero_le, zr_eI, zr_eL, zr_eR, zr_pI, zr_pL, zr_pR, zr_pO, zr_pV, zq_pA0, zq_pA, zr_get, zr_put_n, zr_put, zr_rem_n, zr_rem, zr_cat_i, zr_cat_l, zr_cat_q, zr_w_n, zr_w, zr_args_n, zr_args, zr_tl_s, zr_tl_n, zq_hIsI, zq_hLsL, zq_hRsR, zq_hIsL, zq_hIsR, zq_hLsI, zq_hLsR, zq_hRsI, zq_hRsL, zq_hNsI, zq_hNsL, zq_hNsR, zq_hZsI, zq_hZsL, zq_hZsR, b2_01, Classical.not_not, Int32.toInt_toInt64, Int64.reduceToInt, zc_1000, zc_100, zc_10, zc_9, zc_2, ci_f, a1, k1, a2, k2, a3, k3, a4, k4, a5, k5, a6, k6, a7, k7, a8, k8]
  refine ⟨by exact vp_in_nI (by omega) (by omega), ?_⟩
  refine cpx (by omega) lk_L_41 (rc_13 rfl) (c_prolong l G _ (by omega) (0, nI (o_W S)) S h C inv rfl _) (by omega) (by omega) (fun r1 h1 g1 => ?_)
  obtain ⟨rfl, C1, m1⟩ := g1
  have e1 : mv h1 = S := m1.mv.trans e
  have M1 := m1.mr M
  simp only [lg_cmp_eq, lg_cmp_ge, lg_cmp_gt, lg_cmp_le, lg_cmp_lt, zr_T, zr_aload_n0, zr_aload_n2, zr_cP_eq, zr_call0, zr_iadd, zr_iald1, zr_iconst, zr_ifc, zr_iload_n3, zr_iret, zr_lcmp, zr_rt_a, zr_rt_i, zr_rt_l, zr_rt_n, zr_rt_z, zr_nil, zr_cons, ↓reduceIte, Nat.reduceAdd, Nat.reduceEqDiff, Nat.reduceLeDiff, Nat.reduceMul, Nat.reduceSub, Int32.reduceOfInt, Int64.reduceOfInt, Int64.reduceOfNat, true_and, and_true, false_and, and_false, or_false, false_or, true_or, or_true, Int.reduceEq, reduceCtorEq, or_self, and_self, ne_eq, not_false_eq_true, not_true_eq_false, eq_self, Nat.le_refl, Nat.zero_le, zr_eI, zr_eL, zr_eR, zr_pI, zr_pL, zr_pR, zr_pO, zr_pV, zq_pA0, zq_pA, zr_get, zr_put_n, zr_put, zr_rem_n, zr_rem, zr_cat_i, zr_cat_l, zr_cat_q, zr_w_n, zr_w, zr_args_n, zr_args, zr_tl_s, zr_tl_n, zq_hIsI, zq_hLsL, zq_hRsR, zq_hIsL, zq_hIsR, zq_hLsI, zq_hLsR, zq_hRsI, zq_hRsL, zq_hNsI, zq_hNsL, zq_hNsR, zq_hZsI, zq_hZsL, zq_hZsR, b2_01, Classical.not_not, Int32.toInt_toInt64, Int64.reduceToInt, zc_1000, zc_100, zc_10, zc_9, zc_2, ci_f, a1, k1, a2, k2, a3, k3, a4, k4, a5, k5, a6, k6, a7, k7, a8, k8]
  refine ⟨by exact vp_in_nI (by omega) (by omega), ?_⟩
  refine cpx (by omega) lk_L_44 (rc_14 rfl) (m_prolong l G _ (by omega) S h1 e1 M1 inv _) (by omega) (by omega) (fun r2 h2 g2 => ?_)
  obtain ⟨rfl, e2, s2, M2⟩ := g2
  simp only [lg_cmp_eq, lg_cmp_ge, lg_cmp_gt, lg_cmp_le, lg_cmp_lt, zr_T, zr_cP_eq, zr_iconst, zr_ifc, zr_iret, zr_lcmp, zr_rt_a, zr_rt_i, zr_rt_l, zr_rt_n, zr_rt_z, zr_nil, zr_cons, ↓reduceIte, Nat.reduceAdd, Nat.reduceEqDiff, Nat.reduceLeDiff, Nat.reduceMul, Nat.reduceSub, Int32.reduceOfInt, Int64.reduceOfInt, Int64.reduceOfNat, true_and, and_true, false_and, and_false, or_false, false_or, true_or, or_true, Int.reduceEq, reduceCtorEq, or_self, and_self, ne_eq, not_false_eq_true, not_true_eq_false, eq_self, Nat.le_refl, Nat.zero_le, zr_eI, zr_eL, zr_eR, zr_pI, zr_pL, zr_pR, zr_pO, zr_pV, zq_pA0, zq_pA, zr_get, zr_put_n, zr_put, zr_rem_n, zr_rem, zr_cat_i, zr_cat_l, zr_cat_q, zr_w_n, zr_w, zr_args_n, zr_args, zr_tl_s, zr_tl_n, zq_hIsI, zq_hLsL, zq_hRsR, zq_hIsL, zq_hIsR, zq_hLsI, zq_hLsR, zq_hRsI, zq_hRsL, zq_hNsI, zq_hNsL, zq_hNsR, zq_hZsI, zq_hZsL, zq_hZsR, b2_01, Classical.not_not, Int32.toInt_toInt64, Int64.reduceToInt, zc_1000, zc_100, zc_10, zc_9, zc_2, ci_f, a1, k1, a2, k2, a3, k3, a4, k4, a5, k5, a6, k6, a7, k7, a8, k8]
  refine ⟨fun qc1 => ?_, fun qc1 => ?_⟩
  · try simp only [b2_0, Classical.not_not] at qc1
    try simp only [Int64.le_iff_toInt_le, Int64.lt_iff_toInt_lt, Int32.lt_iff_toInt_lt, Int32.le_iff_toInt_le, Int32.toInt_toInt64, Int64.reduceToInt, Int32.reduceToInt, Int.reduceNeg, Classical.not_not, i32e, l_add] at qc1
    all_goals
      exact K _ _ _ _ (LI.mk C1 s2 e2 M2 (inv_prolong inv _) (w_prolong _) (by omega) (by omega))
  · try simp only [b2_0, Classical.not_not] at qc1
    try simp only [Int64.le_iff_toInt_le, Int64.lt_iff_toInt_lt, Int32.lt_iff_toInt_lt, Int32.le_iff_toInt_le, Int32.toInt_toInt64, Int64.reduceToInt, Int32.reduceToInt, Int.reduceNeg, Classical.not_not, i32e, l_add] at qc1
    all_goals
      contradiction
set_option maxRecDepth 4000 in
theorem lc_give {l : Launch} {G : z_G} {A : Nat → z_K} (st : LawSt l G A) {j : Nat} {S : z_M} {h : z_H} {ce sl : Nat} (hj : 9 * j + 9 ≤ gL G) (hL : gL G ≤ 4608) (I : LI j S h ce sl) (K : LK A j) : A 481 [(0, z_r 400 0), (1, z_r 13 0), (2, z_r 14 0), (3, z_i (nI (9 * j)))] [] h ce sl := by
  obtain ⟨C, e, M, inv, c1, c2⟩ := I
  have hWd : o_W S = o_wt (mA S 42) (nO S) := rfl
  have a1 : nI (9 * j) + 1 = nI (9 * j + 1) := nI_add (9 * j) 1
  have k1 := nI_clampS (show 9 * j + 1 < 2000000000 by omega)
  have a2 : nI (9 * j) + 2 = nI (9 * j + 2) := nI_add (9 * j) 2
  have k2 := nI_clampS (show 9 * j + 2 < 2000000000 by omega)
  have a3 : nI (9 * j) + 3 = nI (9 * j + 3) := nI_add (9 * j) 3
  have k3 := nI_clampS (show 9 * j + 3 < 2000000000 by omega)
  have a4 : nI (9 * j) + 4 = nI (9 * j + 4) := nI_add (9 * j) 4
  have k4 := nI_clampS (show 9 * j + 4 < 2000000000 by omega)
  have a5 : nI (9 * j) + 5 = nI (9 * j + 5) := nI_add (9 * j) 5
  have k5 := nI_clampS (show 9 * j + 5 < 2000000000 by omega)
  have a6 : nI (9 * j) + 6 = nI (9 * j + 6) := nI_add (9 * j) 6
  have k6 := nI_clampS (show 9 * j + 6 < 2000000000 by omega)
  have a7 : nI (9 * j) + 7 = nI (9 * j + 7) := nI_add (9 * j) 7
  have k7 := nI_clampS (show 9 * j + 7 < 2000000000 by omega)
  have a8 : nI (9 * j) + 8 = nI (9 * j + 8) := nI_add (9 * j) 8
  have k8 := nI_clampS (show 9 * j + 8 < 2000000000 by omega)
  refine st b_L_law_481 _ _ k_L_law_481 _ _ _ _ _ ?_
  simp only [b_L_law_481, zr_T, zr_aload_n0, zr_aload_n1, zr_aload_n2, zr_cP_eq, zr_call0, zr_iadd, zr_iald1, zr_icmp, zr_iconst, zr_iload_n3, zr_iret, zr_rt_a, zr_rt_i, zr_rt_l, zr_rt_n, zr_rt_z, zr_nil, zr_cons, ↓reduceIte, Nat.reduceAdd, Nat.reduceEqDiff, Nat.reduceLeDiff, Nat.reduceMul, Nat.reduceSub, Int32.reduceOfInt, Int64.reduceOfInt, Int64.reduceOfNat, true_and, and_true, false_and, and_false, or_false, false_or, true_or, or_true, Int.reduceEq, reduceCtorEq, or_self, and_self, ne_eq, not_false_eq_true, not_true_eq_false, eq_self, Nat.le_refl, Nat.zero_le, zr_eI, zr_eL, zr_eR, zr_pI, zr_pL, zr_pR, zr_pO, zr_pV, zq_pA0, zq_pA, zr_get, zr_put_n, zr_put, zr_rem_n, zr_rem, zr_cat_i, zr_cat_l, zr_cat_q, zr_w_n, zr_w, zr_args_n, zr_args, zr_tl_s, zr_tl_n, zq_hIsI, zq_hLsL, zq_hRsR, zq_hIsL, zq_hIsR, zq_hLsI, zq_hLsR, zq_hRsI, zq_hRsL, zq_hNsI, zq_hNsL, zq_hNsR, zq_hZsI, zq_hZsL, zq_hZsR, b2_01, Classical.not_not, Int32.toInt_toInt64, Int64.reduceToInt, zc_1000, zc_100, zc_10, zc_9, zc_2, ci_f, a1, k1, a2, k2, a3, k3, a4, k4, a5, k5, a6, k6, a7, k7, a8, k8]
  refine ⟨by exact vp_in_nI (by omega) (by omega), ?_⟩
  refine ⟨by exact vp_in_nI (by omega) (by omega), ?_⟩
  refine cpx (by omega) lk_L_45 (rc_13 rfl) (c_give l G _ (by omega) (0, nI (o_W S)) S h C inv _ _) (by omega) (by omega) (fun r1 h1 g1 => ?_)
  obtain ⟨rfl, C1, m1⟩ := g1
  have e1 : mv h1 = S := m1.mv.trans e
  have M1 := m1.mr M
  simp only [zr_T, zr_aload_n0, zr_aload_n2, zr_cP_eq, zr_call0, zr_iadd, zr_iald1, zr_icmp, zr_iconst, zr_iload_n3, zr_iret, zr_rt_a, zr_rt_i, zr_rt_l, zr_rt_n, zr_rt_z, zr_nil, zr_cons, ↓reduceIte, Nat.reduceAdd, Nat.reduceEqDiff, Nat.reduceLeDiff, Nat.reduceMul, Nat.reduceSub, Int32.reduceOfInt, Int64.reduceOfInt, Int64.reduceOfNat, true_and, and_true, false_and, and_false, or_false, false_or, true_or, or_true, Int.reduceEq, reduceCtorEq, or_self, and_self, ne_eq, not_false_eq_true, not_true_eq_false, eq_self, Nat.le_refl, Nat.zero_le, zr_eI, zr_eL, zr_eR, zr_pI, zr_pL, zr_pR, zr_pO, zr_pV, zq_pA0, zq_pA, zr_get, zr_put_n, zr_put, zr_rem_n, zr_rem, zr_cat_i, zr_cat_l, zr_cat_q, zr_w_n, zr_w, zr_args_n, zr_args, zr_tl_s, zr_tl_n, zq_hIsI, zq_hLsL, zq_hRsR, zq_hIsL, zq_hIsR, zq_hLsI, zq_hLsR, zq_hRsI, zq_hRsL, zq_hNsI, zq_hNsL, zq_hNsR, zq_hZsI, zq_hZsL, zq_hZsR, b2_01, Classical.not_not, Int32.toInt_toInt64, Int64.reduceToInt, zc_1000, zc_100, zc_10, zc_9, zc_2, ci_f, a1, k1, a2, k2, a3, k3, a4, k4, a5, k5, a6, k6, a7, k7, a8, k8]
  refine ⟨by exact vp_in_nI (by omega) (by omega), ?_⟩
  refine ⟨by exact vp_in_nI (by omega) (by omega), ?_⟩
  refine cpx (by omega) lk_L_49 (rc_14 rfl) (m_give l G _ (by omega) S h1 e1 M1 inv _ _) (by omega) (by omega) (fun r2 h2 g2 => ?_)
  obtain ⟨rfl, e2, s2, M2⟩ := g2
  simp only [zr_T, zr_cP_eq, zr_icmp, zr_iconst, zr_iret, zr_rt_a, zr_rt_i, zr_rt_l, zr_rt_n, zr_rt_z, zr_nil, zr_cons, ↓reduceIte, Nat.reduceAdd, Nat.reduceEqDiff, Nat.reduceLeDiff, Nat.reduceMul, Nat.reduceSub, Int32.reduceOfInt, Int64.reduceOfInt, Int64.reduceOfNat, true_and, and_true, false_and, and_false, or_false, false_or, true_or, or_true, Int.reduceEq, reduceCtorEq, or_self, and_self, ne_eq, not_false_eq_true, not_true_eq_false, eq_self, Nat.le_refl, Nat.zero_le, zr_eI, zr_eL, zr_eR, zr_pI, zr_pL, zr_pR, zr_pO, zr_pV, zq_pA0, zq_pA, zr_get, zr_put_n, zr_put, zr_rem_n, zr_rem, zr_cat_i, zr_cat_l, zr_cat_q, zr_w_n, zr_w, zr_args_n, zr_args, zr_tl_s, zr_tl_n, zq_hIsI, zq_hLsL, zq_hRsR, zq_hIsL, zq_hIsR, zq_hLsI, zq_hLsR, zq_hRsI, zq_hRsL, zq_hNsI, zq_hNsL, zq_hNsR, zq_hZsI, zq_hZsL, zq_hZsR, b2_01, Classical.not_not, Int32.toInt_toInt64, Int64.reduceToInt, zc_1000, zc_100, zc_10, zc_9, zc_2, ci_f, a1, k1, a2, k2, a3, k3, a4, k4, a5, k5, a6, k6, a7, k7, a8, k8]
  refine ⟨fun qc1 => ?_, fun qc1 => ?_⟩
  · try simp only [b2_0, Classical.not_not] at qc1
    try simp only [Int64.le_iff_toInt_le, Int64.lt_iff_toInt_lt, Int32.lt_iff_toInt_lt, Int32.le_iff_toInt_le, Int32.toInt_toInt64, Int64.reduceToInt, Int32.reduceToInt, Int.reduceNeg, Classical.not_not, i32e, l_add] at qc1
    all_goals
      exact K _ _ _ _ (LI.mk C1 s2 e2 M2 (inv_give inv _ _) (w_give _ _) (by omega) (by omega))
  · try simp only [b2_0, Classical.not_not] at qc1
    try simp only [Int64.le_iff_toInt_le, Int64.lt_iff_toInt_lt, Int32.lt_iff_toInt_lt, Int32.le_iff_toInt_le, Int32.toInt_toInt64, Int64.reduceToInt, Int32.reduceToInt, Int.reduceNeg, Classical.not_not, i32e, l_add] at qc1
    all_goals
      contradiction
set_option maxRecDepth 4000 in
theorem lc_order {l : Launch} {G : z_G} {A : Nat → z_K} (st : LawSt l G A) {j : Nat} {S : z_M} {h : z_H} {ce sl : Nat} (hj : 9 * j + 9 ≤ gL G) (hL : gL G ≤ 4608) (I : LI j S h ce sl) (K : LK A j) : A 514 [(0, z_r 400 0), (1, z_r 13 0), (2, z_r 14 0), (3, z_i (nI (9 * j)))] [] h ce sl := by
  obtain ⟨C, e, M, inv, c1, c2⟩ := I
  have hWd : o_W S = o_wt (mA S 42) (nO S) := rfl
  have a1 : nI (9 * j) + 1 = nI (9 * j + 1) := nI_add (9 * j) 1
  have k1 := nI_clampS (show 9 * j + 1 < 2000000000 by omega)
  have a2 : nI (9 * j) + 2 = nI (9 * j + 2) := nI_add (9 * j) 2
  have k2 := nI_clampS (show 9 * j + 2 < 2000000000 by omega)
  have a3 : nI (9 * j) + 3 = nI (9 * j + 3) := nI_add (9 * j) 3
  have k3 := nI_clampS (show 9 * j + 3 < 2000000000 by omega)
  have a4 : nI (9 * j) + 4 = nI (9 * j + 4) := nI_add (9 * j) 4
  have k4 := nI_clampS (show 9 * j + 4 < 2000000000 by omega)
  have a5 : nI (9 * j) + 5 = nI (9 * j + 5) := nI_add (9 * j) 5
  have k5 := nI_clampS (show 9 * j + 5 < 2000000000 by omega)
  have a6 : nI (9 * j) + 6 = nI (9 * j + 6) := nI_add (9 * j) 6
  have k6 := nI_clampS (show 9 * j + 6 < 2000000000 by omega)
  have a7 : nI (9 * j) + 7 = nI (9 * j + 7) := nI_add (9 * j) 7
  have k7 := nI_clampS (show 9 * j + 7 < 2000000000 by omega)
  have a8 : nI (9 * j) + 8 = nI (9 * j + 8) := nI_add (9 * j) 8
  have k8 := nI_clampS (show 9 * j + 8 < 2000000000 by omega)
  refine st b_L_law_514 _ _ k_L_law_514 _ _ _ _ _ ?_
  simp only [b_L_law_514, zr_T, zr_aload_n0, zr_aload_n1, zr_aload_n2, zr_bipush, zr_cP_eq, zr_call0, zr_i2l, zr_iadd, zr_iald1, zr_icmp, zr_iconst, zr_iload_n3, zr_iret, zr_land, zr_ldc2, zr_lor, zr_lshl, zr_rt_a, zr_rt_i, zr_rt_l, zr_rt_n, zr_rt_z, zr_nil, zr_cons, ↓reduceIte, Nat.reduceAdd, Nat.reduceEqDiff, Nat.reduceLeDiff, Nat.reduceMul, Nat.reduceSub, Int32.reduceOfInt, Int64.reduceOfInt, Int64.reduceOfNat, true_and, and_true, false_and, and_false, or_false, false_or, true_or, or_true, Int.reduceEq, reduceCtorEq, or_self, and_self, ne_eq, not_false_eq_true, not_true_eq_false, eq_self, Nat.le_refl, Nat.zero_le, zr_eI, zr_eL, zr_eR, zr_pI, zr_pL, zr_pR, zr_pO, zr_pV, zq_pA0, zq_pA, zr_get, zr_put_n, zr_put, zr_rem_n, zr_rem, zr_cat_i, zr_cat_l, zr_cat_q, zr_w_n, zr_w, zr_args_n, zr_args, zr_tl_s, zr_tl_n, zq_hIsI, zq_hLsL, zq_hRsR, zq_hIsL, zq_hIsR, zq_hLsI, zq_hLsR, zq_hRsI, zq_hRsL, zq_hNsI, zq_hNsL, zq_hNsR, zq_hZsI, zq_hZsL, zq_hZsR, b2_01, Classical.not_not, Int32.toInt_toInt64, Int64.reduceToInt, zc_1000, zc_100, zc_10, zc_9, zc_2, ci_f, a1, k1, a2, k2, a3, k3, a4, k4, a5, k5, a6, k6, a7, k7, a8, k8]
  refine ⟨by exact vp_in_nI (by omega) (by omega), ?_⟩
  refine ⟨by exact vp_in_nI (by omega) (by omega), ?_⟩
  refine ⟨by exact vp_in_nI (by omega) (by omega), ?_⟩
  refine ⟨by exact vp_in_nI (by omega) (by omega), ?_⟩
  refine ⟨by exact vp_in_nI (by omega) (by omega), ?_⟩
  refine ⟨by exact vp_in_nI (by omega) (by omega), ?_⟩
  refine cpx (by omega) lk_L_52 (rc_13 rfl) (c_order l G _ (by omega) (0, nI (o_W S)) S h C inv rfl _ _ _ _ _) (by omega) (by omega) (fun r1 h1 g1 => ?_)
  have C1 := g1.2.1
  have m1 := g1.2.2
  have g0 := g1.1
  subst g0
  have e1 : mv h1 = S := m1.mv.trans e
  have M1 := m1.mr M
  simp only [zr_T, zr_aload_n0, zr_aload_n2, zr_bipush, zr_cP_eq, zr_call0, zr_i2l, zr_iadd, zr_iald1, zr_icmp, zr_iconst, zr_iload_n3, zr_iret, zr_land, zr_ldc2, zr_lor, zr_lshl, zr_rt_a, zr_rt_i, zr_rt_l, zr_rt_n, zr_rt_z, zr_nil, zr_cons, ↓reduceIte, Nat.reduceAdd, Nat.reduceEqDiff, Nat.reduceLeDiff, Nat.reduceMul, Nat.reduceSub, Int32.reduceOfInt, Int64.reduceOfInt, Int64.reduceOfNat, true_and, and_true, false_and, and_false, or_false, false_or, true_or, or_true, Int.reduceEq, reduceCtorEq, or_self, and_self, ne_eq, not_false_eq_true, not_true_eq_false, eq_self, Nat.le_refl, Nat.zero_le, zr_eI, zr_eL, zr_eR, zr_pI, zr_pL, zr_pR, zr_pO, zr_pV, zq_pA0, zq_pA, zr_get, zr_put_n, zr_put, zr_rem_n, zr_rem, zr_cat_i, zr_cat_l, zr_cat_q, zr_w_n, zr_w, zr_args_n, zr_args, zr_tl_s, zr_tl_n, zq_hIsI, zq_hLsL, zq_hRsR, zq_hIsL, zq_hIsR, zq_hLsI, zq_hLsR, zq_hRsI, zq_hRsL, zq_hNsI, zq_hNsL, zq_hNsR, zq_hZsI, zq_hZsL, zq_hZsR, b2_01, Classical.not_not, Int32.toInt_toInt64, Int64.reduceToInt, zc_1000, zc_100, zc_10, zc_9, zc_2, ci_f, a1, k1, a2, k2, a3, k3, a4, k4, a5, k5, a6, k6, a7, k7, a8, k8]
  refine ⟨by exact vp_in_nI (by omega) (by omega), ?_⟩
  refine ⟨by exact vp_in_nI (by omega) (by omega), ?_⟩
  refine ⟨by exact vp_in_nI (by omega) (by omega), ?_⟩
  refine ⟨by exact vp_in_nI (by omega) (by omega), ?_⟩
  refine ⟨by exact vp_in_nI (by omega) (by omega), ?_⟩
  refine ⟨by exact vp_in_nI (by omega) (by omega), ?_⟩
  refine cpx (by omega) lk_L_56 (rc_14 rfl) (m_order l G _ (by omega) S h1 e1 M1 inv _ _ _ _ _) (by omega) (by omega) (fun r2 h2 g2 => ?_)
  obtain ⟨rfl, e2, s2, M2⟩ := g2
  simp only [zr_T, zr_cP_eq, zr_icmp, zr_iconst, zr_iret, zr_rt_a, zr_rt_i, zr_rt_l, zr_rt_n, zr_rt_z, zr_nil, zr_cons, ↓reduceIte, Nat.reduceAdd, Nat.reduceEqDiff, Nat.reduceLeDiff, Nat.reduceMul, Nat.reduceSub, Int32.reduceOfInt, Int64.reduceOfInt, Int64.reduceOfNat, true_and, and_true, false_and, and_false, or_false, false_or, true_or, or_true, Int.reduceEq, reduceCtorEq, or_self, and_self, ne_eq, not_false_eq_true, not_true_eq_false, eq_self, Nat.le_refl, Nat.zero_le, zr_eI, zr_eL, zr_eR, zr_pI, zr_pL, zr_pR, zr_pO, zr_pV, zq_pA0, zq_pA, zr_get, zr_put_n, zr_put, zr_rem_n, zr_rem, zr_cat_i, zr_cat_l, zr_cat_q, zr_w_n, zr_w, zr_args_n, zr_args, zr_tl_s, zr_tl_n, zq_hIsI, zq_hLsL, zq_hRsR, zq_hIsL, zq_hIsR, zq_hLsI, zq_hLsR, zq_hRsI, zq_hRsL, zq_hNsI, zq_hNsL, zq_hNsR, zq_hZsI, zq_hZsL, zq_hZsR, b2_01, Classical.not_not, Int32.toInt_toInt64, Int64.reduceToInt, zc_1000, zc_100, zc_10, zc_9, zc_2, ci_f, a1, k1, a2, k2, a3, k3, a4, k4, a5, k5, a6, k6, a7, k7, a8, k8]
  refine ⟨fun qc1 => ?_, fun qc1 => ?_⟩
  · try simp only [b2_0, Classical.not_not] at qc1
    try simp only [Int64.le_iff_toInt_le, Int64.lt_iff_toInt_lt, Int32.lt_iff_toInt_lt, Int32.le_iff_toInt_le, Int32.toInt_toInt64, Int64.reduceToInt, Int32.reduceToInt, Int.reduceNeg, Classical.not_not, i32e, l_add] at qc1
    all_goals
      have wq := fun x0 x1 x2 x3 x4 => w_order (S := S) inv (f := x0) (t := x1) (sum := x2) (hour := x3) (signer := x4)
      refine K _ _ _ _ ⟨C1.keep s2, e2, M2, inv_order inv _ _ _ _ _, ?_, ?_⟩
      · refine Nat.le_trans (Nat.add_le_add_left (Nat.mul_le_mul_left 8 (wq _ _ _ _ _)) _) ?_
        omega
      · refine Nat.le_trans (Nat.add_le_add_left (Nat.mul_le_mul_left 12080 (wq _ _ _ _ _)) _) ?_
        omega
  · try simp only [b2_0, Classical.not_not] at qc1
    try simp only [Int64.le_iff_toInt_le, Int64.lt_iff_toInt_lt, Int32.lt_iff_toInt_lt, Int32.le_iff_toInt_le, Int32.toInt_toInt64, Int64.reduceToInt, Int32.reduceToInt, Int.reduceNeg, Classical.not_not, i32e, l_add] at qc1
    all_goals
      contradiction
set_option maxRecDepth 4000 in
theorem lc_bill {l : Launch} {G : z_G} {A : Nat → z_K} (st : LawSt l G A) {j : Nat} {S : z_M} {h : z_H} {ce sl : Nat} (hj : 9 * j + 9 ≤ gL G) (hL : gL G ≤ 4608) (I : LI j S h ce sl) (K : LK A j) : A 609 [(0, z_r 400 0), (1, z_r 13 0), (2, z_r 14 0), (3, z_i (nI (9 * j)))] [] h ce sl := by
  obtain ⟨C, e, M, inv, c1, c2⟩ := I
  have hWd : o_W S = o_wt (mA S 42) (nO S) := rfl
  have a1 : nI (9 * j) + 1 = nI (9 * j + 1) := nI_add (9 * j) 1
  have k1 := nI_clampS (show 9 * j + 1 < 2000000000 by omega)
  have a2 : nI (9 * j) + 2 = nI (9 * j + 2) := nI_add (9 * j) 2
  have k2 := nI_clampS (show 9 * j + 2 < 2000000000 by omega)
  have a3 : nI (9 * j) + 3 = nI (9 * j + 3) := nI_add (9 * j) 3
  have k3 := nI_clampS (show 9 * j + 3 < 2000000000 by omega)
  have a4 : nI (9 * j) + 4 = nI (9 * j + 4) := nI_add (9 * j) 4
  have k4 := nI_clampS (show 9 * j + 4 < 2000000000 by omega)
  have a5 : nI (9 * j) + 5 = nI (9 * j + 5) := nI_add (9 * j) 5
  have k5 := nI_clampS (show 9 * j + 5 < 2000000000 by omega)
  have a6 : nI (9 * j) + 6 = nI (9 * j + 6) := nI_add (9 * j) 6
  have k6 := nI_clampS (show 9 * j + 6 < 2000000000 by omega)
  have a7 : nI (9 * j) + 7 = nI (9 * j + 7) := nI_add (9 * j) 7
  have k7 := nI_clampS (show 9 * j + 7 < 2000000000 by omega)
  have a8 : nI (9 * j) + 8 = nI (9 * j + 8) := nI_add (9 * j) 8
  have k8 := nI_clampS (show 9 * j + 8 < 2000000000 by omega)
  refine st b_L_law_609 _ _ k_L_law_609 _ _ _ _ _ ?_
  simp only [b_L_law_609, zr_T, zr_aload_n0, zr_aload_n1, zr_aload_n2, zr_bipush, zr_cP_eq, zr_call0, zr_i2l, zr_iadd, zr_iald1, zr_icmp, zr_iconst, zr_iload_n3, zr_iret, zr_land, zr_ldc2, zr_lor, zr_lshl, zr_rt_a, zr_rt_i, zr_rt_l, zr_rt_n, zr_rt_z, zr_nil, zr_cons, ↓reduceIte, Nat.reduceAdd, Nat.reduceEqDiff, Nat.reduceLeDiff, Nat.reduceMul, Nat.reduceSub, Int32.reduceOfInt, Int64.reduceOfInt, Int64.reduceOfNat, true_and, and_true, false_and, and_false, or_false, false_or, true_or, or_true, Int.reduceEq, reduceCtorEq, or_self, and_self, ne_eq, not_false_eq_true, not_true_eq_false, eq_self, Nat.le_refl, Nat.zero_le, zr_eI, zr_eL, zr_eR, zr_pI, zr_pL, zr_pR, zr_pO, zr_pV, zq_pA0, zq_pA, zr_get, zr_put_n, zr_put, zr_rem_n, zr_rem, zr_cat_i, zr_cat_l, zr_cat_q, zr_w_n, zr_w, zr_args_n, zr_args, zr_tl_s, zr_tl_n, zq_hIsI, zq_hLsL, zq_hRsR, zq_hIsL, zq_hIsR, zq_hLsI, zq_hLsR, zq_hRsI, zq_hRsL, zq_hNsI, zq_hNsL, zq_hNsR, zq_hZsI, zq_hZsL, zq_hZsR, b2_01, Classical.not_not, Int32.toInt_toInt64, Int64.reduceToInt, zc_1000, zc_100, zc_10, zc_9, zc_2, ci_f, a1, k1, a2, k2, a3, k3, a4, k4, a5, k5, a6, k6, a7, k7, a8, k8]
  refine ⟨by exact vp_in_nI (by omega) (by omega), ?_⟩
  refine ⟨by exact vp_in_nI (by omega) (by omega), ?_⟩
  refine ⟨by exact vp_in_nI (by omega) (by omega), ?_⟩
  refine ⟨by exact vp_in_nI (by omega) (by omega), ?_⟩
  refine ⟨by exact vp_in_nI (by omega) (by omega), ?_⟩
  refine cpx (by omega) lk_L_57 (rc_13 rfl) (c_bill l G _ (by omega) (0, nI (o_W S)) S h C inv rfl _ _ _ _) (by omega) (by omega) (fun r1 h1 g1 => ?_)
  have C1 := g1.2.1
  have m1 := g1.2.2
  have g0 := g1.1
  subst g0
  have e1 : mv h1 = S := m1.mv.trans e
  have M1 := m1.mr M
  simp only [zr_T, zr_aload_n0, zr_aload_n2, zr_bipush, zr_cP_eq, zr_call0, zr_i2l, zr_iadd, zr_iald1, zr_icmp, zr_iconst, zr_iload_n3, zr_iret, zr_land, zr_ldc2, zr_lor, zr_lshl, zr_rt_a, zr_rt_i, zr_rt_l, zr_rt_n, zr_rt_z, zr_nil, zr_cons, ↓reduceIte, Nat.reduceAdd, Nat.reduceEqDiff, Nat.reduceLeDiff, Nat.reduceMul, Nat.reduceSub, Int32.reduceOfInt, Int64.reduceOfInt, Int64.reduceOfNat, true_and, and_true, false_and, and_false, or_false, false_or, true_or, or_true, Int.reduceEq, reduceCtorEq, or_self, and_self, ne_eq, not_false_eq_true, not_true_eq_false, eq_self, Nat.le_refl, Nat.zero_le, zr_eI, zr_eL, zr_eR, zr_pI, zr_pL, zr_pR, zr_pO, zr_pV, zq_pA0, zq_pA, zr_get, zr_put_n, zr_put, zr_rem_n, zr_rem, zr_cat_i, zr_cat_l, zr_cat_q, zr_w_n, zr_w, zr_args_n, zr_args, zr_tl_s, zr_tl_n, zq_hIsI, zq_hLsL, zq_hRsR, zq_hIsL, zq_hIsR, zq_hLsI, zq_hLsR, zq_hRsI, zq_hRsL, zq_hNsI, zq_hNsL, zq_hNsR, zq_hZsI, zq_hZsL, zq_hZsR, b2_01, Classical.not_not, Int32.toInt_toInt64, Int64.reduceToInt, zc_1000, zc_100, zc_10, zc_9, zc_2, ci_f, a1, k1, a2, k2, a3, k3, a4, k4, a5, k5, a6, k6, a7, k7, a8, k8]
  refine ⟨by exact vp_in_nI (by omega) (by omega), ?_⟩
  refine ⟨by exact vp_in_nI (by omega) (by omega), ?_⟩
  refine ⟨by exact vp_in_nI (by omega) (by omega), ?_⟩
  refine ⟨by exact vp_in_nI (by omega) (by omega), ?_⟩
  refine ⟨by exact vp_in_nI (by omega) (by omega), ?_⟩
  refine cpx (by omega) lk_L_61 (rc_14 rfl) (m_bill l G _ (by omega) S h1 e1 M1 inv _ _ _ _) (by omega) (by omega) (fun r2 h2 g2 => ?_)
  obtain ⟨rfl, e2, s2, M2⟩ := g2
  simp only [zr_T, zr_cP_eq, zr_icmp, zr_iconst, zr_iret, zr_rt_a, zr_rt_i, zr_rt_l, zr_rt_n, zr_rt_z, zr_nil, zr_cons, ↓reduceIte, Nat.reduceAdd, Nat.reduceEqDiff, Nat.reduceLeDiff, Nat.reduceMul, Nat.reduceSub, Int32.reduceOfInt, Int64.reduceOfInt, Int64.reduceOfNat, true_and, and_true, false_and, and_false, or_false, false_or, true_or, or_true, Int.reduceEq, reduceCtorEq, or_self, and_self, ne_eq, not_false_eq_true, not_true_eq_false, eq_self, Nat.le_refl, Nat.zero_le, zr_eI, zr_eL, zr_eR, zr_pI, zr_pL, zr_pR, zr_pO, zr_pV, zq_pA0, zq_pA, zr_get, zr_put_n, zr_put, zr_rem_n, zr_rem, zr_cat_i, zr_cat_l, zr_cat_q, zr_w_n, zr_w, zr_args_n, zr_args, zr_tl_s, zr_tl_n, zq_hIsI, zq_hLsL, zq_hRsR, zq_hIsL, zq_hIsR, zq_hLsI, zq_hLsR, zq_hRsI, zq_hRsL, zq_hNsI, zq_hNsL, zq_hNsR, zq_hZsI, zq_hZsL, zq_hZsR, b2_01, Classical.not_not, Int32.toInt_toInt64, Int64.reduceToInt, zc_1000, zc_100, zc_10, zc_9, zc_2, ci_f, a1, k1, a2, k2, a3, k3, a4, k4, a5, k5, a6, k6, a7, k7, a8, k8]
  refine ⟨fun qc1 => ?_, fun qc1 => ?_⟩
  · try simp only [b2_0, Classical.not_not] at qc1
    try simp only [Int64.le_iff_toInt_le, Int64.lt_iff_toInt_lt, Int32.lt_iff_toInt_lt, Int32.le_iff_toInt_le, Int32.toInt_toInt64, Int64.reduceToInt, Int32.reduceToInt, Int.reduceNeg, Classical.not_not, i32e, l_add] at qc1
    all_goals
      have wq := fun x0 x1 x2 x3 => w_bill (S := S) inv (f := x0) (t := x1) (sum := x2) (days := x3)
      refine K _ _ _ _ ⟨C1.keep s2, e2, M2, inv_bill inv _ _ _ _, ?_, ?_⟩
      · refine Nat.le_trans (Nat.add_le_add_left (Nat.mul_le_mul_left 8 (wq _ _ _ _)) _) ?_
        omega
      · refine Nat.le_trans (Nat.add_le_add_left (Nat.mul_le_mul_left 12080 (wq _ _ _ _)) _) ?_
        omega
  · try simp only [b2_0, Classical.not_not] at qc1
    try simp only [Int64.le_iff_toInt_le, Int64.lt_iff_toInt_lt, Int32.lt_iff_toInt_lt, Int32.le_iff_toInt_le, Int32.toInt_toInt64, Int64.reduceToInt, Int32.reduceToInt, Int.reduceNeg, Classical.not_not, i32e, l_add] at qc1
    all_goals
      contradiction
set_option maxRecDepth 4000 in
theorem lc_slip {l : Launch} {G : z_G} {A : Nat → z_K} (st : LawSt l G A) {j : Nat} {S : z_M} {h : z_H} {ce sl : Nat} (hj : 9 * j + 9 ≤ gL G) (hL : gL G ≤ 4608) (I : LI j S h ce sl) (K : LK A j) : A 692 [(0, z_r 400 0), (1, z_r 13 0), (2, z_r 14 0), (3, z_i (nI (9 * j)))] [] h ce sl := by
  obtain ⟨C, e, M, inv, c1, c2⟩ := I
  have hWd : o_W S = o_wt (mA S 42) (nO S) := rfl
  have a1 : nI (9 * j) + 1 = nI (9 * j + 1) := nI_add (9 * j) 1
  have k1 := nI_clampS (show 9 * j + 1 < 2000000000 by omega)
  have a2 : nI (9 * j) + 2 = nI (9 * j + 2) := nI_add (9 * j) 2
  have k2 := nI_clampS (show 9 * j + 2 < 2000000000 by omega)
  have a3 : nI (9 * j) + 3 = nI (9 * j + 3) := nI_add (9 * j) 3
  have k3 := nI_clampS (show 9 * j + 3 < 2000000000 by omega)
  have a4 : nI (9 * j) + 4 = nI (9 * j + 4) := nI_add (9 * j) 4
  have k4 := nI_clampS (show 9 * j + 4 < 2000000000 by omega)
  have a5 : nI (9 * j) + 5 = nI (9 * j + 5) := nI_add (9 * j) 5
  have k5 := nI_clampS (show 9 * j + 5 < 2000000000 by omega)
  have a6 : nI (9 * j) + 6 = nI (9 * j + 6) := nI_add (9 * j) 6
  have k6 := nI_clampS (show 9 * j + 6 < 2000000000 by omega)
  have a7 : nI (9 * j) + 7 = nI (9 * j + 7) := nI_add (9 * j) 7
  have k7 := nI_clampS (show 9 * j + 7 < 2000000000 by omega)
  have a8 : nI (9 * j) + 8 = nI (9 * j + 8) := nI_add (9 * j) 8
  have k8 := nI_clampS (show 9 * j + 8 < 2000000000 by omega)
  refine st b_L_law_692 _ _ k_L_law_692 _ _ _ _ _ ?_
  simp only [b_L_law_692, zr_T, zr_aload_n0, zr_aload_n1, zr_aload_n2, zr_cP_eq, zr_call0, zr_iadd, zr_iald1, zr_icmp, zr_iconst, zr_iload_n3, zr_iret, zr_rt_a, zr_rt_i, zr_rt_l, zr_rt_n, zr_rt_z, zr_nil, zr_cons, ↓reduceIte, Nat.reduceAdd, Nat.reduceEqDiff, Nat.reduceLeDiff, Nat.reduceMul, Nat.reduceSub, Int32.reduceOfInt, Int64.reduceOfInt, Int64.reduceOfNat, true_and, and_true, false_and, and_false, or_false, false_or, true_or, or_true, Int.reduceEq, reduceCtorEq, or_self, and_self, ne_eq, not_false_eq_true, not_true_eq_false, eq_self, Nat.le_refl, Nat.zero_le, zr_eI, zr_eL, zr_eR, zr_pI, zr_pL, zr_pR, zr_pO, zr_pV, zq_pA0, zq_pA, zr_get, zr_put_n, zr_put, zr_rem_n, zr_rem, zr_cat_i, zr_cat_l, zr_cat_q, zr_w_n, zr_w, zr_args_n, zr_args, zr_tl_s, zr_tl_n, zq_hIsI, zq_hLsL, zq_hRsR, zq_hIsL, zq_hIsR, zq_hLsI, zq_hLsR, zq_hRsI, zq_hRsL, zq_hNsI, zq_hNsL, zq_hNsR, zq_hZsI, zq_hZsL, zq_hZsR, b2_01, Classical.not_not, Int32.toInt_toInt64, Int64.reduceToInt, zc_1000, zc_100, zc_10, zc_9, zc_2, ci_f, a1, k1, a2, k2, a3, k3, a4, k4, a5, k5, a6, k6, a7, k7, a8, k8]
  refine ⟨by exact vp_in_nI (by omega) (by omega), ?_⟩
  refine ⟨by exact vp_in_nI (by omega) (by omega), ?_⟩
  refine ⟨by exact vp_in_nI (by omega) (by omega), ?_⟩
  refine cpx (by omega) lk_L_62 (rc_13 rfl) (c_slip l G _ (by omega) (0, nI (o_W S)) S h C inv _ _ _) (by omega) (by omega) (fun r1 h1 g1 => ?_)
  obtain ⟨rfl, C1, m1⟩ := g1
  have e1 : mv h1 = S := m1.mv.trans e
  have M1 := m1.mr M
  simp only [zr_T, zr_aload_n0, zr_aload_n2, zr_cP_eq, zr_call0, zr_iadd, zr_iald1, zr_icmp, zr_iconst, zr_iload_n3, zr_iret, zr_rt_a, zr_rt_i, zr_rt_l, zr_rt_n, zr_rt_z, zr_nil, zr_cons, ↓reduceIte, Nat.reduceAdd, Nat.reduceEqDiff, Nat.reduceLeDiff, Nat.reduceMul, Nat.reduceSub, Int32.reduceOfInt, Int64.reduceOfInt, Int64.reduceOfNat, true_and, and_true, false_and, and_false, or_false, false_or, true_or, or_true, Int.reduceEq, reduceCtorEq, or_self, and_self, ne_eq, not_false_eq_true, not_true_eq_false, eq_self, Nat.le_refl, Nat.zero_le, zr_eI, zr_eL, zr_eR, zr_pI, zr_pL, zr_pR, zr_pO, zr_pV, zq_pA0, zq_pA, zr_get, zr_put_n, zr_put, zr_rem_n, zr_rem, zr_cat_i, zr_cat_l, zr_cat_q, zr_w_n, zr_w, zr_args_n, zr_args, zr_tl_s, zr_tl_n, zq_hIsI, zq_hLsL, zq_hRsR, zq_hIsL, zq_hIsR, zq_hLsI, zq_hLsR, zq_hRsI, zq_hRsL, zq_hNsI, zq_hNsL, zq_hNsR, zq_hZsI, zq_hZsL, zq_hZsR, b2_01, Classical.not_not, Int32.toInt_toInt64, Int64.reduceToInt, zc_1000, zc_100, zc_10, zc_9, zc_2, ci_f, a1, k1, a2, k2, a3, k3, a4, k4, a5, k5, a6, k6, a7, k7, a8, k8]
  refine ⟨by exact vp_in_nI (by omega) (by omega), ?_⟩
  refine ⟨by exact vp_in_nI (by omega) (by omega), ?_⟩
  refine ⟨by exact vp_in_nI (by omega) (by omega), ?_⟩
  refine cpx (by omega) lk_L_65 (rc_14 rfl) (m_slip l G _ (by omega) S h1 e1 M1 inv _ _ _) (by omega) (by omega) (fun r2 h2 g2 => ?_)
  obtain ⟨rfl, e2, s2, M2⟩ := g2
  simp only [zr_T, zr_cP_eq, zr_icmp, zr_iconst, zr_iret, zr_rt_a, zr_rt_i, zr_rt_l, zr_rt_n, zr_rt_z, zr_nil, zr_cons, ↓reduceIte, Nat.reduceAdd, Nat.reduceEqDiff, Nat.reduceLeDiff, Nat.reduceMul, Nat.reduceSub, Int32.reduceOfInt, Int64.reduceOfInt, Int64.reduceOfNat, true_and, and_true, false_and, and_false, or_false, false_or, true_or, or_true, Int.reduceEq, reduceCtorEq, or_self, and_self, ne_eq, not_false_eq_true, not_true_eq_false, eq_self, Nat.le_refl, Nat.zero_le, zr_eI, zr_eL, zr_eR, zr_pI, zr_pL, zr_pR, zr_pO, zr_pV, zq_pA0, zq_pA, zr_get, zr_put_n, zr_put, zr_rem_n, zr_rem, zr_cat_i, zr_cat_l, zr_cat_q, zr_w_n, zr_w, zr_args_n, zr_args, zr_tl_s, zr_tl_n, zq_hIsI, zq_hLsL, zq_hRsR, zq_hIsL, zq_hIsR, zq_hLsI, zq_hLsR, zq_hRsI, zq_hRsL, zq_hNsI, zq_hNsL, zq_hNsR, zq_hZsI, zq_hZsL, zq_hZsR, b2_01, Classical.not_not, Int32.toInt_toInt64, Int64.reduceToInt, zc_1000, zc_100, zc_10, zc_9, zc_2, ci_f, a1, k1, a2, k2, a3, k3, a4, k4, a5, k5, a6, k6, a7, k7, a8, k8]
  refine ⟨fun qc1 => ?_, fun qc1 => ?_⟩
  · try simp only [b2_0, Classical.not_not] at qc1
    try simp only [Int64.le_iff_toInt_le, Int64.lt_iff_toInt_lt, Int32.lt_iff_toInt_lt, Int32.le_iff_toInt_le, Int32.toInt_toInt64, Int64.reduceToInt, Int32.reduceToInt, Int.reduceNeg, Classical.not_not, i32e, l_add] at qc1
    all_goals
      exact K _ _ _ _ (LI.mk C1 s2 e2 M2 (inv_slip inv _ _ _) (w_slip _ _ _) (by omega) (by omega))
  · try simp only [b2_0, Classical.not_not] at qc1
    try simp only [Int64.le_iff_toInt_le, Int64.lt_iff_toInt_lt, Int32.lt_iff_toInt_lt, Int32.le_iff_toInt_le, Int32.toInt_toInt64, Int64.reduceToInt, Int32.reduceToInt, Int.reduceNeg, Classical.not_not, i32e, l_add] at qc1
    all_goals
      contradiction
set_option maxRecDepth 4000 in
theorem lc_close {l : Launch} {G : z_G} {A : Nat → z_K} (st : LawSt l G A) {j : Nat} {S : z_M} {h : z_H} {ce sl : Nat} (hj : 9 * j + 9 ≤ gL G) (hL : gL G ≤ 4608) (I : LI j S h ce sl) (K : LK A j) : A 735 [(0, z_r 400 0), (1, z_r 13 0), (2, z_r 14 0), (3, z_i (nI (9 * j)))] [] h ce sl := by
  obtain ⟨C, e, M, inv, c1, c2⟩ := I
  have hWd : o_W S = o_wt (mA S 42) (nO S) := rfl
  have a1 : nI (9 * j) + 1 = nI (9 * j + 1) := nI_add (9 * j) 1
  have k1 := nI_clampS (show 9 * j + 1 < 2000000000 by omega)
  have a2 : nI (9 * j) + 2 = nI (9 * j + 2) := nI_add (9 * j) 2
  have k2 := nI_clampS (show 9 * j + 2 < 2000000000 by omega)
  have a3 : nI (9 * j) + 3 = nI (9 * j + 3) := nI_add (9 * j) 3
  have k3 := nI_clampS (show 9 * j + 3 < 2000000000 by omega)
  have a4 : nI (9 * j) + 4 = nI (9 * j + 4) := nI_add (9 * j) 4
  have k4 := nI_clampS (show 9 * j + 4 < 2000000000 by omega)
  have a5 : nI (9 * j) + 5 = nI (9 * j + 5) := nI_add (9 * j) 5
  have k5 := nI_clampS (show 9 * j + 5 < 2000000000 by omega)
  have a6 : nI (9 * j) + 6 = nI (9 * j + 6) := nI_add (9 * j) 6
  have k6 := nI_clampS (show 9 * j + 6 < 2000000000 by omega)
  have a7 : nI (9 * j) + 7 = nI (9 * j + 7) := nI_add (9 * j) 7
  have k7 := nI_clampS (show 9 * j + 7 < 2000000000 by omega)
  have a8 : nI (9 * j) + 8 = nI (9 * j + 8) := nI_add (9 * j) 8
  have k8 := nI_clampS (show 9 * j + 8 < 2000000000 by omega)
  refine st b_L_law_735 _ _ k_L_law_735 _ _ _ _ _ ?_
  simp only [b_L_law_735, zr_T, zr_aload_n1, zr_aload_n2, zr_cP_eq, zr_call0, zr_icmp, zr_iconst, zr_iret, zr_rt_a, zr_rt_i, zr_rt_l, zr_rt_n, zr_rt_z, zr_nil, zr_cons, ↓reduceIte, Nat.reduceAdd, Nat.reduceEqDiff, Nat.reduceLeDiff, Nat.reduceMul, Nat.reduceSub, Int32.reduceOfInt, Int64.reduceOfInt, Int64.reduceOfNat, true_and, and_true, false_and, and_false, or_false, false_or, true_or, or_true, Int.reduceEq, reduceCtorEq, or_self, and_self, ne_eq, not_false_eq_true, not_true_eq_false, eq_self, Nat.le_refl, Nat.zero_le, zr_eI, zr_eL, zr_eR, zr_pI, zr_pL, zr_pR, zr_pO, zr_pV, zq_pA0, zq_pA, zr_get, zr_put_n, zr_put, zr_rem_n, zr_rem, zr_cat_i, zr_cat_l, zr_cat_q, zr_w_n, zr_w, zr_args_n, zr_args, zr_tl_s, zr_tl_n, zq_hIsI, zq_hLsL, zq_hRsR, zq_hIsL, zq_hIsR, zq_hLsI, zq_hLsR, zq_hRsI, zq_hRsL, zq_hNsI, zq_hNsL, zq_hNsR, zq_hZsI, zq_hZsL, zq_hZsR, b2_01, Classical.not_not, Int32.toInt_toInt64, Int64.reduceToInt, zc_1000, zc_100, zc_10, zc_9, zc_2, ci_f, a1, k1, a2, k2, a3, k3, a4, k4, a5, k5, a6, k6, a7, k7, a8, k8]
  refine cpx (by omega) lk_L_66 (rc_13 rfl) (c_close l G _ (by omega) (0, nI (o_W S)) S h C inv rfl ) (by omega) (by omega) (fun r1 h1 g1 => ?_)
  have C1 := g1.2.1
  have m1 := g1.2.2
  have g0 := g1.1
  subst g0
  have e1 : mv h1 = S := m1.mv.trans e
  have M1 := m1.mr M
  simp only [zr_T, zr_aload_n2, zr_cP_eq, zr_call0, zr_icmp, zr_iconst, zr_iret, zr_rt_a, zr_rt_i, zr_rt_l, zr_rt_n, zr_rt_z, zr_nil, zr_cons, ↓reduceIte, Nat.reduceAdd, Nat.reduceEqDiff, Nat.reduceLeDiff, Nat.reduceMul, Nat.reduceSub, Int32.reduceOfInt, Int64.reduceOfInt, Int64.reduceOfNat, true_and, and_true, false_and, and_false, or_false, false_or, true_or, or_true, Int.reduceEq, reduceCtorEq, or_self, and_self, ne_eq, not_false_eq_true, not_true_eq_false, eq_self, Nat.le_refl, Nat.zero_le, zr_eI, zr_eL, zr_eR, zr_pI, zr_pL, zr_pR, zr_pO, zr_pV, zq_pA0, zq_pA, zr_get, zr_put_n, zr_put, zr_rem_n, zr_rem, zr_cat_i, zr_cat_l, zr_cat_q, zr_w_n, zr_w, zr_args_n, zr_args, zr_tl_s, zr_tl_n, zq_hIsI, zq_hLsL, zq_hRsR, zq_hIsL, zq_hIsR, zq_hLsI, zq_hLsR, zq_hRsI, zq_hRsL, zq_hNsI, zq_hNsL, zq_hNsR, zq_hZsI, zq_hZsL, zq_hZsR, b2_01, Classical.not_not, Int32.toInt_toInt64, Int64.reduceToInt, zc_1000, zc_100, zc_10, zc_9, zc_2, ci_f, a1, k1, a2, k2, a3, k3, a4, k4, a5, k5, a6, k6, a7, k7, a8, k8]
  refine cpx (by omega) lk_L_69 (rc_14 rfl) (m_close l G _ (by omega) S h1 e1 M1 inv ) (by omega) (by omega) (fun r2 h2 g2 => ?_)
  obtain ⟨rfl, e2, s2, M2⟩ := g2
  simp only [zr_T, zr_cP_eq, zr_icmp, zr_iconst, zr_iret, zr_rt_a, zr_rt_i, zr_rt_l, zr_rt_n, zr_rt_z, zr_nil, zr_cons, ↓reduceIte, Nat.reduceAdd, Nat.reduceEqDiff, Nat.reduceLeDiff, Nat.reduceMul, Nat.reduceSub, Int32.reduceOfInt, Int64.reduceOfInt, Int64.reduceOfNat, true_and, and_true, false_and, and_false, or_false, false_or, true_or, or_true, Int.reduceEq, reduceCtorEq, or_self, and_self, ne_eq, not_false_eq_true, not_true_eq_false, eq_self, Nat.le_refl, Nat.zero_le, zr_eI, zr_eL, zr_eR, zr_pI, zr_pL, zr_pR, zr_pO, zr_pV, zq_pA0, zq_pA, zr_get, zr_put_n, zr_put, zr_rem_n, zr_rem, zr_cat_i, zr_cat_l, zr_cat_q, zr_w_n, zr_w, zr_args_n, zr_args, zr_tl_s, zr_tl_n, zq_hIsI, zq_hLsL, zq_hRsR, zq_hIsL, zq_hIsR, zq_hLsI, zq_hLsR, zq_hRsI, zq_hRsL, zq_hNsI, zq_hNsL, zq_hNsR, zq_hZsI, zq_hZsL, zq_hZsR, b2_01, Classical.not_not, Int32.toInt_toInt64, Int64.reduceToInt, zc_1000, zc_100, zc_10, zc_9, zc_2, ci_f, a1, k1, a2, k2, a3, k3, a4, k4, a5, k5, a6, k6, a7, k7, a8, k8]
  refine ⟨fun qc1 => ?_, fun qc1 => ?_⟩
  · try simp only [b2_0, Classical.not_not] at qc1
    try simp only [Int64.le_iff_toInt_le, Int64.lt_iff_toInt_lt, Int32.lt_iff_toInt_lt, Int32.le_iff_toInt_le, Int32.toInt_toInt64, Int64.reduceToInt, Int32.reduceToInt, Int.reduceNeg, Classical.not_not, i32e, l_add] at qc1
    all_goals
      have wq := w_close inv
      refine K _ _ _ _ ⟨C1.keep s2, e2, M2, inv_close inv, ?_, ?_⟩
      · show _ + 8 * o_wt (mA (o_close S).2 42) (nO (o_close S).2) ≤ _
        omega
      · show _ + 12080 * o_wt (mA (o_close S).2 42) (nO (o_close S).2) ≤ _
        omega
  · try simp only [b2_0, Classical.not_not] at qc1
    try simp only [Int64.le_iff_toInt_le, Int64.lt_iff_toInt_lt, Int32.lt_iff_toInt_lt, Int32.le_iff_toInt_le, Int32.toInt_toInt64, Int64.reduceToInt, Int32.reduceToInt, Int.reduceNeg, Classical.not_not, i32e, l_add] at qc1
    all_goals
      contradiction
set_option maxRecDepth 4000 in
theorem lc_suspects {l : Launch} {G : z_G} {A : Nat → z_K} (st : LawSt l G A) {j : Nat} {S : z_M} {h : z_H} {ce sl : Nat} (hj : 9 * j + 9 ≤ gL G) (hL : gL G ≤ 4608) (I : LI j S h ce sl) (K : LK A j) : A 748 [(0, z_r 400 0), (1, z_r 13 0), (2, z_r 14 0), (3, z_i (nI (9 * j)))] [] h ce sl := by
  obtain ⟨C, e, M, inv, c1, c2⟩ := I
  have hWd : o_W S = o_wt (mA S 42) (nO S) := rfl
  have a1 : nI (9 * j) + 1 = nI (9 * j + 1) := nI_add (9 * j) 1
  have k1 := nI_clampS (show 9 * j + 1 < 2000000000 by omega)
  have a2 : nI (9 * j) + 2 = nI (9 * j + 2) := nI_add (9 * j) 2
  have k2 := nI_clampS (show 9 * j + 2 < 2000000000 by omega)
  have a3 : nI (9 * j) + 3 = nI (9 * j + 3) := nI_add (9 * j) 3
  have k3 := nI_clampS (show 9 * j + 3 < 2000000000 by omega)
  have a4 : nI (9 * j) + 4 = nI (9 * j + 4) := nI_add (9 * j) 4
  have k4 := nI_clampS (show 9 * j + 4 < 2000000000 by omega)
  have a5 : nI (9 * j) + 5 = nI (9 * j + 5) := nI_add (9 * j) 5
  have k5 := nI_clampS (show 9 * j + 5 < 2000000000 by omega)
  have a6 : nI (9 * j) + 6 = nI (9 * j + 6) := nI_add (9 * j) 6
  have k6 := nI_clampS (show 9 * j + 6 < 2000000000 by omega)
  have a7 : nI (9 * j) + 7 = nI (9 * j + 7) := nI_add (9 * j) 7
  have k7 := nI_clampS (show 9 * j + 7 < 2000000000 by omega)
  have a8 : nI (9 * j) + 8 = nI (9 * j + 8) := nI_add (9 * j) 8
  have k8 := nI_clampS (show 9 * j + 8 < 2000000000 by omega)
  refine st b_L_law_748 _ _ k_L_law_748 _ _ _ _ _ ?_
  simp only [b_L_law_748, zr_T, zr_aload_n0, zr_aload_n1, zr_aload_n2, zr_cP_eq, zr_call0, zr_iadd, zr_iald1, zr_icmp, zr_iconst, zr_iload_n3, zr_iret, zr_rt_a, zr_rt_i, zr_rt_l, zr_rt_n, zr_rt_z, zr_nil, zr_cons, ↓reduceIte, Nat.reduceAdd, Nat.reduceEqDiff, Nat.reduceLeDiff, Nat.reduceMul, Nat.reduceSub, Int32.reduceOfInt, Int64.reduceOfInt, Int64.reduceOfNat, true_and, and_true, false_and, and_false, or_false, false_or, true_or, or_true, Int.reduceEq, reduceCtorEq, or_self, and_self, ne_eq, not_false_eq_true, not_true_eq_false, eq_self, Nat.le_refl, Nat.zero_le, zr_eI, zr_eL, zr_eR, zr_pI, zr_pL, zr_pR, zr_pO, zr_pV, zq_pA0, zq_pA, zr_get, zr_put_n, zr_put, zr_rem_n, zr_rem, zr_cat_i, zr_cat_l, zr_cat_q, zr_w_n, zr_w, zr_args_n, zr_args, zr_tl_s, zr_tl_n, zq_hIsI, zq_hLsL, zq_hRsR, zq_hIsL, zq_hIsR, zq_hLsI, zq_hLsR, zq_hRsI, zq_hRsL, zq_hNsI, zq_hNsL, zq_hNsR, zq_hZsI, zq_hZsL, zq_hZsR, b2_01, Classical.not_not, Int32.toInt_toInt64, Int64.reduceToInt, zc_1000, zc_100, zc_10, zc_9, zc_2, ci_f, a1, k1, a2, k2, a3, k3, a4, k4, a5, k5, a6, k6, a7, k7, a8, k8]
  refine ⟨by exact vp_in_nI (by omega) (by omega), ?_⟩
  refine cpx (by omega) lk_L_70 (rc_13 rfl) (c_suspects l G _ (by omega) (0, nI (o_W S)) S h C inv _) (by omega) (by omega) (fun r1 h1 g1 => ?_)
  obtain ⟨rfl, C1, m1⟩ := g1
  have e1 : mv h1 = S := m1.mv.trans e
  have M1 := m1.mr M
  simp only [zr_T, zr_aload_n0, zr_aload_n2, zr_cP_eq, zr_call0, zr_iadd, zr_iald1, zr_icmp, zr_iconst, zr_iload_n3, zr_iret, zr_rt_a, zr_rt_i, zr_rt_l, zr_rt_n, zr_rt_z, zr_nil, zr_cons, ↓reduceIte, Nat.reduceAdd, Nat.reduceEqDiff, Nat.reduceLeDiff, Nat.reduceMul, Nat.reduceSub, Int32.reduceOfInt, Int64.reduceOfInt, Int64.reduceOfNat, true_and, and_true, false_and, and_false, or_false, false_or, true_or, or_true, Int.reduceEq, reduceCtorEq, or_self, and_self, ne_eq, not_false_eq_true, not_true_eq_false, eq_self, Nat.le_refl, Nat.zero_le, zr_eI, zr_eL, zr_eR, zr_pI, zr_pL, zr_pR, zr_pO, zr_pV, zq_pA0, zq_pA, zr_get, zr_put_n, zr_put, zr_rem_n, zr_rem, zr_cat_i, zr_cat_l, zr_cat_q, zr_w_n, zr_w, zr_args_n, zr_args, zr_tl_s, zr_tl_n, zq_hIsI, zq_hLsL, zq_hRsR, zq_hIsL, zq_hIsR, zq_hLsI, zq_hLsR, zq_hRsI, zq_hRsL, zq_hNsI, zq_hNsL, zq_hNsR, zq_hZsI, zq_hZsL, zq_hZsR, b2_01, Classical.not_not, Int32.toInt_toInt64, Int64.reduceToInt, zc_1000, zc_100, zc_10, zc_9, zc_2, ci_f, a1, k1, a2, k2, a3, k3, a4, k4, a5, k5, a6, k6, a7, k7, a8, k8]
  refine ⟨by exact vp_in_nI (by omega) (by omega), ?_⟩
  refine cpx (by omega) lk_L_74 (rc_14 rfl) (m_suspects l G _ (by omega) S h1 e1 M1 inv _) (by omega) (by omega) (fun r2 h2 g2 => ?_)
  obtain ⟨rfl, e2, s2, M2⟩ := g2
  simp only [zr_T, zr_cP_eq, zr_icmp, zr_iconst, zr_iret, zr_rt_a, zr_rt_i, zr_rt_l, zr_rt_n, zr_rt_z, zr_nil, zr_cons, ↓reduceIte, Nat.reduceAdd, Nat.reduceEqDiff, Nat.reduceLeDiff, Nat.reduceMul, Nat.reduceSub, Int32.reduceOfInt, Int64.reduceOfInt, Int64.reduceOfNat, true_and, and_true, false_and, and_false, or_false, false_or, true_or, or_true, Int.reduceEq, reduceCtorEq, or_self, and_self, ne_eq, not_false_eq_true, not_true_eq_false, eq_self, Nat.le_refl, Nat.zero_le, zr_eI, zr_eL, zr_eR, zr_pI, zr_pL, zr_pR, zr_pO, zr_pV, zq_pA0, zq_pA, zr_get, zr_put_n, zr_put, zr_rem_n, zr_rem, zr_cat_i, zr_cat_l, zr_cat_q, zr_w_n, zr_w, zr_args_n, zr_args, zr_tl_s, zr_tl_n, zq_hIsI, zq_hLsL, zq_hRsR, zq_hIsL, zq_hIsR, zq_hLsI, zq_hLsR, zq_hRsI, zq_hRsL, zq_hNsI, zq_hNsL, zq_hNsR, zq_hZsI, zq_hZsL, zq_hZsR, b2_01, Classical.not_not, Int32.toInt_toInt64, Int64.reduceToInt, zc_1000, zc_100, zc_10, zc_9, zc_2, ci_f, a1, k1, a2, k2, a3, k3, a4, k4, a5, k5, a6, k6, a7, k7, a8, k8]
  refine ⟨fun qc1 => ?_, fun qc1 => ?_⟩
  · try simp only [b2_0, Classical.not_not] at qc1
    try simp only [Int64.le_iff_toInt_le, Int64.lt_iff_toInt_lt, Int32.lt_iff_toInt_lt, Int32.le_iff_toInt_le, Int32.toInt_toInt64, Int64.reduceToInt, Int32.reduceToInt, Int.reduceNeg, Classical.not_not, i32e, l_add] at qc1
    all_goals
      exact K _ _ _ _ (LI.mk C1 s2 e2 M2 (inv_suspects inv _) (w_suspects _) (by omega) (by omega))
  · try simp only [b2_0, Classical.not_not] at qc1
    try simp only [Int64.le_iff_toInt_le, Int64.lt_iff_toInt_lt, Int32.lt_iff_toInt_lt, Int32.le_iff_toInt_le, Int32.toInt_toInt64, Int64.reduceToInt, Int32.reduceToInt, Int.reduceNeg, Classical.not_not, i32e, l_add] at qc1
    all_goals
      contradiction
set_option maxRecDepth 4000 in
theorem lc_suspect {l : Launch} {G : z_G} {A : Nat → z_K} (st : LawSt l G A) {j : Nat} {S : z_M} {h : z_H} {ce sl : Nat} (hj : 9 * j + 9 ≤ gL G) (hL : gL G ≤ 4608) (I : LI j S h ce sl) (K : LK A j) : A 771 [(0, z_r 400 0), (1, z_r 13 0), (2, z_r 14 0), (3, z_i (nI (9 * j)))] [] h ce sl := by
  obtain ⟨C, e, M, inv, c1, c2⟩ := I
  have hWd : o_W S = o_wt (mA S 42) (nO S) := rfl
  have a1 : nI (9 * j) + 1 = nI (9 * j + 1) := nI_add (9 * j) 1
  have k1 := nI_clampS (show 9 * j + 1 < 2000000000 by omega)
  have a2 : nI (9 * j) + 2 = nI (9 * j + 2) := nI_add (9 * j) 2
  have k2 := nI_clampS (show 9 * j + 2 < 2000000000 by omega)
  have a3 : nI (9 * j) + 3 = nI (9 * j + 3) := nI_add (9 * j) 3
  have k3 := nI_clampS (show 9 * j + 3 < 2000000000 by omega)
  have a4 : nI (9 * j) + 4 = nI (9 * j + 4) := nI_add (9 * j) 4
  have k4 := nI_clampS (show 9 * j + 4 < 2000000000 by omega)
  have a5 : nI (9 * j) + 5 = nI (9 * j + 5) := nI_add (9 * j) 5
  have k5 := nI_clampS (show 9 * j + 5 < 2000000000 by omega)
  have a6 : nI (9 * j) + 6 = nI (9 * j + 6) := nI_add (9 * j) 6
  have k6 := nI_clampS (show 9 * j + 6 < 2000000000 by omega)
  have a7 : nI (9 * j) + 7 = nI (9 * j + 7) := nI_add (9 * j) 7
  have k7 := nI_clampS (show 9 * j + 7 < 2000000000 by omega)
  have a8 : nI (9 * j) + 8 = nI (9 * j + 8) := nI_add (9 * j) 8
  have k8 := nI_clampS (show 9 * j + 8 < 2000000000 by omega)
  refine st b_L_law_771 _ _ k_L_law_771 _ _ _ _ _ ?_
  simp only [b_L_law_771, zr_T, zr_aload_n0, zr_aload_n1, zr_aload_n2, zr_cP_eq, zr_call0, zr_iadd, zr_iald1, zr_icmp, zr_iconst, zr_iload_n3, zr_iret, zr_rt_a, zr_rt_i, zr_rt_l, zr_rt_n, zr_rt_z, zr_nil, zr_cons, ↓reduceIte, Nat.reduceAdd, Nat.reduceEqDiff, Nat.reduceLeDiff, Nat.reduceMul, Nat.reduceSub, Int32.reduceOfInt, Int64.reduceOfInt, Int64.reduceOfNat, true_and, and_true, false_and, and_false, or_false, false_or, true_or, or_true, Int.reduceEq, reduceCtorEq, or_self, and_self, ne_eq, not_false_eq_true, not_true_eq_false, eq_self, Nat.le_refl, Nat.zero_le, zr_eI, zr_eL, zr_eR, zr_pI, zr_pL, zr_pR, zr_pO, zr_pV, zq_pA0, zq_pA, zr_get, zr_put_n, zr_put, zr_rem_n, zr_rem, zr_cat_i, zr_cat_l, zr_cat_q, zr_w_n, zr_w, zr_args_n, zr_args, zr_tl_s, zr_tl_n, zq_hIsI, zq_hLsL, zq_hRsR, zq_hIsL, zq_hIsR, zq_hLsI, zq_hLsR, zq_hRsI, zq_hRsL, zq_hNsI, zq_hNsL, zq_hNsR, zq_hZsI, zq_hZsL, zq_hZsR, b2_01, Classical.not_not, Int32.toInt_toInt64, Int64.reduceToInt, zc_1000, zc_100, zc_10, zc_9, zc_2, ci_f, a1, k1, a2, k2, a3, k3, a4, k4, a5, k5, a6, k6, a7, k7, a8, k8]
  refine ⟨by exact vp_in_nI (by omega) (by omega), ?_⟩
  refine ⟨by exact vp_in_nI (by omega) (by omega), ?_⟩
  refine cpx (by omega) lk_L_75 (rc_13 rfl) (c_suspect l G _ (by omega) (0, nI (o_W S)) S h C inv _ _) (by omega) (by omega) (fun r1 h1 g1 => ?_)
  obtain ⟨rfl, C1, m1⟩ := g1
  have e1 : mv h1 = S := m1.mv.trans e
  have M1 := m1.mr M
  simp only [zr_T, zr_aload_n0, zr_aload_n2, zr_cP_eq, zr_call0, zr_iadd, zr_iald1, zr_icmp, zr_iconst, zr_iload_n3, zr_iret, zr_rt_a, zr_rt_i, zr_rt_l, zr_rt_n, zr_rt_z, zr_nil, zr_cons, ↓reduceIte, Nat.reduceAdd, Nat.reduceEqDiff, Nat.reduceLeDiff, Nat.reduceMul, Nat.reduceSub, Int32.reduceOfInt, Int64.reduceOfInt, Int64.reduceOfNat, true_and, and_true, false_and, and_false, or_false, false_or, true_or, or_true, Int.reduceEq, reduceCtorEq, or_self, and_self, ne_eq, not_false_eq_true, not_true_eq_false, eq_self, Nat.le_refl, Nat.zero_le, zr_eI, zr_eL, zr_eR, zr_pI, zr_pL, zr_pR, zr_pO, zr_pV, zq_pA0, zq_pA, zr_get, zr_put_n, zr_put, zr_rem_n, zr_rem, zr_cat_i, zr_cat_l, zr_cat_q, zr_w_n, zr_w, zr_args_n, zr_args, zr_tl_s, zr_tl_n, zq_hIsI, zq_hLsL, zq_hRsR, zq_hIsL, zq_hIsR, zq_hLsI, zq_hLsR, zq_hRsI, zq_hRsL, zq_hNsI, zq_hNsL, zq_hNsR, zq_hZsI, zq_hZsL, zq_hZsR, b2_01, Classical.not_not, Int32.toInt_toInt64, Int64.reduceToInt, zc_1000, zc_100, zc_10, zc_9, zc_2, ci_f, a1, k1, a2, k2, a3, k3, a4, k4, a5, k5, a6, k6, a7, k7, a8, k8]
  refine ⟨by exact vp_in_nI (by omega) (by omega), ?_⟩
  refine ⟨by exact vp_in_nI (by omega) (by omega), ?_⟩
  refine cpx (by omega) lk_L_78 (rc_14 rfl) (m_suspect l G _ (by omega) S h1 e1 M1 inv _ _) (by omega) (by omega) (fun r2 h2 g2 => ?_)
  obtain ⟨rfl, e2, s2, M2⟩ := g2
  simp only [zr_T, zr_cP_eq, zr_icmp, zr_iconst, zr_iret, zr_rt_a, zr_rt_i, zr_rt_l, zr_rt_n, zr_rt_z, zr_nil, zr_cons, ↓reduceIte, Nat.reduceAdd, Nat.reduceEqDiff, Nat.reduceLeDiff, Nat.reduceMul, Nat.reduceSub, Int32.reduceOfInt, Int64.reduceOfInt, Int64.reduceOfNat, true_and, and_true, false_and, and_false, or_false, false_or, true_or, or_true, Int.reduceEq, reduceCtorEq, or_self, and_self, ne_eq, not_false_eq_true, not_true_eq_false, eq_self, Nat.le_refl, Nat.zero_le, zr_eI, zr_eL, zr_eR, zr_pI, zr_pL, zr_pR, zr_pO, zr_pV, zq_pA0, zq_pA, zr_get, zr_put_n, zr_put, zr_rem_n, zr_rem, zr_cat_i, zr_cat_l, zr_cat_q, zr_w_n, zr_w, zr_args_n, zr_args, zr_tl_s, zr_tl_n, zq_hIsI, zq_hLsL, zq_hRsR, zq_hIsL, zq_hIsR, zq_hLsI, zq_hLsR, zq_hRsI, zq_hRsL, zq_hNsI, zq_hNsL, zq_hNsR, zq_hZsI, zq_hZsL, zq_hZsR, b2_01, Classical.not_not, Int32.toInt_toInt64, Int64.reduceToInt, zc_1000, zc_100, zc_10, zc_9, zc_2, ci_f, a1, k1, a2, k2, a3, k3, a4, k4, a5, k5, a6, k6, a7, k7, a8, k8]
  refine ⟨fun qc1 => ?_, fun qc1 => ?_⟩
  · try simp only [b2_0, Classical.not_not] at qc1
    try simp only [Int64.le_iff_toInt_le, Int64.lt_iff_toInt_lt, Int32.lt_iff_toInt_lt, Int32.le_iff_toInt_le, Int32.toInt_toInt64, Int64.reduceToInt, Int32.reduceToInt, Int.reduceNeg, Classical.not_not, i32e, l_add] at qc1
    all_goals
      exact K _ _ _ _ (LI.mk C1 s2 e2 M2 inv rfl (by omega) (by omega))
  · try simp only [b2_0, Classical.not_not] at qc1
    try simp only [Int64.le_iff_toInt_le, Int64.lt_iff_toInt_lt, Int32.lt_iff_toInt_lt, Int32.le_iff_toInt_le, Int32.toInt_toInt64, Int64.reduceToInt, Int32.reduceToInt, Int.reduceNeg, Classical.not_not, i32e, l_add] at qc1
    all_goals
      contradiction
set_option maxRecDepth 4000 in
theorem lc_mend {l : Launch} {G : z_G} {A : Nat → z_K} (st : LawSt l G A) {j : Nat} {S : z_M} {h : z_H} {ce sl : Nat} (hj : 9 * j + 9 ≤ gL G) (hL : gL G ≤ 4608) (I : LI j S h ce sl) (K : LK A j) : A 804 [(0, z_r 400 0), (1, z_r 13 0), (2, z_r 14 0), (3, z_i (nI (9 * j)))] [] h ce sl := by
  obtain ⟨C, e, M, inv, c1, c2⟩ := I
  have hWd : o_W S = o_wt (mA S 42) (nO S) := rfl
  have a1 : nI (9 * j) + 1 = nI (9 * j + 1) := nI_add (9 * j) 1
  have k1 := nI_clampS (show 9 * j + 1 < 2000000000 by omega)
  have a2 : nI (9 * j) + 2 = nI (9 * j + 2) := nI_add (9 * j) 2
  have k2 := nI_clampS (show 9 * j + 2 < 2000000000 by omega)
  have a3 : nI (9 * j) + 3 = nI (9 * j + 3) := nI_add (9 * j) 3
  have k3 := nI_clampS (show 9 * j + 3 < 2000000000 by omega)
  have a4 : nI (9 * j) + 4 = nI (9 * j + 4) := nI_add (9 * j) 4
  have k4 := nI_clampS (show 9 * j + 4 < 2000000000 by omega)
  have a5 : nI (9 * j) + 5 = nI (9 * j + 5) := nI_add (9 * j) 5
  have k5 := nI_clampS (show 9 * j + 5 < 2000000000 by omega)
  have a6 : nI (9 * j) + 6 = nI (9 * j + 6) := nI_add (9 * j) 6
  have k6 := nI_clampS (show 9 * j + 6 < 2000000000 by omega)
  have a7 : nI (9 * j) + 7 = nI (9 * j + 7) := nI_add (9 * j) 7
  have k7 := nI_clampS (show 9 * j + 7 < 2000000000 by omega)
  have a8 : nI (9 * j) + 8 = nI (9 * j + 8) := nI_add (9 * j) 8
  have k8 := nI_clampS (show 9 * j + 8 < 2000000000 by omega)
  refine st b_L_law_804 _ _ k_L_law_804 _ _ _ _ _ ?_
  simp only [b_L_law_804, zr_T, zr_aload_n0, zr_aload_n1, zr_aload_n2, zr_cP_eq, zr_call0, zr_iadd, zr_iald1, zr_icmp, zr_iconst, zr_iload_n3, zr_iret, zr_rt_a, zr_rt_i, zr_rt_l, zr_rt_n, zr_rt_z, zr_nil, zr_cons, ↓reduceIte, Nat.reduceAdd, Nat.reduceEqDiff, Nat.reduceLeDiff, Nat.reduceMul, Nat.reduceSub, Int32.reduceOfInt, Int64.reduceOfInt, Int64.reduceOfNat, true_and, and_true, false_and, and_false, or_false, false_or, true_or, or_true, Int.reduceEq, reduceCtorEq, or_self, and_self, ne_eq, not_false_eq_true, not_true_eq_false, eq_self, Nat.le_refl, Nat.zero_le, zr_eI, zr_eL, zr_eR, zr_pI, zr_pL, zr_pR, zr_pO, zr_pV, zq_pA0, zq_pA, zr_get, zr_put_n, zr_put, zr_rem_n, zr_rem, zr_cat_i, zr_cat_l, zr_cat_q, zr_w_n, zr_w, zr_args_n, zr_args, zr_tl_s, zr_tl_n, zq_hIsI, zq_hLsL, zq_hRsR, zq_hIsL, zq_hIsR, zq_hLsI, zq_hLsR, zq_hRsI, zq_hRsL, zq_hNsI, zq_hNsL, zq_hNsR, zq_hZsI, zq_hZsL, zq_hZsR, b2_01, Classical.not_not, Int32.toInt_toInt64, Int64.reduceToInt, zc_1000, zc_100, zc_10, zc_9, zc_2, ci_f, a1, k1, a2, k2, a3, k3, a4, k4, a5, k5, a6, k6, a7, k7, a8, k8]
  refine ⟨by exact vp_in_nI (by omega) (by omega), ?_⟩
  refine cpx (by omega) lk_L_79 (rc_13 rfl) (c_mend l G _ (by omega) (0, nI (o_W S)) S h C inv rfl _) (by omega) (by omega) (fun r1 h1 g1 => ?_)
  obtain ⟨rfl, C1, m1⟩ := g1
  have e1 : mv h1 = S := m1.mv.trans e
  have M1 := m1.mr M
  simp only [zr_T, zr_aload_n0, zr_aload_n2, zr_cP_eq, zr_call0, zr_iadd, zr_iald1, zr_icmp, zr_iconst, zr_iload_n3, zr_iret, zr_rt_a, zr_rt_i, zr_rt_l, zr_rt_n, zr_rt_z, zr_nil, zr_cons, ↓reduceIte, Nat.reduceAdd, Nat.reduceEqDiff, Nat.reduceLeDiff, Nat.reduceMul, Nat.reduceSub, Int32.reduceOfInt, Int64.reduceOfInt, Int64.reduceOfNat, true_and, and_true, false_and, and_false, or_false, false_or, true_or, or_true, Int.reduceEq, reduceCtorEq, or_self, and_self, ne_eq, not_false_eq_true, not_true_eq_false, eq_self, Nat.le_refl, Nat.zero_le, zr_eI, zr_eL, zr_eR, zr_pI, zr_pL, zr_pR, zr_pO, zr_pV, zq_pA0, zq_pA, zr_get, zr_put_n, zr_put, zr_rem_n, zr_rem, zr_cat_i, zr_cat_l, zr_cat_q, zr_w_n, zr_w, zr_args_n, zr_args, zr_tl_s, zr_tl_n, zq_hIsI, zq_hLsL, zq_hRsR, zq_hIsL, zq_hIsR, zq_hLsI, zq_hLsR, zq_hRsI, zq_hRsL, zq_hNsI, zq_hNsL, zq_hNsR, zq_hZsI, zq_hZsL, zq_hZsR, b2_01, Classical.not_not, Int32.toInt_toInt64, Int64.reduceToInt, zc_1000, zc_100, zc_10, zc_9, zc_2, ci_f, a1, k1, a2, k2, a3, k3, a4, k4, a5, k5, a6, k6, a7, k7, a8, k8]
  refine ⟨by exact vp_in_nI (by omega) (by omega), ?_⟩
  refine cpx (by omega) lk_L_83 (rc_14 rfl) (m_mend l G _ (by omega) S h1 e1 M1 inv _) (by omega) (by omega) (fun r2 h2 g2 => ?_)
  obtain ⟨rfl, e2, s2, M2⟩ := g2
  simp only [zr_T, zr_cP_eq, zr_icmp, zr_iconst, zr_iret, zr_rt_a, zr_rt_i, zr_rt_l, zr_rt_n, zr_rt_z, zr_nil, zr_cons, ↓reduceIte, Nat.reduceAdd, Nat.reduceEqDiff, Nat.reduceLeDiff, Nat.reduceMul, Nat.reduceSub, Int32.reduceOfInt, Int64.reduceOfInt, Int64.reduceOfNat, true_and, and_true, false_and, and_false, or_false, false_or, true_or, or_true, Int.reduceEq, reduceCtorEq, or_self, and_self, ne_eq, not_false_eq_true, not_true_eq_false, eq_self, Nat.le_refl, Nat.zero_le, zr_eI, zr_eL, zr_eR, zr_pI, zr_pL, zr_pR, zr_pO, zr_pV, zq_pA0, zq_pA, zr_get, zr_put_n, zr_put, zr_rem_n, zr_rem, zr_cat_i, zr_cat_l, zr_cat_q, zr_w_n, zr_w, zr_args_n, zr_args, zr_tl_s, zr_tl_n, zq_hIsI, zq_hLsL, zq_hRsR, zq_hIsL, zq_hIsR, zq_hLsI, zq_hLsR, zq_hRsI, zq_hRsL, zq_hNsI, zq_hNsL, zq_hNsR, zq_hZsI, zq_hZsL, zq_hZsR, b2_01, Classical.not_not, Int32.toInt_toInt64, Int64.reduceToInt, zc_1000, zc_100, zc_10, zc_9, zc_2, ci_f, a1, k1, a2, k2, a3, k3, a4, k4, a5, k5, a6, k6, a7, k7, a8, k8]
  refine ⟨fun qc1 => ?_, fun qc1 => ?_⟩
  · try simp only [b2_0, Classical.not_not] at qc1
    try simp only [Int64.le_iff_toInt_le, Int64.lt_iff_toInt_lt, Int32.lt_iff_toInt_lt, Int32.le_iff_toInt_le, Int32.toInt_toInt64, Int64.reduceToInt, Int32.reduceToInt, Int.reduceNeg, Classical.not_not, i32e, l_add] at qc1
    all_goals
      exact K _ _ _ _ (LI.mk C1 s2 e2 M2 (inv_mend inv _) (w_mend _) (by omega) (by omega))
  · try simp only [b2_0, Classical.not_not] at qc1
    try simp only [Int64.le_iff_toInt_le, Int64.lt_iff_toInt_lt, Int32.lt_iff_toInt_lt, Int32.le_iff_toInt_le, Int32.toInt_toInt64, Int64.reduceToInt, Int32.reduceToInt, Int.reduceNeg, Classical.not_not, i32e, l_add] at qc1
    all_goals
      contradiction
set_option maxRecDepth 4000 in
theorem lc_weighed {l : Launch} {G : z_G} {A : Nat → z_K} (st : LawSt l G A) {j : Nat} {S : z_M} {h : z_H} {ce sl : Nat} (hj : 9 * j + 9 ≤ gL G) (hL : gL G ≤ 4608) (I : LI j S h ce sl) (K : LK A j) : A 827 [(0, z_r 400 0), (1, z_r 13 0), (2, z_r 14 0), (3, z_i (nI (9 * j)))] [] h ce sl := by
  obtain ⟨C, e, M, inv, c1, c2⟩ := I
  have hWd : o_W S = o_wt (mA S 42) (nO S) := rfl
  have a1 : nI (9 * j) + 1 = nI (9 * j + 1) := nI_add (9 * j) 1
  have k1 := nI_clampS (show 9 * j + 1 < 2000000000 by omega)
  have a2 : nI (9 * j) + 2 = nI (9 * j + 2) := nI_add (9 * j) 2
  have k2 := nI_clampS (show 9 * j + 2 < 2000000000 by omega)
  have a3 : nI (9 * j) + 3 = nI (9 * j + 3) := nI_add (9 * j) 3
  have k3 := nI_clampS (show 9 * j + 3 < 2000000000 by omega)
  have a4 : nI (9 * j) + 4 = nI (9 * j + 4) := nI_add (9 * j) 4
  have k4 := nI_clampS (show 9 * j + 4 < 2000000000 by omega)
  have a5 : nI (9 * j) + 5 = nI (9 * j + 5) := nI_add (9 * j) 5
  have k5 := nI_clampS (show 9 * j + 5 < 2000000000 by omega)
  have a6 : nI (9 * j) + 6 = nI (9 * j + 6) := nI_add (9 * j) 6
  have k6 := nI_clampS (show 9 * j + 6 < 2000000000 by omega)
  have a7 : nI (9 * j) + 7 = nI (9 * j + 7) := nI_add (9 * j) 7
  have k7 := nI_clampS (show 9 * j + 7 < 2000000000 by omega)
  have a8 : nI (9 * j) + 8 = nI (9 * j + 8) := nI_add (9 * j) 8
  have k8 := nI_clampS (show 9 * j + 8 < 2000000000 by omega)
  refine st b_L_law_827 _ _ k_L_law_827 _ _ _ _ _ ?_
  simp only [b_L_law_827, lg_cmp_eq, lg_cmp_ge, lg_cmp_gt, lg_cmp_le, lg_cmp_lt, zr_T, zr_aload_n0, zr_aload_n1, zr_aload_n2, zr_cP_eq, zr_call0, zr_iadd, zr_iald1, zr_iconst, zr_ifc, zr_iload_n3, zr_iret, zr_lcmp, zr_rt_a, zr_rt_i, zr_rt_l, zr_rt_n, zr_rt_z, zr_nil, zr_cons, ↓reduceIte, Nat.reduceAdd, Nat.reduceEqDiff, Nat.reduceLeDiff, Nat.reduceMul, Nat.reduceSub, Int32.reduceOfInt, Int64.reduceOfInt, Int64.reduceOfNat, true_and, and_true, false_and, and_false, or_false, false_or, true_or, or_true, Int.reduceEq, reduceCtorEq, or_self, and_self, ne_eq, not_false_eq_true, not_true_eq_false, eq_self, Nat.le_refl, Nat.zero_le, zr_eI, zr_eL, zr_eR, zr_pI, zr_pL, zr_pR, zr_pO, zr_pV, zq_pA0, zq_pA, zr_get, zr_put_n, zr_put, zr_rem_n, zr_rem, zr_cat_i, zr_cat_l, zr_cat_q, zr_w_n, zr_w, zr_args_n, zr_args, zr_tl_s, zr_tl_n, zq_hIsI, zq_hLsL, zq_hRsR, zq_hIsL, zq_hIsR, zq_hLsI, zq_hLsR, zq_hRsI, zq_hRsL, zq_hNsI, zq_hNsL, zq_hNsR, zq_hZsI, zq_hZsL, zq_hZsR, b2_01, Classical.not_not, Int32.toInt_toInt64, Int64.reduceToInt, zc_1000, zc_100, zc_10, zc_9, zc_2, ci_f, a1, k1, a2, k2, a3, k3, a4, k4, a5, k5, a6, k6, a7, k7, a8, k8]
  refine ⟨by exact vp_in_nI (by omega) (by omega), ?_⟩
  refine ⟨by exact vp_in_nI (by omega) (by omega), ?_⟩
  refine ⟨by exact vp_in_nI (by omega) (by omega), ?_⟩
  refine cpx (by omega) lk_L_84 (rc_13 rfl) (c_weighed l G _ (by omega) (0, nI (o_W S)) S h C inv _ _ _) (by omega) (by omega) (fun r1 h1 g1 => ?_)
  obtain ⟨rfl, C1, m1⟩ := g1
  have e1 : mv h1 = S := m1.mv.trans e
  have M1 := m1.mr M
  simp only [lg_cmp_eq, lg_cmp_ge, lg_cmp_gt, lg_cmp_le, lg_cmp_lt, zr_T, zr_aload_n0, zr_aload_n2, zr_cP_eq, zr_call0, zr_iadd, zr_iald1, zr_iconst, zr_ifc, zr_iload_n3, zr_iret, zr_lcmp, zr_rt_a, zr_rt_i, zr_rt_l, zr_rt_n, zr_rt_z, zr_nil, zr_cons, ↓reduceIte, Nat.reduceAdd, Nat.reduceEqDiff, Nat.reduceLeDiff, Nat.reduceMul, Nat.reduceSub, Int32.reduceOfInt, Int64.reduceOfInt, Int64.reduceOfNat, true_and, and_true, false_and, and_false, or_false, false_or, true_or, or_true, Int.reduceEq, reduceCtorEq, or_self, and_self, ne_eq, not_false_eq_true, not_true_eq_false, eq_self, Nat.le_refl, Nat.zero_le, zr_eI, zr_eL, zr_eR, zr_pI, zr_pL, zr_pR, zr_pO, zr_pV, zq_pA0, zq_pA, zr_get, zr_put_n, zr_put, zr_rem_n, zr_rem, zr_cat_i, zr_cat_l, zr_cat_q, zr_w_n, zr_w, zr_args_n, zr_args, zr_tl_s, zr_tl_n, zq_hIsI, zq_hLsL, zq_hRsR, zq_hIsL, zq_hIsR, zq_hLsI, zq_hLsR, zq_hRsI, zq_hRsL, zq_hNsI, zq_hNsL, zq_hNsR, zq_hZsI, zq_hZsL, zq_hZsR, b2_01, Classical.not_not, Int32.toInt_toInt64, Int64.reduceToInt, zc_1000, zc_100, zc_10, zc_9, zc_2, ci_f, a1, k1, a2, k2, a3, k3, a4, k4, a5, k5, a6, k6, a7, k7, a8, k8]
  refine ⟨by exact vp_in_nI (by omega) (by omega), ?_⟩
  refine ⟨by exact vp_in_nI (by omega) (by omega), ?_⟩
  refine ⟨by exact vp_in_nI (by omega) (by omega), ?_⟩
  refine cpx (by omega) lk_L_88 (rc_14 rfl) (m_weighed l G _ (by omega) S h1 e1 M1 inv _ _ _) (by omega) (by omega) (fun r2 h2 g2 => ?_)
  obtain ⟨rfl, e2, s2, M2⟩ := g2
  simp only [lg_cmp_eq, lg_cmp_ge, lg_cmp_gt, lg_cmp_le, lg_cmp_lt, zr_T, zr_cP_eq, zr_iconst, zr_ifc, zr_iret, zr_lcmp, zr_rt_a, zr_rt_i, zr_rt_l, zr_rt_n, zr_rt_z, zr_nil, zr_cons, ↓reduceIte, Nat.reduceAdd, Nat.reduceEqDiff, Nat.reduceLeDiff, Nat.reduceMul, Nat.reduceSub, Int32.reduceOfInt, Int64.reduceOfInt, Int64.reduceOfNat, true_and, and_true, false_and, and_false, or_false, false_or, true_or, or_true, Int.reduceEq, reduceCtorEq, or_self, and_self, ne_eq, not_false_eq_true, not_true_eq_false, eq_self, Nat.le_refl, Nat.zero_le, zr_eI, zr_eL, zr_eR, zr_pI, zr_pL, zr_pR, zr_pO, zr_pV, zq_pA0, zq_pA, zr_get, zr_put_n, zr_put, zr_rem_n, zr_rem, zr_cat_i, zr_cat_l, zr_cat_q, zr_w_n, zr_w, zr_args_n, zr_args, zr_tl_s, zr_tl_n, zq_hIsI, zq_hLsL, zq_hRsR, zq_hIsL, zq_hIsR, zq_hLsI, zq_hLsR, zq_hRsI, zq_hRsL, zq_hNsI, zq_hNsL, zq_hNsR, zq_hZsI, zq_hZsL, zq_hZsR, b2_01, Classical.not_not, Int32.toInt_toInt64, Int64.reduceToInt, zc_1000, zc_100, zc_10, zc_9, zc_2, ci_f, a1, k1, a2, k2, a3, k3, a4, k4, a5, k5, a6, k6, a7, k7, a8, k8]
  refine ⟨fun qc1 => ?_, fun qc1 => ?_⟩
  · try simp only [b2_0, Classical.not_not] at qc1
    try simp only [Int64.le_iff_toInt_le, Int64.lt_iff_toInt_lt, Int32.lt_iff_toInt_lt, Int32.le_iff_toInt_le, Int32.toInt_toInt64, Int64.reduceToInt, Int32.reduceToInt, Int.reduceNeg, Classical.not_not, i32e, l_add] at qc1
    all_goals
      exact K _ _ _ _ (LI.mk C1 s2 e2 M2 inv rfl (by omega) (by omega))
  · try simp only [b2_0, Classical.not_not] at qc1
    try simp only [Int64.le_iff_toInt_le, Int64.lt_iff_toInt_lt, Int32.lt_iff_toInt_lt, Int32.le_iff_toInt_le, Int32.toInt_toInt64, Int64.reduceToInt, Int32.reduceToInt, Int.reduceNeg, Classical.not_not, i32e, l_add] at qc1
    all_goals
      contradiction
set_option maxRecDepth 4000 in
theorem lc_loan {l : Launch} {G : z_G} {A : Nat → z_K} (st : LawSt l G A) {j : Nat} {S : z_M} {h : z_H} {ce sl : Nat} (hj : 9 * j + 9 ≤ gL G) (hL : gL G ≤ 4608) (I : LI j S h ce sl) (K : LK A j) : A 871 [(0, z_r 400 0), (1, z_r 13 0), (2, z_r 14 0), (3, z_i (nI (9 * j)))] [] h ce sl := by
  obtain ⟨C, e, M, inv, c1, c2⟩ := I
  have hWd : o_W S = o_wt (mA S 42) (nO S) := rfl
  have a1 : nI (9 * j) + 1 = nI (9 * j + 1) := nI_add (9 * j) 1
  have k1 := nI_clampS (show 9 * j + 1 < 2000000000 by omega)
  have a2 : nI (9 * j) + 2 = nI (9 * j + 2) := nI_add (9 * j) 2
  have k2 := nI_clampS (show 9 * j + 2 < 2000000000 by omega)
  have a3 : nI (9 * j) + 3 = nI (9 * j + 3) := nI_add (9 * j) 3
  have k3 := nI_clampS (show 9 * j + 3 < 2000000000 by omega)
  have a4 : nI (9 * j) + 4 = nI (9 * j + 4) := nI_add (9 * j) 4
  have k4 := nI_clampS (show 9 * j + 4 < 2000000000 by omega)
  have a5 : nI (9 * j) + 5 = nI (9 * j + 5) := nI_add (9 * j) 5
  have k5 := nI_clampS (show 9 * j + 5 < 2000000000 by omega)
  have a6 : nI (9 * j) + 6 = nI (9 * j + 6) := nI_add (9 * j) 6
  have k6 := nI_clampS (show 9 * j + 6 < 2000000000 by omega)
  have a7 : nI (9 * j) + 7 = nI (9 * j + 7) := nI_add (9 * j) 7
  have k7 := nI_clampS (show 9 * j + 7 < 2000000000 by omega)
  have a8 : nI (9 * j) + 8 = nI (9 * j + 8) := nI_add (9 * j) 8
  have k8 := nI_clampS (show 9 * j + 8 < 2000000000 by omega)
  refine st b_L_law_871 _ _ k_L_law_871 _ _ _ _ _ ?_
  simp only [b_L_law_871, zr_T, zr_aload_n0, zr_aload_n1, zr_aload_n2, zr_cP_eq, zr_call0, zr_iadd, zr_iald1, zr_icmp, zr_iconst, zr_iload_n3, zr_iret, zr_rt_a, zr_rt_i, zr_rt_l, zr_rt_n, zr_rt_z, zr_nil, zr_cons, ↓reduceIte, Nat.reduceAdd, Nat.reduceEqDiff, Nat.reduceLeDiff, Nat.reduceMul, Nat.reduceSub, Int32.reduceOfInt, Int64.reduceOfInt, Int64.reduceOfNat, true_and, and_true, false_and, and_false, or_false, false_or, true_or, or_true, Int.reduceEq, reduceCtorEq, or_self, and_self, ne_eq, not_false_eq_true, not_true_eq_false, eq_self, Nat.le_refl, Nat.zero_le, zr_eI, zr_eL, zr_eR, zr_pI, zr_pL, zr_pR, zr_pO, zr_pV, zq_pA0, zq_pA, zr_get, zr_put_n, zr_put, zr_rem_n, zr_rem, zr_cat_i, zr_cat_l, zr_cat_q, zr_w_n, zr_w, zr_args_n, zr_args, zr_tl_s, zr_tl_n, zq_hIsI, zq_hLsL, zq_hRsR, zq_hIsL, zq_hIsR, zq_hLsI, zq_hLsR, zq_hRsI, zq_hRsL, zq_hNsI, zq_hNsL, zq_hNsR, zq_hZsI, zq_hZsL, zq_hZsR, b2_01, Classical.not_not, Int32.toInt_toInt64, Int64.reduceToInt, zc_1000, zc_100, zc_10, zc_9, zc_2, ci_f, a1, k1, a2, k2, a3, k3, a4, k4, a5, k5, a6, k6, a7, k7, a8, k8]
  refine ⟨by exact vp_in_nI (by omega) (by omega), ?_⟩
  refine ⟨by exact vp_in_nI (by omega) (by omega), ?_⟩
  refine ⟨by exact vp_in_nI (by omega) (by omega), ?_⟩
  refine cpx (by omega) lk_L_89 (rc_13 rfl) (c_loan l G _ (by omega) (0, nI (o_W S)) S h C inv _ _ _) (by omega) (by omega) (fun r1 h1 g1 => ?_)
  obtain ⟨rfl, C1, m1⟩ := g1
  have e1 : mv h1 = S := m1.mv.trans e
  have M1 := m1.mr M
  simp only [zr_T, zr_aload_n0, zr_aload_n2, zr_cP_eq, zr_call0, zr_iadd, zr_iald1, zr_icmp, zr_iconst, zr_iload_n3, zr_iret, zr_rt_a, zr_rt_i, zr_rt_l, zr_rt_n, zr_rt_z, zr_nil, zr_cons, ↓reduceIte, Nat.reduceAdd, Nat.reduceEqDiff, Nat.reduceLeDiff, Nat.reduceMul, Nat.reduceSub, Int32.reduceOfInt, Int64.reduceOfInt, Int64.reduceOfNat, true_and, and_true, false_and, and_false, or_false, false_or, true_or, or_true, Int.reduceEq, reduceCtorEq, or_self, and_self, ne_eq, not_false_eq_true, not_true_eq_false, eq_self, Nat.le_refl, Nat.zero_le, zr_eI, zr_eL, zr_eR, zr_pI, zr_pL, zr_pR, zr_pO, zr_pV, zq_pA0, zq_pA, zr_get, zr_put_n, zr_put, zr_rem_n, zr_rem, zr_cat_i, zr_cat_l, zr_cat_q, zr_w_n, zr_w, zr_args_n, zr_args, zr_tl_s, zr_tl_n, zq_hIsI, zq_hLsL, zq_hRsR, zq_hIsL, zq_hIsR, zq_hLsI, zq_hLsR, zq_hRsI, zq_hRsL, zq_hNsI, zq_hNsL, zq_hNsR, zq_hZsI, zq_hZsL, zq_hZsR, b2_01, Classical.not_not, Int32.toInt_toInt64, Int64.reduceToInt, zc_1000, zc_100, zc_10, zc_9, zc_2, ci_f, a1, k1, a2, k2, a3, k3, a4, k4, a5, k5, a6, k6, a7, k7, a8, k8]
  refine ⟨by exact vp_in_nI (by omega) (by omega), ?_⟩
  refine ⟨by exact vp_in_nI (by omega) (by omega), ?_⟩
  refine ⟨by exact vp_in_nI (by omega) (by omega), ?_⟩
  refine cpx (by omega) lk_L_92 (rc_14 rfl) (m_loan l G _ (by omega) S h1 e1 M1 inv _ _ _) (by omega) (by omega) (fun r2 h2 g2 => ?_)
  obtain ⟨rfl, e2, s2, M2⟩ := g2
  simp only [zr_T, zr_cP_eq, zr_icmp, zr_iconst, zr_iret, zr_rt_a, zr_rt_i, zr_rt_l, zr_rt_n, zr_rt_z, zr_nil, zr_cons, ↓reduceIte, Nat.reduceAdd, Nat.reduceEqDiff, Nat.reduceLeDiff, Nat.reduceMul, Nat.reduceSub, Int32.reduceOfInt, Int64.reduceOfInt, Int64.reduceOfNat, true_and, and_true, false_and, and_false, or_false, false_or, true_or, or_true, Int.reduceEq, reduceCtorEq, or_self, and_self, ne_eq, not_false_eq_true, not_true_eq_false, eq_self, Nat.le_refl, Nat.zero_le, zr_eI, zr_eL, zr_eR, zr_pI, zr_pL, zr_pR, zr_pO, zr_pV, zq_pA0, zq_pA, zr_get, zr_put_n, zr_put, zr_rem_n, zr_rem, zr_cat_i, zr_cat_l, zr_cat_q, zr_w_n, zr_w, zr_args_n, zr_args, zr_tl_s, zr_tl_n, zq_hIsI, zq_hLsL, zq_hRsR, zq_hIsL, zq_hIsR, zq_hLsI, zq_hLsR, zq_hRsI, zq_hRsL, zq_hNsI, zq_hNsL, zq_hNsR, zq_hZsI, zq_hZsL, zq_hZsR, b2_01, Classical.not_not, Int32.toInt_toInt64, Int64.reduceToInt, zc_1000, zc_100, zc_10, zc_9, zc_2, ci_f, a1, k1, a2, k2, a3, k3, a4, k4, a5, k5, a6, k6, a7, k7, a8, k8]
  refine ⟨fun qc1 => ?_, fun qc1 => ?_⟩
  · try simp only [b2_0, Classical.not_not] at qc1
    try simp only [Int64.le_iff_toInt_le, Int64.lt_iff_toInt_lt, Int32.lt_iff_toInt_lt, Int32.le_iff_toInt_le, Int32.toInt_toInt64, Int64.reduceToInt, Int32.reduceToInt, Int.reduceNeg, Classical.not_not, i32e, l_add] at qc1
    all_goals
      exact K _ _ _ _ (LI.mk C1 s2 e2 M2 (inv_loan inv _ _ _) (w_loan _ _ _) (by omega) (by omega))
  · try simp only [b2_0, Classical.not_not] at qc1
    try simp only [Int64.le_iff_toInt_le, Int64.lt_iff_toInt_lt, Int32.lt_iff_toInt_lt, Int32.le_iff_toInt_le, Int32.toInt_toInt64, Int64.reduceToInt, Int32.reduceToInt, Int.reduceNeg, Classical.not_not, i32e, l_add] at qc1
    all_goals
      contradiction
set_option maxRecDepth 4000 in
theorem lc_tell {l : Launch} {G : z_G} {A : Nat → z_K} (st : LawSt l G A) {j : Nat} {S : z_M} {h : z_H} {ce sl : Nat} (hj : 9 * j + 9 ≤ gL G) (hL : gL G ≤ 4608) (I : LI j S h ce sl) (K : LK A j) : A 914 [(0, z_r 400 0), (1, z_r 13 0), (2, z_r 14 0), (3, z_i (nI (9 * j)))] [] h ce sl := by
  obtain ⟨C, e, M, inv, c1, c2⟩ := I
  have hWd : o_W S = o_wt (mA S 42) (nO S) := rfl
  have a1 : nI (9 * j) + 1 = nI (9 * j + 1) := nI_add (9 * j) 1
  have k1 := nI_clampS (show 9 * j + 1 < 2000000000 by omega)
  have a2 : nI (9 * j) + 2 = nI (9 * j + 2) := nI_add (9 * j) 2
  have k2 := nI_clampS (show 9 * j + 2 < 2000000000 by omega)
  have a3 : nI (9 * j) + 3 = nI (9 * j + 3) := nI_add (9 * j) 3
  have k3 := nI_clampS (show 9 * j + 3 < 2000000000 by omega)
  have a4 : nI (9 * j) + 4 = nI (9 * j + 4) := nI_add (9 * j) 4
  have k4 := nI_clampS (show 9 * j + 4 < 2000000000 by omega)
  have a5 : nI (9 * j) + 5 = nI (9 * j + 5) := nI_add (9 * j) 5
  have k5 := nI_clampS (show 9 * j + 5 < 2000000000 by omega)
  have a6 : nI (9 * j) + 6 = nI (9 * j + 6) := nI_add (9 * j) 6
  have k6 := nI_clampS (show 9 * j + 6 < 2000000000 by omega)
  have a7 : nI (9 * j) + 7 = nI (9 * j + 7) := nI_add (9 * j) 7
  have k7 := nI_clampS (show 9 * j + 7 < 2000000000 by omega)
  have a8 : nI (9 * j) + 8 = nI (9 * j + 8) := nI_add (9 * j) 8
  have k8 := nI_clampS (show 9 * j + 8 < 2000000000 by omega)
  refine st b_L_law_914 _ _ k_L_law_914 _ _ _ _ _ ?_
  simp only [b_L_law_914, zr_T, zr_aload_n0, zr_aload_n1, zr_aload_n2, zr_cP_eq, zr_call0, zr_iadd, zr_iald1, zr_icmp, zr_iconst, zr_iload_n3, zr_iret, zr_rt_a, zr_rt_i, zr_rt_l, zr_rt_n, zr_rt_z, zr_nil, zr_cons, ↓reduceIte, Nat.reduceAdd, Nat.reduceEqDiff, Nat.reduceLeDiff, Nat.reduceMul, Nat.reduceSub, Int32.reduceOfInt, Int64.reduceOfInt, Int64.reduceOfNat, true_and, and_true, false_and, and_false, or_false, false_or, true_or, or_true, Int.reduceEq, reduceCtorEq, or_self, and_self, ne_eq, not_false_eq_true, not_true_eq_false, eq_self, Nat.le_refl, Nat.zero_le, zr_eI, zr_eL, zr_eR, zr_pI, zr_pL, zr_pR, zr_pO, zr_pV, zq_pA0, zq_pA, zr_get, zr_put_n, zr_put, zr_rem_n, zr_rem, zr_cat_i, zr_cat_l, zr_cat_q, zr_w_n, zr_w, zr_args_n, zr_args, zr_tl_s, zr_tl_n, zq_hIsI, zq_hLsL, zq_hRsR, zq_hIsL, zq_hIsR, zq_hLsI, zq_hLsR, zq_hRsI, zq_hRsL, zq_hNsI, zq_hNsL, zq_hNsR, zq_hZsI, zq_hZsL, zq_hZsR, b2_01, Classical.not_not, Int32.toInt_toInt64, Int64.reduceToInt, zc_1000, zc_100, zc_10, zc_9, zc_2, ci_f, a1, k1, a2, k2, a3, k3, a4, k4, a5, k5, a6, k6, a7, k7, a8, k8]
  refine ⟨by exact vp_in_nI (by omega) (by omega), ?_⟩
  refine ⟨by exact vp_in_nI (by omega) (by omega), ?_⟩
  refine cpx (by omega) lk_L_93 (rc_13 rfl) (c_tell l G _ (by omega) (0, nI (o_W S)) S h C inv _ _) (by omega) (by omega) (fun r1 h1 g1 => ?_)
  obtain ⟨rfl, C1, m1⟩ := g1
  have e1 : mv h1 = S := m1.mv.trans e
  have M1 := m1.mr M
  simp only [zr_T, zr_aload_n0, zr_aload_n2, zr_cP_eq, zr_call0, zr_iadd, zr_iald1, zr_icmp, zr_iconst, zr_iload_n3, zr_iret, zr_rt_a, zr_rt_i, zr_rt_l, zr_rt_n, zr_rt_z, zr_nil, zr_cons, ↓reduceIte, Nat.reduceAdd, Nat.reduceEqDiff, Nat.reduceLeDiff, Nat.reduceMul, Nat.reduceSub, Int32.reduceOfInt, Int64.reduceOfInt, Int64.reduceOfNat, true_and, and_true, false_and, and_false, or_false, false_or, true_or, or_true, Int.reduceEq, reduceCtorEq, or_self, and_self, ne_eq, not_false_eq_true, not_true_eq_false, eq_self, Nat.le_refl, Nat.zero_le, zr_eI, zr_eL, zr_eR, zr_pI, zr_pL, zr_pR, zr_pO, zr_pV, zq_pA0, zq_pA, zr_get, zr_put_n, zr_put, zr_rem_n, zr_rem, zr_cat_i, zr_cat_l, zr_cat_q, zr_w_n, zr_w, zr_args_n, zr_args, zr_tl_s, zr_tl_n, zq_hIsI, zq_hLsL, zq_hRsR, zq_hIsL, zq_hIsR, zq_hLsI, zq_hLsR, zq_hRsI, zq_hRsL, zq_hNsI, zq_hNsL, zq_hNsR, zq_hZsI, zq_hZsL, zq_hZsR, b2_01, Classical.not_not, Int32.toInt_toInt64, Int64.reduceToInt, zc_1000, zc_100, zc_10, zc_9, zc_2, ci_f, a1, k1, a2, k2, a3, k3, a4, k4, a5, k5, a6, k6, a7, k7, a8, k8]
  refine ⟨by exact vp_in_nI (by omega) (by omega), ?_⟩
  refine ⟨by exact vp_in_nI (by omega) (by omega), ?_⟩
  refine cpx (by omega) lk_L_97 (rc_14 rfl) (m_tell l G _ (by omega) S h1 e1 M1 inv _ _) (by omega) (by omega) (fun r2 h2 g2 => ?_)
  obtain ⟨rfl, e2, s2, M2⟩ := g2
  simp only [zr_T, zr_cP_eq, zr_icmp, zr_iconst, zr_iret, zr_rt_a, zr_rt_i, zr_rt_l, zr_rt_n, zr_rt_z, zr_nil, zr_cons, ↓reduceIte, Nat.reduceAdd, Nat.reduceEqDiff, Nat.reduceLeDiff, Nat.reduceMul, Nat.reduceSub, Int32.reduceOfInt, Int64.reduceOfInt, Int64.reduceOfNat, true_and, and_true, false_and, and_false, or_false, false_or, true_or, or_true, Int.reduceEq, reduceCtorEq, or_self, and_self, ne_eq, not_false_eq_true, not_true_eq_false, eq_self, Nat.le_refl, Nat.zero_le, zr_eI, zr_eL, zr_eR, zr_pI, zr_pL, zr_pR, zr_pO, zr_pV, zq_pA0, zq_pA, zr_get, zr_put_n, zr_put, zr_rem_n, zr_rem, zr_cat_i, zr_cat_l, zr_cat_q, zr_w_n, zr_w, zr_args_n, zr_args, zr_tl_s, zr_tl_n, zq_hIsI, zq_hLsL, zq_hRsR, zq_hIsL, zq_hIsR, zq_hLsI, zq_hLsR, zq_hRsI, zq_hRsL, zq_hNsI, zq_hNsL, zq_hNsR, zq_hZsI, zq_hZsL, zq_hZsR, b2_01, Classical.not_not, Int32.toInt_toInt64, Int64.reduceToInt, zc_1000, zc_100, zc_10, zc_9, zc_2, ci_f, a1, k1, a2, k2, a3, k3, a4, k4, a5, k5, a6, k6, a7, k7, a8, k8]
  refine ⟨fun qc1 => ?_, fun qc1 => ?_⟩
  · try simp only [b2_0, Classical.not_not] at qc1
    try simp only [Int64.le_iff_toInt_le, Int64.lt_iff_toInt_lt, Int32.lt_iff_toInt_lt, Int32.le_iff_toInt_le, Int32.toInt_toInt64, Int64.reduceToInt, Int32.reduceToInt, Int.reduceNeg, Classical.not_not, i32e, l_add] at qc1
    all_goals
      exact K _ _ _ _ (LI.mk C1 s2 e2 M2 (inv_tell inv _ _) (w_tell _ _) (by omega) (by omega))
  · try simp only [b2_0, Classical.not_not] at qc1
    try simp only [Int64.le_iff_toInt_le, Int64.lt_iff_toInt_lt, Int32.lt_iff_toInt_lt, Int32.le_iff_toInt_le, Int32.toInt_toInt64, Int64.reduceToInt, Int32.reduceToInt, Int.reduceNeg, Classical.not_not, i32e, l_add] at qc1
    all_goals
      contradiction
set_option maxRecDepth 4000 in
theorem lc_gap {l : Launch} {G : z_G} {A : Nat → z_K} (st : LawSt l G A) {j : Nat} {S : z_M} {h : z_H} {ce sl : Nat} (hj : 9 * j + 9 ≤ gL G) (hL : gL G ≤ 4608) (I : LI j S h ce sl) (K : LK A j) : A 947 [(0, z_r 400 0), (1, z_r 13 0), (2, z_r 14 0), (3, z_i (nI (9 * j)))] [] h ce sl := by
  obtain ⟨C, e, M, inv, c1, c2⟩ := I
  have hWd : o_W S = o_wt (mA S 42) (nO S) := rfl
  have a1 : nI (9 * j) + 1 = nI (9 * j + 1) := nI_add (9 * j) 1
  have k1 := nI_clampS (show 9 * j + 1 < 2000000000 by omega)
  have a2 : nI (9 * j) + 2 = nI (9 * j + 2) := nI_add (9 * j) 2
  have k2 := nI_clampS (show 9 * j + 2 < 2000000000 by omega)
  have a3 : nI (9 * j) + 3 = nI (9 * j + 3) := nI_add (9 * j) 3
  have k3 := nI_clampS (show 9 * j + 3 < 2000000000 by omega)
  have a4 : nI (9 * j) + 4 = nI (9 * j + 4) := nI_add (9 * j) 4
  have k4 := nI_clampS (show 9 * j + 4 < 2000000000 by omega)
  have a5 : nI (9 * j) + 5 = nI (9 * j + 5) := nI_add (9 * j) 5
  have k5 := nI_clampS (show 9 * j + 5 < 2000000000 by omega)
  have a6 : nI (9 * j) + 6 = nI (9 * j + 6) := nI_add (9 * j) 6
  have k6 := nI_clampS (show 9 * j + 6 < 2000000000 by omega)
  have a7 : nI (9 * j) + 7 = nI (9 * j + 7) := nI_add (9 * j) 7
  have k7 := nI_clampS (show 9 * j + 7 < 2000000000 by omega)
  have a8 : nI (9 * j) + 8 = nI (9 * j + 8) := nI_add (9 * j) 8
  have k8 := nI_clampS (show 9 * j + 8 < 2000000000 by omega)
  refine st b_L_law_947 _ _ k_L_law_947 _ _ _ _ _ ?_
  simp only [b_L_law_947, lg_cmp_eq, lg_cmp_ge, lg_cmp_gt, lg_cmp_le, lg_cmp_lt, zr_T, zr_aload_n0, zr_aload_n1, zr_aload_n2, zr_cP_eq, zr_call0, zr_iadd, zr_iald1, zr_iconst, zr_ifc, zr_iload_n3, zr_iret, zr_lcmp, zr_rt_a, zr_rt_i, zr_rt_l, zr_rt_n, zr_rt_z, zr_nil, zr_cons, ↓reduceIte, Nat.reduceAdd, Nat.reduceEqDiff, Nat.reduceLeDiff, Nat.reduceMul, Nat.reduceSub, Int32.reduceOfInt, Int64.reduceOfInt, Int64.reduceOfNat, true_and, and_true, false_and, and_false, or_false, false_or, true_or, or_true, Int.reduceEq, reduceCtorEq, or_self, and_self, ne_eq, not_false_eq_true, not_true_eq_false, eq_self, Nat.le_refl, Nat.zero_le, zr_eI, zr_eL, zr_eR, zr_pI, zr_pL, zr_pR, zr_pO, zr_pV, zq_pA0, zq_pA, zr_get, zr_put_n, zr_put, zr_rem_n, zr_rem, zr_cat_i, zr_cat_l, zr_cat_q, zr_w_n, zr_w, zr_args_n, zr_args, zr_tl_s, zr_tl_n, zq_hIsI, zq_hLsL, zq_hRsR, zq_hIsL, zq_hIsR, zq_hLsI, zq_hLsR, zq_hRsI, zq_hRsL, zq_hNsI, zq_hNsL, zq_hNsR, zq_hZsI, zq_hZsL, zq_hZsR, b2_01, Classical.not_not, Int32.toInt_toInt64, Int64.reduceToInt, zc_1000, zc_100, zc_10, zc_9, zc_2, ci_f, a1, k1, a2, k2, a3, k3, a4, k4, a5, k5, a6, k6, a7, k7, a8, k8]
  refine ⟨by exact vp_in_nI (by omega) (by omega), ?_⟩
  refine ⟨by exact vp_in_nI (by omega) (by omega), ?_⟩
  refine cpx (by omega) lk_L_98 (rc_13 rfl) (c_gap l G _ (by omega) (0, nI (o_W S)) S h C inv _ _) (by omega) (by omega) (fun r1 h1 g1 => ?_)
  obtain ⟨rfl, C1, m1⟩ := g1
  have e1 : mv h1 = S := m1.mv.trans e
  have M1 := m1.mr M
  simp only [lg_cmp_eq, lg_cmp_ge, lg_cmp_gt, lg_cmp_le, lg_cmp_lt, zr_T, zr_aload_n0, zr_aload_n2, zr_cP_eq, zr_call0, zr_iadd, zr_iald1, zr_iconst, zr_ifc, zr_iload_n3, zr_iret, zr_lcmp, zr_rt_a, zr_rt_i, zr_rt_l, zr_rt_n, zr_rt_z, zr_nil, zr_cons, ↓reduceIte, Nat.reduceAdd, Nat.reduceEqDiff, Nat.reduceLeDiff, Nat.reduceMul, Nat.reduceSub, Int32.reduceOfInt, Int64.reduceOfInt, Int64.reduceOfNat, true_and, and_true, false_and, and_false, or_false, false_or, true_or, or_true, Int.reduceEq, reduceCtorEq, or_self, and_self, ne_eq, not_false_eq_true, not_true_eq_false, eq_self, Nat.le_refl, Nat.zero_le, zr_eI, zr_eL, zr_eR, zr_pI, zr_pL, zr_pR, zr_pO, zr_pV, zq_pA0, zq_pA, zr_get, zr_put_n, zr_put, zr_rem_n, zr_rem, zr_cat_i, zr_cat_l, zr_cat_q, zr_w_n, zr_w, zr_args_n, zr_args, zr_tl_s, zr_tl_n, zq_hIsI, zq_hLsL, zq_hRsR, zq_hIsL, zq_hIsR, zq_hLsI, zq_hLsR, zq_hRsI, zq_hRsL, zq_hNsI, zq_hNsL, zq_hNsR, zq_hZsI, zq_hZsL, zq_hZsR, b2_01, Classical.not_not, Int32.toInt_toInt64, Int64.reduceToInt, zc_1000, zc_100, zc_10, zc_9, zc_2, ci_f, a1, k1, a2, k2, a3, k3, a4, k4, a5, k5, a6, k6, a7, k7, a8, k8]
  refine ⟨by exact vp_in_nI (by omega) (by omega), ?_⟩
  refine ⟨by exact vp_in_nI (by omega) (by omega), ?_⟩
  refine cpx (by omega) lk_L_102 (rc_14 rfl) (m_gap l G _ (by omega) S h1 e1 M1 inv _ _) (by omega) (by omega) (fun r2 h2 g2 => ?_)
  obtain ⟨rfl, e2, s2, M2⟩ := g2
  simp only [lg_cmp_eq, lg_cmp_ge, lg_cmp_gt, lg_cmp_le, lg_cmp_lt, zr_T, zr_cP_eq, zr_iconst, zr_ifc, zr_iret, zr_lcmp, zr_rt_a, zr_rt_i, zr_rt_l, zr_rt_n, zr_rt_z, zr_nil, zr_cons, ↓reduceIte, Nat.reduceAdd, Nat.reduceEqDiff, Nat.reduceLeDiff, Nat.reduceMul, Nat.reduceSub, Int32.reduceOfInt, Int64.reduceOfInt, Int64.reduceOfNat, true_and, and_true, false_and, and_false, or_false, false_or, true_or, or_true, Int.reduceEq, reduceCtorEq, or_self, and_self, ne_eq, not_false_eq_true, not_true_eq_false, eq_self, Nat.le_refl, Nat.zero_le, zr_eI, zr_eL, zr_eR, zr_pI, zr_pL, zr_pR, zr_pO, zr_pV, zq_pA0, zq_pA, zr_get, zr_put_n, zr_put, zr_rem_n, zr_rem, zr_cat_i, zr_cat_l, zr_cat_q, zr_w_n, zr_w, zr_args_n, zr_args, zr_tl_s, zr_tl_n, zq_hIsI, zq_hLsL, zq_hRsR, zq_hIsL, zq_hIsR, zq_hLsI, zq_hLsR, zq_hRsI, zq_hRsL, zq_hNsI, zq_hNsL, zq_hNsR, zq_hZsI, zq_hZsL, zq_hZsR, b2_01, Classical.not_not, Int32.toInt_toInt64, Int64.reduceToInt, zc_1000, zc_100, zc_10, zc_9, zc_2, ci_f, a1, k1, a2, k2, a3, k3, a4, k4, a5, k5, a6, k6, a7, k7, a8, k8]
  refine ⟨fun qc1 => ?_, fun qc1 => ?_⟩
  · try simp only [b2_0, Classical.not_not] at qc1
    try simp only [Int64.le_iff_toInt_le, Int64.lt_iff_toInt_lt, Int32.lt_iff_toInt_lt, Int32.le_iff_toInt_le, Int32.toInt_toInt64, Int64.reduceToInt, Int32.reduceToInt, Int.reduceNeg, Classical.not_not, i32e, l_add] at qc1
    all_goals
      exact K _ _ _ _ (LI.mk C1 s2 e2 M2 inv rfl (by omega) (by omega))
  · try simp only [b2_0, Classical.not_not] at qc1
    try simp only [Int64.le_iff_toInt_le, Int64.lt_iff_toInt_lt, Int32.lt_iff_toInt_lt, Int32.le_iff_toInt_le, Int32.toInt_toInt64, Int64.reduceToInt, Int32.reduceToInt, Int.reduceNeg, Classical.not_not, i32e, l_add] at qc1
    all_goals
      contradiction
set_option maxRecDepth 4000 in
theorem lc_run {l : Launch} {G : z_G} {A : Nat → z_K} (st : LawSt l G A) {j : Nat} {S : z_M} {h : z_H} {ce sl : Nat} (hj : 9 * j + 9 ≤ gL G) (hL : gL G ≤ 4608) (I : LI j S h ce sl) (K : LK A j) : A 981 [(0, z_r 400 0), (1, z_r 13 0), (2, z_r 14 0), (3, z_i (nI (9 * j)))] [] h ce sl := by
  obtain ⟨C, e, M, inv, c1, c2⟩ := I
  have hWd : o_W S = o_wt (mA S 42) (nO S) := rfl
  have a1 : nI (9 * j) + 1 = nI (9 * j + 1) := nI_add (9 * j) 1
  have k1 := nI_clampS (show 9 * j + 1 < 2000000000 by omega)
  have a2 : nI (9 * j) + 2 = nI (9 * j + 2) := nI_add (9 * j) 2
  have k2 := nI_clampS (show 9 * j + 2 < 2000000000 by omega)
  have a3 : nI (9 * j) + 3 = nI (9 * j + 3) := nI_add (9 * j) 3
  have k3 := nI_clampS (show 9 * j + 3 < 2000000000 by omega)
  have a4 : nI (9 * j) + 4 = nI (9 * j + 4) := nI_add (9 * j) 4
  have k4 := nI_clampS (show 9 * j + 4 < 2000000000 by omega)
  have a5 : nI (9 * j) + 5 = nI (9 * j + 5) := nI_add (9 * j) 5
  have k5 := nI_clampS (show 9 * j + 5 < 2000000000 by omega)
  have a6 : nI (9 * j) + 6 = nI (9 * j + 6) := nI_add (9 * j) 6
  have k6 := nI_clampS (show 9 * j + 6 < 2000000000 by omega)
  have a7 : nI (9 * j) + 7 = nI (9 * j + 7) := nI_add (9 * j) 7
  have k7 := nI_clampS (show 9 * j + 7 < 2000000000 by omega)
  have a8 : nI (9 * j) + 8 = nI (9 * j + 8) := nI_add (9 * j) 8
  have k8 := nI_clampS (show 9 * j + 8 < 2000000000 by omega)
  refine st b_L_law_981 _ _ k_L_law_981 _ _ _ _ _ ?_
  simp only [b_L_law_981, lg_cmp_eq, lg_cmp_ge, lg_cmp_gt, lg_cmp_le, lg_cmp_lt, zr_T, zr_aload_n0, zr_aload_n1, zr_aload_n2, zr_bipush, zr_cP_eq, zr_call0, zr_i2l, zr_iadd, zr_iald1, zr_iconst, zr_ifc, zr_iload_n3, zr_iret, zr_land, zr_lcmp, zr_ldc2, zr_lor, zr_lshl, zr_rt_a, zr_rt_i, zr_rt_l, zr_rt_n, zr_rt_z, zr_nil, zr_cons, ↓reduceIte, Nat.reduceAdd, Nat.reduceEqDiff, Nat.reduceLeDiff, Nat.reduceMul, Nat.reduceSub, Int32.reduceOfInt, Int64.reduceOfInt, Int64.reduceOfNat, true_and, and_true, false_and, and_false, or_false, false_or, true_or, or_true, Int.reduceEq, reduceCtorEq, or_self, and_self, ne_eq, not_false_eq_true, not_true_eq_false, eq_self, Nat.le_refl, Nat.zero_le, zr_eI, zr_eL, zr_eR, zr_pI, zr_pL, zr_pR, zr_pO, zr_pV, zq_pA0, zq_pA, zr_get, zr_put_n, zr_put, zr_rem_n, zr_rem, zr_cat_i, zr_cat_l, zr_cat_q, zr_w_n, zr_w, zr_args_n, zr_args, zr_tl_s, zr_tl_n, zq_hIsI, zq_hLsL, zq_hRsR, zq_hIsL, zq_hIsR, zq_hLsI, zq_hLsR, zq_hRsI, zq_hRsL, zq_hNsI, zq_hNsL, zq_hNsR, zq_hZsI, zq_hZsL, zq_hZsR, b2_01, Classical.not_not, Int32.toInt_toInt64, Int64.reduceToInt, zc_1000, zc_100, zc_10, zc_9, zc_2, ci_f, a1, k1, a2, k2, a3, k3, a4, k4, a5, k5, a6, k6, a7, k7, a8, k8]
  refine ⟨by exact vp_in_nI (by omega) (by omega), ?_⟩
  refine ⟨by exact vp_in_nI (by omega) (by omega), ?_⟩
  refine cpx (by omega) lk_L_103 (rc_13 rfl) (c_run l G _ (by omega) (0, nI (o_W S)) S h C inv _) (by omega) (by omega) (fun r1 h1 g1 => ?_)
  obtain ⟨rfl, C1, m1⟩ := g1
  have e1 : mv h1 = S := m1.mv.trans e
  have M1 := m1.mr M
  simp only [lg_cmp_eq, lg_cmp_ge, lg_cmp_gt, lg_cmp_le, lg_cmp_lt, zr_T, zr_aload_n0, zr_aload_n2, zr_bipush, zr_cP_eq, zr_call0, zr_i2l, zr_iadd, zr_iald1, zr_iconst, zr_ifc, zr_iload_n3, zr_iret, zr_land, zr_lcmp, zr_ldc2, zr_lor, zr_lshl, zr_rt_a, zr_rt_i, zr_rt_l, zr_rt_n, zr_rt_z, zr_nil, zr_cons, ↓reduceIte, Nat.reduceAdd, Nat.reduceEqDiff, Nat.reduceLeDiff, Nat.reduceMul, Nat.reduceSub, Int32.reduceOfInt, Int64.reduceOfInt, Int64.reduceOfNat, true_and, and_true, false_and, and_false, or_false, false_or, true_or, or_true, Int.reduceEq, reduceCtorEq, or_self, and_self, ne_eq, not_false_eq_true, not_true_eq_false, eq_self, Nat.le_refl, Nat.zero_le, zr_eI, zr_eL, zr_eR, zr_pI, zr_pL, zr_pR, zr_pO, zr_pV, zq_pA0, zq_pA, zr_get, zr_put_n, zr_put, zr_rem_n, zr_rem, zr_cat_i, zr_cat_l, zr_cat_q, zr_w_n, zr_w, zr_args_n, zr_args, zr_tl_s, zr_tl_n, zq_hIsI, zq_hLsL, zq_hRsR, zq_hIsL, zq_hIsR, zq_hLsI, zq_hLsR, zq_hRsI, zq_hRsL, zq_hNsI, zq_hNsL, zq_hNsR, zq_hZsI, zq_hZsL, zq_hZsR, b2_01, Classical.not_not, Int32.toInt_toInt64, Int64.reduceToInt, zc_1000, zc_100, zc_10, zc_9, zc_2, ci_f, a1, k1, a2, k2, a3, k3, a4, k4, a5, k5, a6, k6, a7, k7, a8, k8]
  refine ⟨by exact vp_in_nI (by omega) (by omega), ?_⟩
  refine ⟨by exact vp_in_nI (by omega) (by omega), ?_⟩
  refine cpx (by omega) lk_L_107 (rc_14 rfl) (m_run l G _ (by omega) S h1 e1 M1 inv _) (by omega) (by omega) (fun r2 h2 g2 => ?_)
  obtain ⟨rfl, e2, s2, M2⟩ := g2
  simp only [lg_cmp_eq, lg_cmp_ge, lg_cmp_gt, lg_cmp_le, lg_cmp_lt, zr_T, zr_cP_eq, zr_iconst, zr_ifc, zr_iret, zr_lcmp, zr_rt_a, zr_rt_i, zr_rt_l, zr_rt_n, zr_rt_z, zr_nil, zr_cons, ↓reduceIte, Nat.reduceAdd, Nat.reduceEqDiff, Nat.reduceLeDiff, Nat.reduceMul, Nat.reduceSub, Int32.reduceOfInt, Int64.reduceOfInt, Int64.reduceOfNat, true_and, and_true, false_and, and_false, or_false, false_or, true_or, or_true, Int.reduceEq, reduceCtorEq, or_self, and_self, ne_eq, not_false_eq_true, not_true_eq_false, eq_self, Nat.le_refl, Nat.zero_le, zr_eI, zr_eL, zr_eR, zr_pI, zr_pL, zr_pR, zr_pO, zr_pV, zq_pA0, zq_pA, zr_get, zr_put_n, zr_put, zr_rem_n, zr_rem, zr_cat_i, zr_cat_l, zr_cat_q, zr_w_n, zr_w, zr_args_n, zr_args, zr_tl_s, zr_tl_n, zq_hIsI, zq_hLsL, zq_hRsR, zq_hIsL, zq_hIsR, zq_hLsI, zq_hLsR, zq_hRsI, zq_hRsL, zq_hNsI, zq_hNsL, zq_hNsR, zq_hZsI, zq_hZsL, zq_hZsR, b2_01, Classical.not_not, Int32.toInt_toInt64, Int64.reduceToInt, zc_1000, zc_100, zc_10, zc_9, zc_2, ci_f, a1, k1, a2, k2, a3, k3, a4, k4, a5, k5, a6, k6, a7, k7, a8, k8]
  refine ⟨fun qc1 => ?_, fun qc1 => ?_⟩
  · try simp only [b2_0, Classical.not_not] at qc1
    try simp only [Int64.le_iff_toInt_le, Int64.lt_iff_toInt_lt, Int32.lt_iff_toInt_lt, Int32.le_iff_toInt_le, Int32.toInt_toInt64, Int64.reduceToInt, Int32.reduceToInt, Int.reduceNeg, Classical.not_not, i32e, l_add] at qc1
    all_goals
      exact K _ _ _ _ (LI.mk C1 s2 e2 M2 inv rfl (by omega) (by omega))
  · try simp only [b2_0, Classical.not_not] at qc1
    try simp only [Int64.le_iff_toInt_le, Int64.lt_iff_toInt_lt, Int32.lt_iff_toInt_lt, Int32.le_iff_toInt_le, Int32.toInt_toInt64, Int64.reduceToInt, Int32.reduceToInt, Int.reduceNeg, Classical.not_not, i32e, l_add] at qc1
    all_goals
      contradiction
set_option maxRecDepth 4000 in
theorem lc_accountOf {l : Launch} {G : z_G} {A : Nat → z_K} (st : LawSt l G A) {j : Nat} {S : z_M} {h : z_H} {ce sl : Nat} (hj : 9 * j + 9 ≤ gL G) (hL : gL G ≤ 4608) (I : LI j S h ce sl) (K : LK A j) : A 1035 [(0, z_r 400 0), (1, z_r 13 0), (2, z_r 14 0), (3, z_i (nI (9 * j)))] [] h ce sl := by
  obtain ⟨C, e, M, inv, c1, c2⟩ := I
  have hWd : o_W S = o_wt (mA S 42) (nO S) := rfl
  have a1 : nI (9 * j) + 1 = nI (9 * j + 1) := nI_add (9 * j) 1
  have k1 := nI_clampS (show 9 * j + 1 < 2000000000 by omega)
  have a2 : nI (9 * j) + 2 = nI (9 * j + 2) := nI_add (9 * j) 2
  have k2 := nI_clampS (show 9 * j + 2 < 2000000000 by omega)
  have a3 : nI (9 * j) + 3 = nI (9 * j + 3) := nI_add (9 * j) 3
  have k3 := nI_clampS (show 9 * j + 3 < 2000000000 by omega)
  have a4 : nI (9 * j) + 4 = nI (9 * j + 4) := nI_add (9 * j) 4
  have k4 := nI_clampS (show 9 * j + 4 < 2000000000 by omega)
  have a5 : nI (9 * j) + 5 = nI (9 * j + 5) := nI_add (9 * j) 5
  have k5 := nI_clampS (show 9 * j + 5 < 2000000000 by omega)
  have a6 : nI (9 * j) + 6 = nI (9 * j + 6) := nI_add (9 * j) 6
  have k6 := nI_clampS (show 9 * j + 6 < 2000000000 by omega)
  have a7 : nI (9 * j) + 7 = nI (9 * j + 7) := nI_add (9 * j) 7
  have k7 := nI_clampS (show 9 * j + 7 < 2000000000 by omega)
  have a8 : nI (9 * j) + 8 = nI (9 * j + 8) := nI_add (9 * j) 8
  have k8 := nI_clampS (show 9 * j + 8 < 2000000000 by omega)
  refine st b_L_law_1035 _ _ k_L_law_1035 _ _ _ _ _ ?_
  simp only [b_L_law_1035, zr_T, zr_aload_n0, zr_aload_n1, zr_aload_n2, zr_cP_eq, zr_call0, zr_iadd, zr_iald1, zr_icmp, zr_iconst, zr_iload_n3, zr_iret, zr_rt_a, zr_rt_i, zr_rt_l, zr_rt_n, zr_rt_z, zr_nil, zr_cons, ↓reduceIte, Nat.reduceAdd, Nat.reduceEqDiff, Nat.reduceLeDiff, Nat.reduceMul, Nat.reduceSub, Int32.reduceOfInt, Int64.reduceOfInt, Int64.reduceOfNat, true_and, and_true, false_and, and_false, or_false, false_or, true_or, or_true, Int.reduceEq, reduceCtorEq, or_self, and_self, ne_eq, not_false_eq_true, not_true_eq_false, eq_self, Nat.le_refl, Nat.zero_le, zr_eI, zr_eL, zr_eR, zr_pI, zr_pL, zr_pR, zr_pO, zr_pV, zq_pA0, zq_pA, zr_get, zr_put_n, zr_put, zr_rem_n, zr_rem, zr_cat_i, zr_cat_l, zr_cat_q, zr_w_n, zr_w, zr_args_n, zr_args, zr_tl_s, zr_tl_n, zq_hIsI, zq_hLsL, zq_hRsR, zq_hIsL, zq_hIsR, zq_hLsI, zq_hLsR, zq_hRsI, zq_hRsL, zq_hNsI, zq_hNsL, zq_hNsR, zq_hZsI, zq_hZsL, zq_hZsR, b2_01, Classical.not_not, Int32.toInt_toInt64, Int64.reduceToInt, zc_1000, zc_100, zc_10, zc_9, zc_2, ci_f, a1, k1, a2, k2, a3, k3, a4, k4, a5, k5, a6, k6, a7, k7, a8, k8]
  refine ⟨by exact vp_in_nI (by omega) (by omega), ?_⟩
  refine ⟨by exact vp_in_nI (by omega) (by omega), ?_⟩
  refine cpx (by omega) lk_L_108 (rc_13 rfl) (c_accountOf l G _ (by omega) (0, nI (o_W S)) S h C inv _ _) (by omega) (by omega) (fun r1 h1 g1 => ?_)
  obtain ⟨rfl, C1, m1⟩ := g1
  have e1 : mv h1 = S := m1.mv.trans e
  have M1 := m1.mr M
  simp only [zr_T, zr_aload_n0, zr_aload_n2, zr_cP_eq, zr_call0, zr_iadd, zr_iald1, zr_icmp, zr_iconst, zr_iload_n3, zr_iret, zr_rt_a, zr_rt_i, zr_rt_l, zr_rt_n, zr_rt_z, zr_nil, zr_cons, ↓reduceIte, Nat.reduceAdd, Nat.reduceEqDiff, Nat.reduceLeDiff, Nat.reduceMul, Nat.reduceSub, Int32.reduceOfInt, Int64.reduceOfInt, Int64.reduceOfNat, true_and, and_true, false_and, and_false, or_false, false_or, true_or, or_true, Int.reduceEq, reduceCtorEq, or_self, and_self, ne_eq, not_false_eq_true, not_true_eq_false, eq_self, Nat.le_refl, Nat.zero_le, zr_eI, zr_eL, zr_eR, zr_pI, zr_pL, zr_pR, zr_pO, zr_pV, zq_pA0, zq_pA, zr_get, zr_put_n, zr_put, zr_rem_n, zr_rem, zr_cat_i, zr_cat_l, zr_cat_q, zr_w_n, zr_w, zr_args_n, zr_args, zr_tl_s, zr_tl_n, zq_hIsI, zq_hLsL, zq_hRsR, zq_hIsL, zq_hIsR, zq_hLsI, zq_hLsR, zq_hRsI, zq_hRsL, zq_hNsI, zq_hNsL, zq_hNsR, zq_hZsI, zq_hZsL, zq_hZsR, b2_01, Classical.not_not, Int32.toInt_toInt64, Int64.reduceToInt, zc_1000, zc_100, zc_10, zc_9, zc_2, ci_f, a1, k1, a2, k2, a3, k3, a4, k4, a5, k5, a6, k6, a7, k7, a8, k8]
  refine ⟨by exact vp_in_nI (by omega) (by omega), ?_⟩
  refine ⟨by exact vp_in_nI (by omega) (by omega), ?_⟩
  refine cpx (by omega) lk_L_111 (rc_14 rfl) (m_accountOf l G _ (by omega) S h1 e1 M1 inv _ _) (by omega) (by omega) (fun r2 h2 g2 => ?_)
  obtain ⟨rfl, e2, s2, M2⟩ := g2
  simp only [zr_T, zr_cP_eq, zr_icmp, zr_iconst, zr_iret, zr_rt_a, zr_rt_i, zr_rt_l, zr_rt_n, zr_rt_z, zr_nil, zr_cons, ↓reduceIte, Nat.reduceAdd, Nat.reduceEqDiff, Nat.reduceLeDiff, Nat.reduceMul, Nat.reduceSub, Int32.reduceOfInt, Int64.reduceOfInt, Int64.reduceOfNat, true_and, and_true, false_and, and_false, or_false, false_or, true_or, or_true, Int.reduceEq, reduceCtorEq, or_self, and_self, ne_eq, not_false_eq_true, not_true_eq_false, eq_self, Nat.le_refl, Nat.zero_le, zr_eI, zr_eL, zr_eR, zr_pI, zr_pL, zr_pR, zr_pO, zr_pV, zq_pA0, zq_pA, zr_get, zr_put_n, zr_put, zr_rem_n, zr_rem, zr_cat_i, zr_cat_l, zr_cat_q, zr_w_n, zr_w, zr_args_n, zr_args, zr_tl_s, zr_tl_n, zq_hIsI, zq_hLsL, zq_hRsR, zq_hIsL, zq_hIsR, zq_hLsI, zq_hLsR, zq_hRsI, zq_hRsL, zq_hNsI, zq_hNsL, zq_hNsR, zq_hZsI, zq_hZsL, zq_hZsR, b2_01, Classical.not_not, Int32.toInt_toInt64, Int64.reduceToInt, zc_1000, zc_100, zc_10, zc_9, zc_2, ci_f, a1, k1, a2, k2, a3, k3, a4, k4, a5, k5, a6, k6, a7, k7, a8, k8]
  refine ⟨fun qc1 => ?_, fun qc1 => ?_⟩
  · try simp only [b2_0, Classical.not_not] at qc1
    try simp only [Int64.le_iff_toInt_le, Int64.lt_iff_toInt_lt, Int32.lt_iff_toInt_lt, Int32.le_iff_toInt_le, Int32.toInt_toInt64, Int64.reduceToInt, Int32.reduceToInt, Int.reduceNeg, Classical.not_not, i32e, l_add] at qc1
    all_goals
      exact K _ _ _ _ (LI.mk C1 s2 e2 M2 inv rfl (by omega) (by omega))
  · try simp only [b2_0, Classical.not_not] at qc1
    try simp only [Int64.le_iff_toInt_le, Int64.lt_iff_toInt_lt, Int32.lt_iff_toInt_lt, Int32.le_iff_toInt_le, Int32.toInt_toInt64, Int64.reduceToInt, Int32.reduceToInt, Int.reduceNeg, Classical.not_not, i32e, l_add] at qc1
    all_goals
      contradiction
set_option maxRecDepth 4000 in
theorem lc_folio {l : Launch} {G : z_G} {A : Nat → z_K} (st : LawSt l G A) {j : Nat} {S : z_M} {h : z_H} {ce sl : Nat} (hj : 9 * j + 9 ≤ gL G) (hL : gL G ≤ 4608) (I : LI j S h ce sl) (K : LK A j) : A 1068 [(0, z_r 400 0), (1, z_r 13 0), (2, z_r 14 0), (3, z_i (nI (9 * j)))] [] h ce sl := by
  obtain ⟨C, e, M, inv, c1, c2⟩ := I
  have hWd : o_W S = o_wt (mA S 42) (nO S) := rfl
  have a1 : nI (9 * j) + 1 = nI (9 * j + 1) := nI_add (9 * j) 1
  have k1 := nI_clampS (show 9 * j + 1 < 2000000000 by omega)
  have a2 : nI (9 * j) + 2 = nI (9 * j + 2) := nI_add (9 * j) 2
  have k2 := nI_clampS (show 9 * j + 2 < 2000000000 by omega)
  have a3 : nI (9 * j) + 3 = nI (9 * j + 3) := nI_add (9 * j) 3
  have k3 := nI_clampS (show 9 * j + 3 < 2000000000 by omega)
  have a4 : nI (9 * j) + 4 = nI (9 * j + 4) := nI_add (9 * j) 4
  have k4 := nI_clampS (show 9 * j + 4 < 2000000000 by omega)
  have a5 : nI (9 * j) + 5 = nI (9 * j + 5) := nI_add (9 * j) 5
  have k5 := nI_clampS (show 9 * j + 5 < 2000000000 by omega)
  have a6 : nI (9 * j) + 6 = nI (9 * j + 6) := nI_add (9 * j) 6
  have k6 := nI_clampS (show 9 * j + 6 < 2000000000 by omega)
  have a7 : nI (9 * j) + 7 = nI (9 * j + 7) := nI_add (9 * j) 7
  have k7 := nI_clampS (show 9 * j + 7 < 2000000000 by omega)
  have a8 : nI (9 * j) + 8 = nI (9 * j + 8) := nI_add (9 * j) 8
  have k8 := nI_clampS (show 9 * j + 8 < 2000000000 by omega)
  refine st b_L_law_1068 _ _ k_L_law_1068 _ _ _ _ _ ?_
  simp only [b_L_law_1068, zr_T, zr_aload_n0, zr_aload_n1, zr_aload_n2, zr_cP_eq, zr_call0, zr_iadd, zr_iald1, zr_icmp, zr_iconst, zr_iload_n3, zr_iret, zr_rt_a, zr_rt_i, zr_rt_l, zr_rt_n, zr_rt_z, zr_nil, zr_cons, ↓reduceIte, Nat.reduceAdd, Nat.reduceEqDiff, Nat.reduceLeDiff, Nat.reduceMul, Nat.reduceSub, Int32.reduceOfInt, Int64.reduceOfInt, Int64.reduceOfNat, true_and, and_true, false_and, and_false, or_false, false_or, true_or, or_true, Int.reduceEq, reduceCtorEq, or_self, and_self, ne_eq, not_false_eq_true, not_true_eq_false, eq_self, Nat.le_refl, Nat.zero_le, zr_eI, zr_eL, zr_eR, zr_pI, zr_pL, zr_pR, zr_pO, zr_pV, zq_pA0, zq_pA, zr_get, zr_put_n, zr_put, zr_rem_n, zr_rem, zr_cat_i, zr_cat_l, zr_cat_q, zr_w_n, zr_w, zr_args_n, zr_args, zr_tl_s, zr_tl_n, zq_hIsI, zq_hLsL, zq_hRsR, zq_hIsL, zq_hIsR, zq_hLsI, zq_hLsR, zq_hRsI, zq_hRsL, zq_hNsI, zq_hNsL, zq_hNsR, zq_hZsI, zq_hZsL, zq_hZsR, b2_01, Classical.not_not, Int32.toInt_toInt64, Int64.reduceToInt, zc_1000, zc_100, zc_10, zc_9, zc_2, ci_f, a1, k1, a2, k2, a3, k3, a4, k4, a5, k5, a6, k6, a7, k7, a8, k8]
  refine ⟨by exact vp_in_nI (by omega) (by omega), ?_⟩
  refine ⟨by exact vp_in_nI (by omega) (by omega), ?_⟩
  refine cpx (by omega) lk_L_112 (rc_13 rfl) (c_folio l G _ (by omega) (0, nI (o_W S)) S h C inv _ _) (by omega) (by omega) (fun r1 h1 g1 => ?_)
  obtain ⟨rfl, C1, m1⟩ := g1
  have e1 : mv h1 = S := m1.mv.trans e
  have M1 := m1.mr M
  simp only [zr_T, zr_aload_n0, zr_aload_n2, zr_cP_eq, zr_call0, zr_iadd, zr_iald1, zr_icmp, zr_iconst, zr_iload_n3, zr_iret, zr_rt_a, zr_rt_i, zr_rt_l, zr_rt_n, zr_rt_z, zr_nil, zr_cons, ↓reduceIte, Nat.reduceAdd, Nat.reduceEqDiff, Nat.reduceLeDiff, Nat.reduceMul, Nat.reduceSub, Int32.reduceOfInt, Int64.reduceOfInt, Int64.reduceOfNat, true_and, and_true, false_and, and_false, or_false, false_or, true_or, or_true, Int.reduceEq, reduceCtorEq, or_self, and_self, ne_eq, not_false_eq_true, not_true_eq_false, eq_self, Nat.le_refl, Nat.zero_le, zr_eI, zr_eL, zr_eR, zr_pI, zr_pL, zr_pR, zr_pO, zr_pV, zq_pA0, zq_pA, zr_get, zr_put_n, zr_put, zr_rem_n, zr_rem, zr_cat_i, zr_cat_l, zr_cat_q, zr_w_n, zr_w, zr_args_n, zr_args, zr_tl_s, zr_tl_n, zq_hIsI, zq_hLsL, zq_hRsR, zq_hIsL, zq_hIsR, zq_hLsI, zq_hLsR, zq_hRsI, zq_hRsL, zq_hNsI, zq_hNsL, zq_hNsR, zq_hZsI, zq_hZsL, zq_hZsR, b2_01, Classical.not_not, Int32.toInt_toInt64, Int64.reduceToInt, zc_1000, zc_100, zc_10, zc_9, zc_2, ci_f, a1, k1, a2, k2, a3, k3, a4, k4, a5, k5, a6, k6, a7, k7, a8, k8]
  refine ⟨by exact vp_in_nI (by omega) (by omega), ?_⟩
  refine ⟨by exact vp_in_nI (by omega) (by omega), ?_⟩
  refine cpx (by omega) lk_L_115 (rc_14 rfl) (m_folio l G _ (by omega) S h1 e1 M1 inv _ _) (by omega) (by omega) (fun r2 h2 g2 => ?_)
  obtain ⟨rfl, e2, s2, M2⟩ := g2
  simp only [zr_T, zr_cP_eq, zr_icmp, zr_iconst, zr_iret, zr_rt_a, zr_rt_i, zr_rt_l, zr_rt_n, zr_rt_z, zr_nil, zr_cons, ↓reduceIte, Nat.reduceAdd, Nat.reduceEqDiff, Nat.reduceLeDiff, Nat.reduceMul, Nat.reduceSub, Int32.reduceOfInt, Int64.reduceOfInt, Int64.reduceOfNat, true_and, and_true, false_and, and_false, or_false, false_or, true_or, or_true, Int.reduceEq, reduceCtorEq, or_self, and_self, ne_eq, not_false_eq_true, not_true_eq_false, eq_self, Nat.le_refl, Nat.zero_le, zr_eI, zr_eL, zr_eR, zr_pI, zr_pL, zr_pR, zr_pO, zr_pV, zq_pA0, zq_pA, zr_get, zr_put_n, zr_put, zr_rem_n, zr_rem, zr_cat_i, zr_cat_l, zr_cat_q, zr_w_n, zr_w, zr_args_n, zr_args, zr_tl_s, zr_tl_n, zq_hIsI, zq_hLsL, zq_hRsR, zq_hIsL, zq_hIsR, zq_hLsI, zq_hLsR, zq_hRsI, zq_hRsL, zq_hNsI, zq_hNsL, zq_hNsR, zq_hZsI, zq_hZsL, zq_hZsR, b2_01, Classical.not_not, Int32.toInt_toInt64, Int64.reduceToInt, zc_1000, zc_100, zc_10, zc_9, zc_2, ci_f, a1, k1, a2, k2, a3, k3, a4, k4, a5, k5, a6, k6, a7, k7, a8, k8]
  refine ⟨fun qc1 => ?_, fun qc1 => ?_⟩
  · try simp only [b2_0, Classical.not_not] at qc1
    try simp only [Int64.le_iff_toInt_le, Int64.lt_iff_toInt_lt, Int32.lt_iff_toInt_lt, Int32.le_iff_toInt_le, Int32.toInt_toInt64, Int64.reduceToInt, Int32.reduceToInt, Int.reduceNeg, Classical.not_not, i32e, l_add] at qc1
    all_goals
      exact K _ _ _ _ (LI.mk C1 s2 e2 M2 inv rfl (by omega) (by omega))
  · try simp only [b2_0, Classical.not_not] at qc1
    try simp only [Int64.le_iff_toInt_le, Int64.lt_iff_toInt_lt, Int32.lt_iff_toInt_lt, Int32.le_iff_toInt_le, Int32.toInt_toInt64, Int64.reduceToInt, Int32.reduceToInt, Int.reduceNeg, Classical.not_not, i32e, l_add] at qc1
    all_goals
      contradiction
set_option maxRecDepth 4000 in
theorem lc_balance {l : Launch} {G : z_G} {A : Nat → z_K} (st : LawSt l G A) {j : Nat} {S : z_M} {h : z_H} {ce sl : Nat} (hj : 9 * j + 9 ≤ gL G) (hL : gL G ≤ 4608) (I : LI j S h ce sl) (K : LK A j) : A 1101 [(0, z_r 400 0), (1, z_r 13 0), (2, z_r 14 0), (3, z_i (nI (9 * j)))] [] h ce sl := by
  obtain ⟨C, e, M, inv, c1, c2⟩ := I
  have hWd : o_W S = o_wt (mA S 42) (nO S) := rfl
  have a1 : nI (9 * j) + 1 = nI (9 * j + 1) := nI_add (9 * j) 1
  have k1 := nI_clampS (show 9 * j + 1 < 2000000000 by omega)
  have a2 : nI (9 * j) + 2 = nI (9 * j + 2) := nI_add (9 * j) 2
  have k2 := nI_clampS (show 9 * j + 2 < 2000000000 by omega)
  have a3 : nI (9 * j) + 3 = nI (9 * j + 3) := nI_add (9 * j) 3
  have k3 := nI_clampS (show 9 * j + 3 < 2000000000 by omega)
  have a4 : nI (9 * j) + 4 = nI (9 * j + 4) := nI_add (9 * j) 4
  have k4 := nI_clampS (show 9 * j + 4 < 2000000000 by omega)
  have a5 : nI (9 * j) + 5 = nI (9 * j + 5) := nI_add (9 * j) 5
  have k5 := nI_clampS (show 9 * j + 5 < 2000000000 by omega)
  have a6 : nI (9 * j) + 6 = nI (9 * j + 6) := nI_add (9 * j) 6
  have k6 := nI_clampS (show 9 * j + 6 < 2000000000 by omega)
  have a7 : nI (9 * j) + 7 = nI (9 * j + 7) := nI_add (9 * j) 7
  have k7 := nI_clampS (show 9 * j + 7 < 2000000000 by omega)
  have a8 : nI (9 * j) + 8 = nI (9 * j + 8) := nI_add (9 * j) 8
  have k8 := nI_clampS (show 9 * j + 8 < 2000000000 by omega)
  refine st b_L_law_1101 _ _ k_L_law_1101 _ _ _ _ _ ?_
  simp only [b_L_law_1101, lg_cmp_eq, lg_cmp_ge, lg_cmp_gt, lg_cmp_le, lg_cmp_lt, zr_T, zr_aload_n0, zr_aload_n1, zr_aload_n2, zr_cP_eq, zr_call0, zr_iadd, zr_iald1, zr_iconst, zr_ifc, zr_iload_n3, zr_iret, zr_lcmp, zr_rt_a, zr_rt_i, zr_rt_l, zr_rt_n, zr_rt_z, zr_nil, zr_cons, ↓reduceIte, Nat.reduceAdd, Nat.reduceEqDiff, Nat.reduceLeDiff, Nat.reduceMul, Nat.reduceSub, Int32.reduceOfInt, Int64.reduceOfInt, Int64.reduceOfNat, true_and, and_true, false_and, and_false, or_false, false_or, true_or, or_true, Int.reduceEq, reduceCtorEq, or_self, and_self, ne_eq, not_false_eq_true, not_true_eq_false, eq_self, Nat.le_refl, Nat.zero_le, zr_eI, zr_eL, zr_eR, zr_pI, zr_pL, zr_pR, zr_pO, zr_pV, zq_pA0, zq_pA, zr_get, zr_put_n, zr_put, zr_rem_n, zr_rem, zr_cat_i, zr_cat_l, zr_cat_q, zr_w_n, zr_w, zr_args_n, zr_args, zr_tl_s, zr_tl_n, zq_hIsI, zq_hLsL, zq_hRsR, zq_hIsL, zq_hIsR, zq_hLsI, zq_hLsR, zq_hRsI, zq_hRsL, zq_hNsI, zq_hNsL, zq_hNsR, zq_hZsI, zq_hZsL, zq_hZsR, b2_01, Classical.not_not, Int32.toInt_toInt64, Int64.reduceToInt, zc_1000, zc_100, zc_10, zc_9, zc_2, ci_f, a1, k1, a2, k2, a3, k3, a4, k4, a5, k5, a6, k6, a7, k7, a8, k8]
  refine ⟨by exact vp_in_nI (by omega) (by omega), ?_⟩
  refine cpx (by omega) lk_L_116 (rc_13 rfl) (c_balance l G _ (by omega) (0, nI (o_W S)) S h C inv _) (by omega) (by omega) (fun r1 h1 g1 => ?_)
  obtain ⟨rfl, C1, m1⟩ := g1
  have e1 : mv h1 = S := m1.mv.trans e
  have M1 := m1.mr M
  simp only [lg_cmp_eq, lg_cmp_ge, lg_cmp_gt, lg_cmp_le, lg_cmp_lt, zr_T, zr_aload_n0, zr_aload_n2, zr_cP_eq, zr_call0, zr_iadd, zr_iald1, zr_iconst, zr_ifc, zr_iload_n3, zr_iret, zr_lcmp, zr_rt_a, zr_rt_i, zr_rt_l, zr_rt_n, zr_rt_z, zr_nil, zr_cons, ↓reduceIte, Nat.reduceAdd, Nat.reduceEqDiff, Nat.reduceLeDiff, Nat.reduceMul, Nat.reduceSub, Int32.reduceOfInt, Int64.reduceOfInt, Int64.reduceOfNat, true_and, and_true, false_and, and_false, or_false, false_or, true_or, or_true, Int.reduceEq, reduceCtorEq, or_self, and_self, ne_eq, not_false_eq_true, not_true_eq_false, eq_self, Nat.le_refl, Nat.zero_le, zr_eI, zr_eL, zr_eR, zr_pI, zr_pL, zr_pR, zr_pO, zr_pV, zq_pA0, zq_pA, zr_get, zr_put_n, zr_put, zr_rem_n, zr_rem, zr_cat_i, zr_cat_l, zr_cat_q, zr_w_n, zr_w, zr_args_n, zr_args, zr_tl_s, zr_tl_n, zq_hIsI, zq_hLsL, zq_hRsR, zq_hIsL, zq_hIsR, zq_hLsI, zq_hLsR, zq_hRsI, zq_hRsL, zq_hNsI, zq_hNsL, zq_hNsR, zq_hZsI, zq_hZsL, zq_hZsR, b2_01, Classical.not_not, Int32.toInt_toInt64, Int64.reduceToInt, zc_1000, zc_100, zc_10, zc_9, zc_2, ci_f, a1, k1, a2, k2, a3, k3, a4, k4, a5, k5, a6, k6, a7, k7, a8, k8]
  refine ⟨by exact vp_in_nI (by omega) (by omega), ?_⟩
  refine cpx (by omega) lk_L_119 (rc_14 rfl) (m_balance l G _ (by omega) S h1 e1 M1 inv _) (by omega) (by omega) (fun r2 h2 g2 => ?_)
  obtain ⟨rfl, e2, s2, M2⟩ := g2
  simp only [lg_cmp_eq, lg_cmp_ge, lg_cmp_gt, lg_cmp_le, lg_cmp_lt, zr_T, zr_cP_eq, zr_iconst, zr_ifc, zr_iret, zr_lcmp, zr_rt_a, zr_rt_i, zr_rt_l, zr_rt_n, zr_rt_z, zr_nil, zr_cons, ↓reduceIte, Nat.reduceAdd, Nat.reduceEqDiff, Nat.reduceLeDiff, Nat.reduceMul, Nat.reduceSub, Int32.reduceOfInt, Int64.reduceOfInt, Int64.reduceOfNat, true_and, and_true, false_and, and_false, or_false, false_or, true_or, or_true, Int.reduceEq, reduceCtorEq, or_self, and_self, ne_eq, not_false_eq_true, not_true_eq_false, eq_self, Nat.le_refl, Nat.zero_le, zr_eI, zr_eL, zr_eR, zr_pI, zr_pL, zr_pR, zr_pO, zr_pV, zq_pA0, zq_pA, zr_get, zr_put_n, zr_put, zr_rem_n, zr_rem, zr_cat_i, zr_cat_l, zr_cat_q, zr_w_n, zr_w, zr_args_n, zr_args, zr_tl_s, zr_tl_n, zq_hIsI, zq_hLsL, zq_hRsR, zq_hIsL, zq_hIsR, zq_hLsI, zq_hLsR, zq_hRsI, zq_hRsL, zq_hNsI, zq_hNsL, zq_hNsR, zq_hZsI, zq_hZsL, zq_hZsR, b2_01, Classical.not_not, Int32.toInt_toInt64, Int64.reduceToInt, zc_1000, zc_100, zc_10, zc_9, zc_2, ci_f, a1, k1, a2, k2, a3, k3, a4, k4, a5, k5, a6, k6, a7, k7, a8, k8]
  refine ⟨fun qc1 => ?_, fun qc1 => ?_⟩
  · try simp only [b2_0, Classical.not_not] at qc1
    try simp only [Int64.le_iff_toInt_le, Int64.lt_iff_toInt_lt, Int32.lt_iff_toInt_lt, Int32.le_iff_toInt_le, Int32.toInt_toInt64, Int64.reduceToInt, Int32.reduceToInt, Int.reduceNeg, Classical.not_not, i32e, l_add] at qc1
    all_goals
      exact K _ _ _ _ (LI.mk C1 s2 e2 M2 inv rfl (by omega) (by omega))
  · try simp only [b2_0, Classical.not_not] at qc1
    try simp only [Int64.le_iff_toInt_le, Int64.lt_iff_toInt_lt, Int32.lt_iff_toInt_lt, Int32.le_iff_toInt_le, Int32.toInt_toInt64, Int64.reduceToInt, Int32.reduceToInt, Int.reduceNeg, Classical.not_not, i32e, l_add] at qc1
    all_goals
      contradiction
set_option maxRecDepth 4000 in
theorem lc_written {l : Launch} {G : z_G} {A : Nat → z_K} (st : LawSt l G A) {j : Nat} {S : z_M} {h : z_H} {ce sl : Nat} (hj : 9 * j + 9 ≤ gL G) (hL : gL G ≤ 4608) (I : LI j S h ce sl) (K : LK A j) : A 1125 [(0, z_r 400 0), (1, z_r 13 0), (2, z_r 14 0), (3, z_i (nI (9 * j)))] [] h ce sl := by
  obtain ⟨C, e, M, inv, c1, c2⟩ := I
  have hWd : o_W S = o_wt (mA S 42) (nO S) := rfl
  have a1 : nI (9 * j) + 1 = nI (9 * j + 1) := nI_add (9 * j) 1
  have k1 := nI_clampS (show 9 * j + 1 < 2000000000 by omega)
  have a2 : nI (9 * j) + 2 = nI (9 * j + 2) := nI_add (9 * j) 2
  have k2 := nI_clampS (show 9 * j + 2 < 2000000000 by omega)
  have a3 : nI (9 * j) + 3 = nI (9 * j + 3) := nI_add (9 * j) 3
  have k3 := nI_clampS (show 9 * j + 3 < 2000000000 by omega)
  have a4 : nI (9 * j) + 4 = nI (9 * j + 4) := nI_add (9 * j) 4
  have k4 := nI_clampS (show 9 * j + 4 < 2000000000 by omega)
  have a5 : nI (9 * j) + 5 = nI (9 * j + 5) := nI_add (9 * j) 5
  have k5 := nI_clampS (show 9 * j + 5 < 2000000000 by omega)
  have a6 : nI (9 * j) + 6 = nI (9 * j + 6) := nI_add (9 * j) 6
  have k6 := nI_clampS (show 9 * j + 6 < 2000000000 by omega)
  have a7 : nI (9 * j) + 7 = nI (9 * j + 7) := nI_add (9 * j) 7
  have k7 := nI_clampS (show 9 * j + 7 < 2000000000 by omega)
  have a8 : nI (9 * j) + 8 = nI (9 * j + 8) := nI_add (9 * j) 8
  have k8 := nI_clampS (show 9 * j + 8 < 2000000000 by omega)
  refine st b_L_law_1125 _ _ k_L_law_1125 _ _ _ _ _ ?_
  simp only [b_L_law_1125, lg_cmp_eq, lg_cmp_ge, lg_cmp_gt, lg_cmp_le, lg_cmp_lt, zr_T, zr_aload_n0, zr_aload_n1, zr_aload_n2, zr_cP_eq, zr_call0, zr_iadd, zr_iald1, zr_iconst, zr_ifc, zr_iload_n3, zr_iret, zr_lcmp, zr_rt_a, zr_rt_i, zr_rt_l, zr_rt_n, zr_rt_z, zr_nil, zr_cons, ↓reduceIte, Nat.reduceAdd, Nat.reduceEqDiff, Nat.reduceLeDiff, Nat.reduceMul, Nat.reduceSub, Int32.reduceOfInt, Int64.reduceOfInt, Int64.reduceOfNat, true_and, and_true, false_and, and_false, or_false, false_or, true_or, or_true, Int.reduceEq, reduceCtorEq, or_self, and_self, ne_eq, not_false_eq_true, not_true_eq_false, eq_self, Nat.le_refl, Nat.zero_le, zr_eI, zr_eL, zr_eR, zr_pI, zr_pL, zr_pR, zr_pO, zr_pV, zq_pA0, zq_pA, zr_get, zr_put_n, zr_put, zr_rem_n, zr_rem, zr_cat_i, zr_cat_l, zr_cat_q, zr_w_n, zr_w, zr_args_n, zr_args, zr_tl_s, zr_tl_n, zq_hIsI, zq_hLsL, zq_hRsR, zq_hIsL, zq_hIsR, zq_hLsI, zq_hLsR, zq_hRsI, zq_hRsL, zq_hNsI, zq_hNsL, zq_hNsR, zq_hZsI, zq_hZsL, zq_hZsR, b2_01, Classical.not_not, Int32.toInt_toInt64, Int64.reduceToInt, zc_1000, zc_100, zc_10, zc_9, zc_2, ci_f, a1, k1, a2, k2, a3, k3, a4, k4, a5, k5, a6, k6, a7, k7, a8, k8]
  refine ⟨by exact vp_in_nI (by omega) (by omega), ?_⟩
  refine cpx (by omega) lk_L_120 (rc_13 rfl) (c_written l G _ (by omega) (0, nI (o_W S)) S h C inv _) (by omega) (by omega) (fun r1 h1 g1 => ?_)
  obtain ⟨rfl, C1, m1⟩ := g1
  have e1 : mv h1 = S := m1.mv.trans e
  have M1 := m1.mr M
  simp only [lg_cmp_eq, lg_cmp_ge, lg_cmp_gt, lg_cmp_le, lg_cmp_lt, zr_T, zr_aload_n0, zr_aload_n2, zr_cP_eq, zr_call0, zr_iadd, zr_iald1, zr_iconst, zr_ifc, zr_iload_n3, zr_iret, zr_lcmp, zr_rt_a, zr_rt_i, zr_rt_l, zr_rt_n, zr_rt_z, zr_nil, zr_cons, ↓reduceIte, Nat.reduceAdd, Nat.reduceEqDiff, Nat.reduceLeDiff, Nat.reduceMul, Nat.reduceSub, Int32.reduceOfInt, Int64.reduceOfInt, Int64.reduceOfNat, true_and, and_true, false_and, and_false, or_false, false_or, true_or, or_true, Int.reduceEq, reduceCtorEq, or_self, and_self, ne_eq, not_false_eq_true, not_true_eq_false, eq_self, Nat.le_refl, Nat.zero_le, zr_eI, zr_eL, zr_eR, zr_pI, zr_pL, zr_pR, zr_pO, zr_pV, zq_pA0, zq_pA, zr_get, zr_put_n, zr_put, zr_rem_n, zr_rem, zr_cat_i, zr_cat_l, zr_cat_q, zr_w_n, zr_w, zr_args_n, zr_args, zr_tl_s, zr_tl_n, zq_hIsI, zq_hLsL, zq_hRsR, zq_hIsL, zq_hIsR, zq_hLsI, zq_hLsR, zq_hRsI, zq_hRsL, zq_hNsI, zq_hNsL, zq_hNsR, zq_hZsI, zq_hZsL, zq_hZsR, b2_01, Classical.not_not, Int32.toInt_toInt64, Int64.reduceToInt, zc_1000, zc_100, zc_10, zc_9, zc_2, ci_f, a1, k1, a2, k2, a3, k3, a4, k4, a5, k5, a6, k6, a7, k7, a8, k8]
  refine ⟨by exact vp_in_nI (by omega) (by omega), ?_⟩
  refine cpx (by omega) lk_L_123 (rc_14 rfl) (m_written l G _ (by omega) S h1 e1 M1 inv _) (by omega) (by omega) (fun r2 h2 g2 => ?_)
  obtain ⟨rfl, e2, s2, M2⟩ := g2
  simp only [lg_cmp_eq, lg_cmp_ge, lg_cmp_gt, lg_cmp_le, lg_cmp_lt, zr_T, zr_cP_eq, zr_iconst, zr_ifc, zr_iret, zr_lcmp, zr_rt_a, zr_rt_i, zr_rt_l, zr_rt_n, zr_rt_z, zr_nil, zr_cons, ↓reduceIte, Nat.reduceAdd, Nat.reduceEqDiff, Nat.reduceLeDiff, Nat.reduceMul, Nat.reduceSub, Int32.reduceOfInt, Int64.reduceOfInt, Int64.reduceOfNat, true_and, and_true, false_and, and_false, or_false, false_or, true_or, or_true, Int.reduceEq, reduceCtorEq, or_self, and_self, ne_eq, not_false_eq_true, not_true_eq_false, eq_self, Nat.le_refl, Nat.zero_le, zr_eI, zr_eL, zr_eR, zr_pI, zr_pL, zr_pR, zr_pO, zr_pV, zq_pA0, zq_pA, zr_get, zr_put_n, zr_put, zr_rem_n, zr_rem, zr_cat_i, zr_cat_l, zr_cat_q, zr_w_n, zr_w, zr_args_n, zr_args, zr_tl_s, zr_tl_n, zq_hIsI, zq_hLsL, zq_hRsR, zq_hIsL, zq_hIsR, zq_hLsI, zq_hLsR, zq_hRsI, zq_hRsL, zq_hNsI, zq_hNsL, zq_hNsR, zq_hZsI, zq_hZsL, zq_hZsR, b2_01, Classical.not_not, Int32.toInt_toInt64, Int64.reduceToInt, zc_1000, zc_100, zc_10, zc_9, zc_2, ci_f, a1, k1, a2, k2, a3, k3, a4, k4, a5, k5, a6, k6, a7, k7, a8, k8]
  refine ⟨fun qc1 => ?_, fun qc1 => ?_⟩
  · try simp only [b2_0, Classical.not_not] at qc1
    try simp only [Int64.le_iff_toInt_le, Int64.lt_iff_toInt_lt, Int32.lt_iff_toInt_lt, Int32.le_iff_toInt_le, Int32.toInt_toInt64, Int64.reduceToInt, Int32.reduceToInt, Int.reduceNeg, Classical.not_not, i32e, l_add] at qc1
    all_goals
      exact K _ _ _ _ (LI.mk C1 s2 e2 M2 inv rfl (by omega) (by omega))
  · try simp only [b2_0, Classical.not_not] at qc1
    try simp only [Int64.le_iff_toInt_le, Int64.lt_iff_toInt_lt, Int32.lt_iff_toInt_lt, Int32.le_iff_toInt_le, Int32.toInt_toInt64, Int64.reduceToInt, Int32.reduceToInt, Int.reduceNeg, Classical.not_not, i32e, l_add] at qc1
    all_goals
      contradiction
set_option maxRecDepth 4000 in
theorem lc_line {l : Launch} {G : z_G} {A : Nat → z_K} (st : LawSt l G A) {j : Nat} {S : z_M} {h : z_H} {ce sl : Nat} (hj : 9 * j + 9 ≤ gL G) (hL : gL G ≤ 4608) (I : LI j S h ce sl) (K : LK A j) : A 1149 [(0, z_r 400 0), (1, z_r 13 0), (2, z_r 14 0), (3, z_i (nI (9 * j)))] [] h ce sl := by
  obtain ⟨C, e, M, inv, c1, c2⟩ := I
  have hWd : o_W S = o_wt (mA S 42) (nO S) := rfl
  have a1 : nI (9 * j) + 1 = nI (9 * j + 1) := nI_add (9 * j) 1
  have k1 := nI_clampS (show 9 * j + 1 < 2000000000 by omega)
  have a2 : nI (9 * j) + 2 = nI (9 * j + 2) := nI_add (9 * j) 2
  have k2 := nI_clampS (show 9 * j + 2 < 2000000000 by omega)
  have a3 : nI (9 * j) + 3 = nI (9 * j + 3) := nI_add (9 * j) 3
  have k3 := nI_clampS (show 9 * j + 3 < 2000000000 by omega)
  have a4 : nI (9 * j) + 4 = nI (9 * j + 4) := nI_add (9 * j) 4
  have k4 := nI_clampS (show 9 * j + 4 < 2000000000 by omega)
  have a5 : nI (9 * j) + 5 = nI (9 * j + 5) := nI_add (9 * j) 5
  have k5 := nI_clampS (show 9 * j + 5 < 2000000000 by omega)
  have a6 : nI (9 * j) + 6 = nI (9 * j + 6) := nI_add (9 * j) 6
  have k6 := nI_clampS (show 9 * j + 6 < 2000000000 by omega)
  have a7 : nI (9 * j) + 7 = nI (9 * j + 7) := nI_add (9 * j) 7
  have k7 := nI_clampS (show 9 * j + 7 < 2000000000 by omega)
  have a8 : nI (9 * j) + 8 = nI (9 * j + 8) := nI_add (9 * j) 8
  have k8 := nI_clampS (show 9 * j + 8 < 2000000000 by omega)
  refine st b_L_law_1149 _ _ k_L_law_1149 _ _ _ _ _ ?_
  simp only [b_L_law_1149, zr_T, zr_aload_n0, zr_aload_n1, zr_aload_n2, zr_cP_eq, zr_call0, zr_iadd, zr_iald1, zr_icmp, zr_iconst, zr_iload_n3, zr_iret, zr_rt_a, zr_rt_i, zr_rt_l, zr_rt_n, zr_rt_z, zr_nil, zr_cons, ↓reduceIte, Nat.reduceAdd, Nat.reduceEqDiff, Nat.reduceLeDiff, Nat.reduceMul, Nat.reduceSub, Int32.reduceOfInt, Int64.reduceOfInt, Int64.reduceOfNat, true_and, and_true, false_and, and_false, or_false, false_or, true_or, or_true, Int.reduceEq, reduceCtorEq, or_self, and_self, ne_eq, not_false_eq_true, not_true_eq_false, eq_self, Nat.le_refl, Nat.zero_le, zr_eI, zr_eL, zr_eR, zr_pI, zr_pL, zr_pR, zr_pO, zr_pV, zq_pA0, zq_pA, zr_get, zr_put_n, zr_put, zr_rem_n, zr_rem, zr_cat_i, zr_cat_l, zr_cat_q, zr_w_n, zr_w, zr_args_n, zr_args, zr_tl_s, zr_tl_n, zq_hIsI, zq_hLsL, zq_hRsR, zq_hIsL, zq_hIsR, zq_hLsI, zq_hLsR, zq_hRsI, zq_hRsL, zq_hNsI, zq_hNsL, zq_hNsR, zq_hZsI, zq_hZsL, zq_hZsR, b2_01, Classical.not_not, Int32.toInt_toInt64, Int64.reduceToInt, zc_1000, zc_100, zc_10, zc_9, zc_2, ci_f, a1, k1, a2, k2, a3, k3, a4, k4, a5, k5, a6, k6, a7, k7, a8, k8]
  refine ⟨by exact vp_in_nI (by omega) (by omega), ?_⟩
  refine ⟨by exact vp_in_nI (by omega) (by omega), ?_⟩
  refine cpx (by omega) lk_L_124 (rc_13 rfl) (c_line l G _ (by omega) (0, nI (o_W S)) S h C inv _ _) (by omega) (by omega) (fun r1 h1 g1 => ?_)
  obtain ⟨rfl, C1, m1⟩ := g1
  have e1 : mv h1 = S := m1.mv.trans e
  have M1 := m1.mr M
  simp only [zr_T, zr_aload_n0, zr_aload_n2, zr_cP_eq, zr_call0, zr_iadd, zr_iald1, zr_icmp, zr_iconst, zr_iload_n3, zr_iret, zr_rt_a, zr_rt_i, zr_rt_l, zr_rt_n, zr_rt_z, zr_nil, zr_cons, ↓reduceIte, Nat.reduceAdd, Nat.reduceEqDiff, Nat.reduceLeDiff, Nat.reduceMul, Nat.reduceSub, Int32.reduceOfInt, Int64.reduceOfInt, Int64.reduceOfNat, true_and, and_true, false_and, and_false, or_false, false_or, true_or, or_true, Int.reduceEq, reduceCtorEq, or_self, and_self, ne_eq, not_false_eq_true, not_true_eq_false, eq_self, Nat.le_refl, Nat.zero_le, zr_eI, zr_eL, zr_eR, zr_pI, zr_pL, zr_pR, zr_pO, zr_pV, zq_pA0, zq_pA, zr_get, zr_put_n, zr_put, zr_rem_n, zr_rem, zr_cat_i, zr_cat_l, zr_cat_q, zr_w_n, zr_w, zr_args_n, zr_args, zr_tl_s, zr_tl_n, zq_hIsI, zq_hLsL, zq_hRsR, zq_hIsL, zq_hIsR, zq_hLsI, zq_hLsR, zq_hRsI, zq_hRsL, zq_hNsI, zq_hNsL, zq_hNsR, zq_hZsI, zq_hZsL, zq_hZsR, b2_01, Classical.not_not, Int32.toInt_toInt64, Int64.reduceToInt, zc_1000, zc_100, zc_10, zc_9, zc_2, ci_f, a1, k1, a2, k2, a3, k3, a4, k4, a5, k5, a6, k6, a7, k7, a8, k8]
  refine ⟨by exact vp_in_nI (by omega) (by omega), ?_⟩
  refine ⟨by exact vp_in_nI (by omega) (by omega), ?_⟩
  refine cpx (by omega) lk_L_127 (rc_14 rfl) (m_line l G _ (by omega) S h1 e1 M1 inv _ _) (by omega) (by omega) (fun r2 h2 g2 => ?_)
  obtain ⟨rfl, e2, s2, M2⟩ := g2
  simp only [zr_T, zr_cP_eq, zr_icmp, zr_iconst, zr_iret, zr_rt_a, zr_rt_i, zr_rt_l, zr_rt_n, zr_rt_z, zr_nil, zr_cons, ↓reduceIte, Nat.reduceAdd, Nat.reduceEqDiff, Nat.reduceLeDiff, Nat.reduceMul, Nat.reduceSub, Int32.reduceOfInt, Int64.reduceOfInt, Int64.reduceOfNat, true_and, and_true, false_and, and_false, or_false, false_or, true_or, or_true, Int.reduceEq, reduceCtorEq, or_self, and_self, ne_eq, not_false_eq_true, not_true_eq_false, eq_self, Nat.le_refl, Nat.zero_le, zr_eI, zr_eL, zr_eR, zr_pI, zr_pL, zr_pR, zr_pO, zr_pV, zq_pA0, zq_pA, zr_get, zr_put_n, zr_put, zr_rem_n, zr_rem, zr_cat_i, zr_cat_l, zr_cat_q, zr_w_n, zr_w, zr_args_n, zr_args, zr_tl_s, zr_tl_n, zq_hIsI, zq_hLsL, zq_hRsR, zq_hIsL, zq_hIsR, zq_hLsI, zq_hLsR, zq_hRsI, zq_hRsL, zq_hNsI, zq_hNsL, zq_hNsR, zq_hZsI, zq_hZsL, zq_hZsR, b2_01, Classical.not_not, Int32.toInt_toInt64, Int64.reduceToInt, zc_1000, zc_100, zc_10, zc_9, zc_2, ci_f, a1, k1, a2, k2, a3, k3, a4, k4, a5, k5, a6, k6, a7, k7, a8, k8]
  refine ⟨fun qc1 => ?_, fun qc1 => ?_⟩
  · try simp only [b2_0, Classical.not_not] at qc1
    try simp only [Int64.le_iff_toInt_le, Int64.lt_iff_toInt_lt, Int32.lt_iff_toInt_lt, Int32.le_iff_toInt_le, Int32.toInt_toInt64, Int64.reduceToInt, Int32.reduceToInt, Int.reduceNeg, Classical.not_not, i32e, l_add] at qc1
    all_goals
      exact K _ _ _ _ (LI.mk C1 s2 e2 M2 inv rfl (by omega) (by omega))
  · try simp only [b2_0, Classical.not_not] at qc1
    try simp only [Int64.le_iff_toInt_le, Int64.lt_iff_toInt_lt, Int32.lt_iff_toInt_lt, Int32.le_iff_toInt_le, Int32.toInt_toInt64, Int64.reduceToInt, Int32.reduceToInt, Int.reduceNeg, Classical.not_not, i32e, l_add] at qc1
    all_goals
      contradiction
set_option maxRecDepth 4000 in
theorem lc_lineSum {l : Launch} {G : z_G} {A : Nat → z_K} (st : LawSt l G A) {j : Nat} {S : z_M} {h : z_H} {ce sl : Nat} (hj : 9 * j + 9 ≤ gL G) (hL : gL G ≤ 4608) (I : LI j S h ce sl) (K : LK A j) : A 1182 [(0, z_r 400 0), (1, z_r 13 0), (2, z_r 14 0), (3, z_i (nI (9 * j)))] [] h ce sl := by
  obtain ⟨C, e, M, inv, c1, c2⟩ := I
  have hWd : o_W S = o_wt (mA S 42) (nO S) := rfl
  have a1 : nI (9 * j) + 1 = nI (9 * j + 1) := nI_add (9 * j) 1
  have k1 := nI_clampS (show 9 * j + 1 < 2000000000 by omega)
  have a2 : nI (9 * j) + 2 = nI (9 * j + 2) := nI_add (9 * j) 2
  have k2 := nI_clampS (show 9 * j + 2 < 2000000000 by omega)
  have a3 : nI (9 * j) + 3 = nI (9 * j + 3) := nI_add (9 * j) 3
  have k3 := nI_clampS (show 9 * j + 3 < 2000000000 by omega)
  have a4 : nI (9 * j) + 4 = nI (9 * j + 4) := nI_add (9 * j) 4
  have k4 := nI_clampS (show 9 * j + 4 < 2000000000 by omega)
  have a5 : nI (9 * j) + 5 = nI (9 * j + 5) := nI_add (9 * j) 5
  have k5 := nI_clampS (show 9 * j + 5 < 2000000000 by omega)
  have a6 : nI (9 * j) + 6 = nI (9 * j + 6) := nI_add (9 * j) 6
  have k6 := nI_clampS (show 9 * j + 6 < 2000000000 by omega)
  have a7 : nI (9 * j) + 7 = nI (9 * j + 7) := nI_add (9 * j) 7
  have k7 := nI_clampS (show 9 * j + 7 < 2000000000 by omega)
  have a8 : nI (9 * j) + 8 = nI (9 * j + 8) := nI_add (9 * j) 8
  have k8 := nI_clampS (show 9 * j + 8 < 2000000000 by omega)
  refine st b_L_law_1182 _ _ k_L_law_1182 _ _ _ _ _ ?_
  simp only [b_L_law_1182, lg_cmp_eq, lg_cmp_ge, lg_cmp_gt, lg_cmp_le, lg_cmp_lt, zr_T, zr_aload_n0, zr_aload_n1, zr_aload_n2, zr_cP_eq, zr_call0, zr_iadd, zr_iald1, zr_iconst, zr_ifc, zr_iload_n3, zr_iret, zr_lcmp, zr_rt_a, zr_rt_i, zr_rt_l, zr_rt_n, zr_rt_z, zr_nil, zr_cons, ↓reduceIte, Nat.reduceAdd, Nat.reduceEqDiff, Nat.reduceLeDiff, Nat.reduceMul, Nat.reduceSub, Int32.reduceOfInt, Int64.reduceOfInt, Int64.reduceOfNat, true_and, and_true, false_and, and_false, or_false, false_or, true_or, or_true, Int.reduceEq, reduceCtorEq, or_self, and_self, ne_eq, not_false_eq_true, not_true_eq_false, eq_self, Nat.le_refl, Nat.zero_le, zr_eI, zr_eL, zr_eR, zr_pI, zr_pL, zr_pR, zr_pO, zr_pV, zq_pA0, zq_pA, zr_get, zr_put_n, zr_put, zr_rem_n, zr_rem, zr_cat_i, zr_cat_l, zr_cat_q, zr_w_n, zr_w, zr_args_n, zr_args, zr_tl_s, zr_tl_n, zq_hIsI, zq_hLsL, zq_hRsR, zq_hIsL, zq_hIsR, zq_hLsI, zq_hLsR, zq_hRsI, zq_hRsL, zq_hNsI, zq_hNsL, zq_hNsR, zq_hZsI, zq_hZsL, zq_hZsR, b2_01, Classical.not_not, Int32.toInt_toInt64, Int64.reduceToInt, zc_1000, zc_100, zc_10, zc_9, zc_2, ci_f, a1, k1, a2, k2, a3, k3, a4, k4, a5, k5, a6, k6, a7, k7, a8, k8]
  refine ⟨by exact vp_in_nI (by omega) (by omega), ?_⟩
  refine cpx (by omega) lk_L_128 (rc_13 rfl) (c_lineSum l G _ (by omega) (0, nI (o_W S)) S h C inv _) (by omega) (by omega) (fun r1 h1 g1 => ?_)
  obtain ⟨rfl, C1, m1⟩ := g1
  have e1 : mv h1 = S := m1.mv.trans e
  have M1 := m1.mr M
  simp only [lg_cmp_eq, lg_cmp_ge, lg_cmp_gt, lg_cmp_le, lg_cmp_lt, zr_T, zr_aload_n0, zr_aload_n2, zr_cP_eq, zr_call0, zr_iadd, zr_iald1, zr_iconst, zr_ifc, zr_iload_n3, zr_iret, zr_lcmp, zr_rt_a, zr_rt_i, zr_rt_l, zr_rt_n, zr_rt_z, zr_nil, zr_cons, ↓reduceIte, Nat.reduceAdd, Nat.reduceEqDiff, Nat.reduceLeDiff, Nat.reduceMul, Nat.reduceSub, Int32.reduceOfInt, Int64.reduceOfInt, Int64.reduceOfNat, true_and, and_true, false_and, and_false, or_false, false_or, true_or, or_true, Int.reduceEq, reduceCtorEq, or_self, and_self, ne_eq, not_false_eq_true, not_true_eq_false, eq_self, Nat.le_refl, Nat.zero_le, zr_eI, zr_eL, zr_eR, zr_pI, zr_pL, zr_pR, zr_pO, zr_pV, zq_pA0, zq_pA, zr_get, zr_put_n, zr_put, zr_rem_n, zr_rem, zr_cat_i, zr_cat_l, zr_cat_q, zr_w_n, zr_w, zr_args_n, zr_args, zr_tl_s, zr_tl_n, zq_hIsI, zq_hLsL, zq_hRsR, zq_hIsL, zq_hIsR, zq_hLsI, zq_hLsR, zq_hRsI, zq_hRsL, zq_hNsI, zq_hNsL, zq_hNsR, zq_hZsI, zq_hZsL, zq_hZsR, b2_01, Classical.not_not, Int32.toInt_toInt64, Int64.reduceToInt, zc_1000, zc_100, zc_10, zc_9, zc_2, ci_f, a1, k1, a2, k2, a3, k3, a4, k4, a5, k5, a6, k6, a7, k7, a8, k8]
  refine ⟨by exact vp_in_nI (by omega) (by omega), ?_⟩
  refine cpx (by omega) lk_L_131 (rc_14 rfl) (m_lineSum l G _ (by omega) S h1 e1 M1 inv _) (by omega) (by omega) (fun r2 h2 g2 => ?_)
  obtain ⟨rfl, e2, s2, M2⟩ := g2
  simp only [lg_cmp_eq, lg_cmp_ge, lg_cmp_gt, lg_cmp_le, lg_cmp_lt, zr_T, zr_cP_eq, zr_iconst, zr_ifc, zr_iret, zr_lcmp, zr_rt_a, zr_rt_i, zr_rt_l, zr_rt_n, zr_rt_z, zr_nil, zr_cons, ↓reduceIte, Nat.reduceAdd, Nat.reduceEqDiff, Nat.reduceLeDiff, Nat.reduceMul, Nat.reduceSub, Int32.reduceOfInt, Int64.reduceOfInt, Int64.reduceOfNat, true_and, and_true, false_and, and_false, or_false, false_or, true_or, or_true, Int.reduceEq, reduceCtorEq, or_self, and_self, ne_eq, not_false_eq_true, not_true_eq_false, eq_self, Nat.le_refl, Nat.zero_le, zr_eI, zr_eL, zr_eR, zr_pI, zr_pL, zr_pR, zr_pO, zr_pV, zq_pA0, zq_pA, zr_get, zr_put_n, zr_put, zr_rem_n, zr_rem, zr_cat_i, zr_cat_l, zr_cat_q, zr_w_n, zr_w, zr_args_n, zr_args, zr_tl_s, zr_tl_n, zq_hIsI, zq_hLsL, zq_hRsR, zq_hIsL, zq_hIsR, zq_hLsI, zq_hLsR, zq_hRsI, zq_hRsL, zq_hNsI, zq_hNsL, zq_hNsR, zq_hZsI, zq_hZsL, zq_hZsR, b2_01, Classical.not_not, Int32.toInt_toInt64, Int64.reduceToInt, zc_1000, zc_100, zc_10, zc_9, zc_2, ci_f, a1, k1, a2, k2, a3, k3, a4, k4, a5, k5, a6, k6, a7, k7, a8, k8]
  refine ⟨fun qc1 => ?_, fun qc1 => ?_⟩
  · try simp only [b2_0, Classical.not_not] at qc1
    try simp only [Int64.le_iff_toInt_le, Int64.lt_iff_toInt_lt, Int32.lt_iff_toInt_lt, Int32.le_iff_toInt_le, Int32.toInt_toInt64, Int64.reduceToInt, Int32.reduceToInt, Int.reduceNeg, Classical.not_not, i32e, l_add] at qc1
    all_goals
      exact K _ _ _ _ (LI.mk C1 s2 e2 M2 inv rfl (by omega) (by omega))
  · try simp only [b2_0, Classical.not_not] at qc1
    try simp only [Int64.le_iff_toInt_le, Int64.lt_iff_toInt_lt, Int32.lt_iff_toInt_lt, Int32.le_iff_toInt_le, Int32.toInt_toInt64, Int64.reduceToInt, Int32.reduceToInt, Int.reduceNeg, Classical.not_not, i32e, l_add] at qc1
    all_goals
      contradiction
set_option maxRecDepth 4000 in
theorem lc_orderOf {l : Launch} {G : z_G} {A : Nat → z_K} (st : LawSt l G A) {j : Nat} {S : z_M} {h : z_H} {ce sl : Nat} (hj : 9 * j + 9 ≤ gL G) (hL : gL G ≤ 4608) (I : LI j S h ce sl) (K : LK A j) : A 1206 [(0, z_r 400 0), (1, z_r 13 0), (2, z_r 14 0), (3, z_i (nI (9 * j)))] [] h ce sl := by
  obtain ⟨C, e, M, inv, c1, c2⟩ := I
  have hWd : o_W S = o_wt (mA S 42) (nO S) := rfl
  have a1 : nI (9 * j) + 1 = nI (9 * j + 1) := nI_add (9 * j) 1
  have k1 := nI_clampS (show 9 * j + 1 < 2000000000 by omega)
  have a2 : nI (9 * j) + 2 = nI (9 * j + 2) := nI_add (9 * j) 2
  have k2 := nI_clampS (show 9 * j + 2 < 2000000000 by omega)
  have a3 : nI (9 * j) + 3 = nI (9 * j + 3) := nI_add (9 * j) 3
  have k3 := nI_clampS (show 9 * j + 3 < 2000000000 by omega)
  have a4 : nI (9 * j) + 4 = nI (9 * j + 4) := nI_add (9 * j) 4
  have k4 := nI_clampS (show 9 * j + 4 < 2000000000 by omega)
  have a5 : nI (9 * j) + 5 = nI (9 * j + 5) := nI_add (9 * j) 5
  have k5 := nI_clampS (show 9 * j + 5 < 2000000000 by omega)
  have a6 : nI (9 * j) + 6 = nI (9 * j + 6) := nI_add (9 * j) 6
  have k6 := nI_clampS (show 9 * j + 6 < 2000000000 by omega)
  have a7 : nI (9 * j) + 7 = nI (9 * j + 7) := nI_add (9 * j) 7
  have k7 := nI_clampS (show 9 * j + 7 < 2000000000 by omega)
  have a8 : nI (9 * j) + 8 = nI (9 * j + 8) := nI_add (9 * j) 8
  have k8 := nI_clampS (show 9 * j + 8 < 2000000000 by omega)
  refine st b_L_law_1206 _ _ k_L_law_1206 _ _ _ _ _ ?_
  simp only [b_L_law_1206, zr_T, zr_aload_n0, zr_aload_n1, zr_aload_n2, zr_cP_eq, zr_call0, zr_iadd, zr_iald1, zr_icmp, zr_iconst, zr_iload_n3, zr_iret, zr_rt_a, zr_rt_i, zr_rt_l, zr_rt_n, zr_rt_z, zr_nil, zr_cons, ↓reduceIte, Nat.reduceAdd, Nat.reduceEqDiff, Nat.reduceLeDiff, Nat.reduceMul, Nat.reduceSub, Int32.reduceOfInt, Int64.reduceOfInt, Int64.reduceOfNat, true_and, and_true, false_and, and_false, or_false, false_or, true_or, or_true, Int.reduceEq, reduceCtorEq, or_self, and_self, ne_eq, not_false_eq_true, not_true_eq_false, eq_self, Nat.le_refl, Nat.zero_le, zr_eI, zr_eL, zr_eR, zr_pI, zr_pL, zr_pR, zr_pO, zr_pV, zq_pA0, zq_pA, zr_get, zr_put_n, zr_put, zr_rem_n, zr_rem, zr_cat_i, zr_cat_l, zr_cat_q, zr_w_n, zr_w, zr_args_n, zr_args, zr_tl_s, zr_tl_n, zq_hIsI, zq_hLsL, zq_hRsR, zq_hIsL, zq_hIsR, zq_hLsI, zq_hLsR, zq_hRsI, zq_hRsL, zq_hNsI, zq_hNsL, zq_hNsR, zq_hZsI, zq_hZsL, zq_hZsR, b2_01, Classical.not_not, Int32.toInt_toInt64, Int64.reduceToInt, zc_1000, zc_100, zc_10, zc_9, zc_2, ci_f, a1, k1, a2, k2, a3, k3, a4, k4, a5, k5, a6, k6, a7, k7, a8, k8]
  refine ⟨by exact vp_in_nI (by omega) (by omega), ?_⟩
  refine ⟨by exact vp_in_nI (by omega) (by omega), ?_⟩
  refine cpx (by omega) lk_L_132 (rc_13 rfl) (c_orderOf l G _ (by omega) (0, nI (o_W S)) S h C inv _ _) (by omega) (by omega) (fun r1 h1 g1 => ?_)
  obtain ⟨rfl, C1, m1⟩ := g1
  have e1 : mv h1 = S := m1.mv.trans e
  have M1 := m1.mr M
  simp only [zr_T, zr_aload_n0, zr_aload_n2, zr_cP_eq, zr_call0, zr_iadd, zr_iald1, zr_icmp, zr_iconst, zr_iload_n3, zr_iret, zr_rt_a, zr_rt_i, zr_rt_l, zr_rt_n, zr_rt_z, zr_nil, zr_cons, ↓reduceIte, Nat.reduceAdd, Nat.reduceEqDiff, Nat.reduceLeDiff, Nat.reduceMul, Nat.reduceSub, Int32.reduceOfInt, Int64.reduceOfInt, Int64.reduceOfNat, true_and, and_true, false_and, and_false, or_false, false_or, true_or, or_true, Int.reduceEq, reduceCtorEq, or_self, and_self, ne_eq, not_false_eq_true, not_true_eq_false, eq_self, Nat.le_refl, Nat.zero_le, zr_eI, zr_eL, zr_eR, zr_pI, zr_pL, zr_pR, zr_pO, zr_pV, zq_pA0, zq_pA, zr_get, zr_put_n, zr_put, zr_rem_n, zr_rem, zr_cat_i, zr_cat_l, zr_cat_q, zr_w_n, zr_w, zr_args_n, zr_args, zr_tl_s, zr_tl_n, zq_hIsI, zq_hLsL, zq_hRsR, zq_hIsL, zq_hIsR, zq_hLsI, zq_hLsR, zq_hRsI, zq_hRsL, zq_hNsI, zq_hNsL, zq_hNsR, zq_hZsI, zq_hZsL, zq_hZsR, b2_01, Classical.not_not, Int32.toInt_toInt64, Int64.reduceToInt, zc_1000, zc_100, zc_10, zc_9, zc_2, ci_f, a1, k1, a2, k2, a3, k3, a4, k4, a5, k5, a6, k6, a7, k7, a8, k8]
  refine ⟨by exact vp_in_nI (by omega) (by omega), ?_⟩
  refine ⟨by exact vp_in_nI (by omega) (by omega), ?_⟩
  refine cpx (by omega) lk_L_135 (rc_14 rfl) (m_orderOf l G _ (by omega) S h1 e1 M1 inv _ _) (by omega) (by omega) (fun r2 h2 g2 => ?_)
  obtain ⟨rfl, e2, s2, M2⟩ := g2
  simp only [zr_T, zr_cP_eq, zr_icmp, zr_iconst, zr_iret, zr_rt_a, zr_rt_i, zr_rt_l, zr_rt_n, zr_rt_z, zr_nil, zr_cons, ↓reduceIte, Nat.reduceAdd, Nat.reduceEqDiff, Nat.reduceLeDiff, Nat.reduceMul, Nat.reduceSub, Int32.reduceOfInt, Int64.reduceOfInt, Int64.reduceOfNat, true_and, and_true, false_and, and_false, or_false, false_or, true_or, or_true, Int.reduceEq, reduceCtorEq, or_self, and_self, ne_eq, not_false_eq_true, not_true_eq_false, eq_self, Nat.le_refl, Nat.zero_le, zr_eI, zr_eL, zr_eR, zr_pI, zr_pL, zr_pR, zr_pO, zr_pV, zq_pA0, zq_pA, zr_get, zr_put_n, zr_put, zr_rem_n, zr_rem, zr_cat_i, zr_cat_l, zr_cat_q, zr_w_n, zr_w, zr_args_n, zr_args, zr_tl_s, zr_tl_n, zq_hIsI, zq_hLsL, zq_hRsR, zq_hIsL, zq_hIsR, zq_hLsI, zq_hLsR, zq_hRsI, zq_hRsL, zq_hNsI, zq_hNsL, zq_hNsR, zq_hZsI, zq_hZsL, zq_hZsR, b2_01, Classical.not_not, Int32.toInt_toInt64, Int64.reduceToInt, zc_1000, zc_100, zc_10, zc_9, zc_2, ci_f, a1, k1, a2, k2, a3, k3, a4, k4, a5, k5, a6, k6, a7, k7, a8, k8]
  refine ⟨fun qc1 => ?_, fun qc1 => ?_⟩
  · try simp only [b2_0, Classical.not_not] at qc1
    try simp only [Int64.le_iff_toInt_le, Int64.lt_iff_toInt_lt, Int32.lt_iff_toInt_lt, Int32.le_iff_toInt_le, Int32.toInt_toInt64, Int64.reduceToInt, Int32.reduceToInt, Int.reduceNeg, Classical.not_not, i32e, l_add] at qc1
    all_goals
      exact K _ _ _ _ (LI.mk C1 s2 e2 M2 inv rfl (by omega) (by omega))
  · try simp only [b2_0, Classical.not_not] at qc1
    try simp only [Int64.le_iff_toInt_le, Int64.lt_iff_toInt_lt, Int32.lt_iff_toInt_lt, Int32.le_iff_toInt_le, Int32.toInt_toInt64, Int64.reduceToInt, Int32.reduceToInt, Int.reduceNeg, Classical.not_not, i32e, l_add] at qc1
    all_goals
      contradiction
set_option maxRecDepth 4000 in
theorem lc_receipt {l : Launch} {G : z_G} {A : Nat → z_K} (st : LawSt l G A) {j : Nat} {S : z_M} {h : z_H} {ce sl : Nat} (hj : 9 * j + 9 ≤ gL G) (hL : gL G ≤ 4608) (I : LI j S h ce sl) (K : LK A j) : A 1239 [(0, z_r 400 0), (1, z_r 13 0), (2, z_r 14 0), (3, z_i (nI (9 * j)))] [] h ce sl := by
  obtain ⟨C, e, M, inv, c1, c2⟩ := I
  have hWd : o_W S = o_wt (mA S 42) (nO S) := rfl
  have a1 : nI (9 * j) + 1 = nI (9 * j + 1) := nI_add (9 * j) 1
  have k1 := nI_clampS (show 9 * j + 1 < 2000000000 by omega)
  have a2 : nI (9 * j) + 2 = nI (9 * j + 2) := nI_add (9 * j) 2
  have k2 := nI_clampS (show 9 * j + 2 < 2000000000 by omega)
  have a3 : nI (9 * j) + 3 = nI (9 * j + 3) := nI_add (9 * j) 3
  have k3 := nI_clampS (show 9 * j + 3 < 2000000000 by omega)
  have a4 : nI (9 * j) + 4 = nI (9 * j + 4) := nI_add (9 * j) 4
  have k4 := nI_clampS (show 9 * j + 4 < 2000000000 by omega)
  have a5 : nI (9 * j) + 5 = nI (9 * j + 5) := nI_add (9 * j) 5
  have k5 := nI_clampS (show 9 * j + 5 < 2000000000 by omega)
  have a6 : nI (9 * j) + 6 = nI (9 * j + 6) := nI_add (9 * j) 6
  have k6 := nI_clampS (show 9 * j + 6 < 2000000000 by omega)
  have a7 : nI (9 * j) + 7 = nI (9 * j + 7) := nI_add (9 * j) 7
  have k7 := nI_clampS (show 9 * j + 7 < 2000000000 by omega)
  have a8 : nI (9 * j) + 8 = nI (9 * j + 8) := nI_add (9 * j) 8
  have k8 := nI_clampS (show 9 * j + 8 < 2000000000 by omega)
  refine st b_L_law_1239 _ _ k_L_law_1239 _ _ _ _ _ ?_
  simp only [b_L_law_1239, zr_T, zr_aload_n0, zr_aload_n1, zr_aload_n2, zr_cP_eq, zr_call0, zr_iadd, zr_iald1, zr_icmp, zr_iconst, zr_iload_n3, zr_iret, zr_rt_a, zr_rt_i, zr_rt_l, zr_rt_n, zr_rt_z, zr_nil, zr_cons, ↓reduceIte, Nat.reduceAdd, Nat.reduceEqDiff, Nat.reduceLeDiff, Nat.reduceMul, Nat.reduceSub, Int32.reduceOfInt, Int64.reduceOfInt, Int64.reduceOfNat, true_and, and_true, false_and, and_false, or_false, false_or, true_or, or_true, Int.reduceEq, reduceCtorEq, or_self, and_self, ne_eq, not_false_eq_true, not_true_eq_false, eq_self, Nat.le_refl, Nat.zero_le, zr_eI, zr_eL, zr_eR, zr_pI, zr_pL, zr_pR, zr_pO, zr_pV, zq_pA0, zq_pA, zr_get, zr_put_n, zr_put, zr_rem_n, zr_rem, zr_cat_i, zr_cat_l, zr_cat_q, zr_w_n, zr_w, zr_args_n, zr_args, zr_tl_s, zr_tl_n, zq_hIsI, zq_hLsL, zq_hRsR, zq_hIsL, zq_hIsR, zq_hLsI, zq_hLsR, zq_hRsI, zq_hRsL, zq_hNsI, zq_hNsL, zq_hNsR, zq_hZsI, zq_hZsL, zq_hZsR, b2_01, Classical.not_not, Int32.toInt_toInt64, Int64.reduceToInt, zc_1000, zc_100, zc_10, zc_9, zc_2, ci_f, a1, k1, a2, k2, a3, k3, a4, k4, a5, k5, a6, k6, a7, k7, a8, k8]
  refine ⟨by exact vp_in_nI (by omega) (by omega), ?_⟩
  refine ⟨by exact vp_in_nI (by omega) (by omega), ?_⟩
  refine cpx (by omega) lk_L_136 (rc_13 rfl) (c_receipt l G _ (by omega) (0, nI (o_W S)) S h C inv _ _) (by omega) (by omega) (fun r1 h1 g1 => ?_)
  obtain ⟨rfl, C1, m1⟩ := g1
  have e1 : mv h1 = S := m1.mv.trans e
  have M1 := m1.mr M
  simp only [zr_T, zr_aload_n0, zr_aload_n2, zr_cP_eq, zr_call0, zr_iadd, zr_iald1, zr_icmp, zr_iconst, zr_iload_n3, zr_iret, zr_rt_a, zr_rt_i, zr_rt_l, zr_rt_n, zr_rt_z, zr_nil, zr_cons, ↓reduceIte, Nat.reduceAdd, Nat.reduceEqDiff, Nat.reduceLeDiff, Nat.reduceMul, Nat.reduceSub, Int32.reduceOfInt, Int64.reduceOfInt, Int64.reduceOfNat, true_and, and_true, false_and, and_false, or_false, false_or, true_or, or_true, Int.reduceEq, reduceCtorEq, or_self, and_self, ne_eq, not_false_eq_true, not_true_eq_false, eq_self, Nat.le_refl, Nat.zero_le, zr_eI, zr_eL, zr_eR, zr_pI, zr_pL, zr_pR, zr_pO, zr_pV, zq_pA0, zq_pA, zr_get, zr_put_n, zr_put, zr_rem_n, zr_rem, zr_cat_i, zr_cat_l, zr_cat_q, zr_w_n, zr_w, zr_args_n, zr_args, zr_tl_s, zr_tl_n, zq_hIsI, zq_hLsL, zq_hRsR, zq_hIsL, zq_hIsR, zq_hLsI, zq_hLsR, zq_hRsI, zq_hRsL, zq_hNsI, zq_hNsL, zq_hNsR, zq_hZsI, zq_hZsL, zq_hZsR, b2_01, Classical.not_not, Int32.toInt_toInt64, Int64.reduceToInt, zc_1000, zc_100, zc_10, zc_9, zc_2, ci_f, a1, k1, a2, k2, a3, k3, a4, k4, a5, k5, a6, k6, a7, k7, a8, k8]
  refine ⟨by exact vp_in_nI (by omega) (by omega), ?_⟩
  refine ⟨by exact vp_in_nI (by omega) (by omega), ?_⟩
  refine cpx (by omega) lk_L_139 (rc_14 rfl) (m_receipt l G _ (by omega) S h1 e1 M1 inv _ _) (by omega) (by omega) (fun r2 h2 g2 => ?_)
  obtain ⟨rfl, e2, s2, M2⟩ := g2
  simp only [zr_T, zr_cP_eq, zr_icmp, zr_iconst, zr_iret, zr_rt_a, zr_rt_i, zr_rt_l, zr_rt_n, zr_rt_z, zr_nil, zr_cons, ↓reduceIte, Nat.reduceAdd, Nat.reduceEqDiff, Nat.reduceLeDiff, Nat.reduceMul, Nat.reduceSub, Int32.reduceOfInt, Int64.reduceOfInt, Int64.reduceOfNat, true_and, and_true, false_and, and_false, or_false, false_or, true_or, or_true, Int.reduceEq, reduceCtorEq, or_self, and_self, ne_eq, not_false_eq_true, not_true_eq_false, eq_self, Nat.le_refl, Nat.zero_le, zr_eI, zr_eL, zr_eR, zr_pI, zr_pL, zr_pR, zr_pO, zr_pV, zq_pA0, zq_pA, zr_get, zr_put_n, zr_put, zr_rem_n, zr_rem, zr_cat_i, zr_cat_l, zr_cat_q, zr_w_n, zr_w, zr_args_n, zr_args, zr_tl_s, zr_tl_n, zq_hIsI, zq_hLsL, zq_hRsR, zq_hIsL, zq_hIsR, zq_hLsI, zq_hLsR, zq_hRsI, zq_hRsL, zq_hNsI, zq_hNsL, zq_hNsR, zq_hZsI, zq_hZsL, zq_hZsR, b2_01, Classical.not_not, Int32.toInt_toInt64, Int64.reduceToInt, zc_1000, zc_100, zc_10, zc_9, zc_2, ci_f, a1, k1, a2, k2, a3, k3, a4, k4, a5, k5, a6, k6, a7, k7, a8, k8]
  refine ⟨fun qc1 => ?_, fun qc1 => ?_⟩
  · try simp only [b2_0, Classical.not_not] at qc1
    try simp only [Int64.le_iff_toInt_le, Int64.lt_iff_toInt_lt, Int32.lt_iff_toInt_lt, Int32.le_iff_toInt_le, Int32.toInt_toInt64, Int64.reduceToInt, Int32.reduceToInt, Int.reduceNeg, Classical.not_not, i32e, l_add] at qc1
    all_goals
      exact K _ _ _ _ (LI.mk C1 s2 e2 M2 inv rfl (by omega) (by omega))
  · try simp only [b2_0, Classical.not_not] at qc1
    try simp only [Int64.le_iff_toInt_le, Int64.lt_iff_toInt_lt, Int32.lt_iff_toInt_lt, Int32.le_iff_toInt_le, Int32.toInt_toInt64, Int64.reduceToInt, Int32.reduceToInt, Int.reduceNeg, Classical.not_not, i32e, l_add] at qc1
    all_goals
      contradiction
set_option maxRecDepth 4000 in
theorem lc_book {l : Launch} {G : z_G} {A : Nat → z_K} (st : LawSt l G A) {j : Nat} {S : z_M} {h : z_H} {ce sl : Nat} (hj : 9 * j + 9 ≤ gL G) (hL : gL G ≤ 4608) (I : LI j S h ce sl) (K : LK A j) : A 1272 [(0, z_r 400 0), (1, z_r 13 0), (2, z_r 14 0), (3, z_i (nI (9 * j)))] [] h ce sl := by
  obtain ⟨C, e, M, inv, c1, c2⟩ := I
  have hWd : o_W S = o_wt (mA S 42) (nO S) := rfl
  have a1 : nI (9 * j) + 1 = nI (9 * j + 1) := nI_add (9 * j) 1
  have k1 := nI_clampS (show 9 * j + 1 < 2000000000 by omega)
  have a2 : nI (9 * j) + 2 = nI (9 * j + 2) := nI_add (9 * j) 2
  have k2 := nI_clampS (show 9 * j + 2 < 2000000000 by omega)
  have a3 : nI (9 * j) + 3 = nI (9 * j + 3) := nI_add (9 * j) 3
  have k3 := nI_clampS (show 9 * j + 3 < 2000000000 by omega)
  have a4 : nI (9 * j) + 4 = nI (9 * j + 4) := nI_add (9 * j) 4
  have k4 := nI_clampS (show 9 * j + 4 < 2000000000 by omega)
  have a5 : nI (9 * j) + 5 = nI (9 * j + 5) := nI_add (9 * j) 5
  have k5 := nI_clampS (show 9 * j + 5 < 2000000000 by omega)
  have a6 : nI (9 * j) + 6 = nI (9 * j + 6) := nI_add (9 * j) 6
  have k6 := nI_clampS (show 9 * j + 6 < 2000000000 by omega)
  have a7 : nI (9 * j) + 7 = nI (9 * j + 7) := nI_add (9 * j) 7
  have k7 := nI_clampS (show 9 * j + 7 < 2000000000 by omega)
  have a8 : nI (9 * j) + 8 = nI (9 * j + 8) := nI_add (9 * j) 8
  have k8 := nI_clampS (show 9 * j + 8 < 2000000000 by omega)
  refine st b_L_law_1272 _ _ k_L_law_1272 _ _ _ _ _ ?_
  simp only [b_L_law_1272, lg_cmp_eq, lg_cmp_ge, lg_cmp_gt, lg_cmp_le, lg_cmp_lt, zr_T, zr_aload_n0, zr_aload_n1, zr_aload_n2, zr_cP_eq, zr_call0, zr_iadd, zr_iald1, zr_iconst, zr_ifc, zr_iload_n3, zr_iret, zr_lcmp, zr_rt_a, zr_rt_i, zr_rt_l, zr_rt_n, zr_rt_z, zr_nil, zr_cons, ↓reduceIte, Nat.reduceAdd, Nat.reduceEqDiff, Nat.reduceLeDiff, Nat.reduceMul, Nat.reduceSub, Int32.reduceOfInt, Int64.reduceOfInt, Int64.reduceOfNat, true_and, and_true, false_and, and_false, or_false, false_or, true_or, or_true, Int.reduceEq, reduceCtorEq, or_self, and_self, ne_eq, not_false_eq_true, not_true_eq_false, eq_self, Nat.le_refl, Nat.zero_le, zr_eI, zr_eL, zr_eR, zr_pI, zr_pL, zr_pR, zr_pO, zr_pV, zq_pA0, zq_pA, zr_get, zr_put_n, zr_put, zr_rem_n, zr_rem, zr_cat_i, zr_cat_l, zr_cat_q, zr_w_n, zr_w, zr_args_n, zr_args, zr_tl_s, zr_tl_n, zq_hIsI, zq_hLsL, zq_hRsR, zq_hIsL, zq_hIsR, zq_hLsI, zq_hLsR, zq_hRsI, zq_hRsL, zq_hNsI, zq_hNsL, zq_hNsR, zq_hZsI, zq_hZsL, zq_hZsR, b2_01, Classical.not_not, Int32.toInt_toInt64, Int64.reduceToInt, zc_1000, zc_100, zc_10, zc_9, zc_2, ci_f, a1, k1, a2, k2, a3, k3, a4, k4, a5, k5, a6, k6, a7, k7, a8, k8]
  refine ⟨by exact vp_in_nI (by omega) (by omega), ?_⟩
  refine cpx (by omega) lk_L_140 (rc_13 rfl) (c_book l G _ (by omega) (0, nI (o_W S)) S h C inv _) (by omega) (by omega) (fun r1 h1 g1 => ?_)
  obtain ⟨rfl, C1, m1⟩ := g1
  have e1 : mv h1 = S := m1.mv.trans e
  have M1 := m1.mr M
  simp only [lg_cmp_eq, lg_cmp_ge, lg_cmp_gt, lg_cmp_le, lg_cmp_lt, zr_T, zr_aload_n0, zr_aload_n2, zr_cP_eq, zr_call0, zr_iadd, zr_iald1, zr_iconst, zr_ifc, zr_iload_n3, zr_iret, zr_lcmp, zr_rt_a, zr_rt_i, zr_rt_l, zr_rt_n, zr_rt_z, zr_nil, zr_cons, ↓reduceIte, Nat.reduceAdd, Nat.reduceEqDiff, Nat.reduceLeDiff, Nat.reduceMul, Nat.reduceSub, Int32.reduceOfInt, Int64.reduceOfInt, Int64.reduceOfNat, true_and, and_true, false_and, and_false, or_false, false_or, true_or, or_true, Int.reduceEq, reduceCtorEq, or_self, and_self, ne_eq, not_false_eq_true, not_true_eq_false, eq_self, Nat.le_refl, Nat.zero_le, zr_eI, zr_eL, zr_eR, zr_pI, zr_pL, zr_pR, zr_pO, zr_pV, zq_pA0, zq_pA, zr_get, zr_put_n, zr_put, zr_rem_n, zr_rem, zr_cat_i, zr_cat_l, zr_cat_q, zr_w_n, zr_w, zr_args_n, zr_args, zr_tl_s, zr_tl_n, zq_hIsI, zq_hLsL, zq_hRsR, zq_hIsL, zq_hIsR, zq_hLsI, zq_hLsR, zq_hRsI, zq_hRsL, zq_hNsI, zq_hNsL, zq_hNsR, zq_hZsI, zq_hZsL, zq_hZsR, b2_01, Classical.not_not, Int32.toInt_toInt64, Int64.reduceToInt, zc_1000, zc_100, zc_10, zc_9, zc_2, ci_f, a1, k1, a2, k2, a3, k3, a4, k4, a5, k5, a6, k6, a7, k7, a8, k8]
  refine ⟨by exact vp_in_nI (by omega) (by omega), ?_⟩
  refine cpx (by omega) lk_L_143 (rc_14 rfl) (m_book l G _ (by omega) S h1 e1 M1 inv _) (by omega) (by omega) (fun r2 h2 g2 => ?_)
  obtain ⟨rfl, e2, s2, M2⟩ := g2
  simp only [lg_cmp_eq, lg_cmp_ge, lg_cmp_gt, lg_cmp_le, lg_cmp_lt, zr_T, zr_cP_eq, zr_iconst, zr_ifc, zr_iret, zr_lcmp, zr_rt_a, zr_rt_i, zr_rt_l, zr_rt_n, zr_rt_z, zr_nil, zr_cons, ↓reduceIte, Nat.reduceAdd, Nat.reduceEqDiff, Nat.reduceLeDiff, Nat.reduceMul, Nat.reduceSub, Int32.reduceOfInt, Int64.reduceOfInt, Int64.reduceOfNat, true_and, and_true, false_and, and_false, or_false, false_or, true_or, or_true, Int.reduceEq, reduceCtorEq, or_self, and_self, ne_eq, not_false_eq_true, not_true_eq_false, eq_self, Nat.le_refl, Nat.zero_le, zr_eI, zr_eL, zr_eR, zr_pI, zr_pL, zr_pR, zr_pO, zr_pV, zq_pA0, zq_pA, zr_get, zr_put_n, zr_put, zr_rem_n, zr_rem, zr_cat_i, zr_cat_l, zr_cat_q, zr_w_n, zr_w, zr_args_n, zr_args, zr_tl_s, zr_tl_n, zq_hIsI, zq_hLsL, zq_hRsR, zq_hIsL, zq_hIsR, zq_hLsI, zq_hLsR, zq_hRsI, zq_hRsL, zq_hNsI, zq_hNsL, zq_hNsR, zq_hZsI, zq_hZsL, zq_hZsR, b2_01, Classical.not_not, Int32.toInt_toInt64, Int64.reduceToInt, zc_1000, zc_100, zc_10, zc_9, zc_2, ci_f, a1, k1, a2, k2, a3, k3, a4, k4, a5, k5, a6, k6, a7, k7, a8, k8]
  refine ⟨fun qc1 => ?_, fun qc1 => ?_⟩
  · try simp only [b2_0, Classical.not_not] at qc1
    try simp only [Int64.le_iff_toInt_le, Int64.lt_iff_toInt_lt, Int32.lt_iff_toInt_lt, Int32.le_iff_toInt_le, Int32.toInt_toInt64, Int64.reduceToInt, Int32.reduceToInt, Int.reduceNeg, Classical.not_not, i32e, l_add] at qc1
    all_goals
      exact K _ _ _ _ (LI.mk C1 s2 e2 M2 inv rfl (by omega) (by omega))
  · try simp only [b2_0, Classical.not_not] at qc1
    try simp only [Int64.le_iff_toInt_le, Int64.lt_iff_toInt_lt, Int32.lt_iff_toInt_lt, Int32.le_iff_toInt_le, Int32.toInt_toInt64, Int64.reduceToInt, Int32.reduceToInt, Int.reduceNeg, Classical.not_not, i32e, l_add] at qc1
    all_goals
      contradiction
set_option maxRecDepth 4000 in
theorem lc_vault {l : Launch} {G : z_G} {A : Nat → z_K} (st : LawSt l G A) {j : Nat} {S : z_M} {h : z_H} {ce sl : Nat} (hj : 9 * j + 9 ≤ gL G) (hL : gL G ≤ 4608) (I : LI j S h ce sl) (K : LK A j) : A 1296 [(0, z_r 400 0), (1, z_r 13 0), (2, z_r 14 0), (3, z_i (nI (9 * j)))] [] h ce sl := by
  obtain ⟨C, e, M, inv, c1, c2⟩ := I
  have hWd : o_W S = o_wt (mA S 42) (nO S) := rfl
  have a1 : nI (9 * j) + 1 = nI (9 * j + 1) := nI_add (9 * j) 1
  have k1 := nI_clampS (show 9 * j + 1 < 2000000000 by omega)
  have a2 : nI (9 * j) + 2 = nI (9 * j + 2) := nI_add (9 * j) 2
  have k2 := nI_clampS (show 9 * j + 2 < 2000000000 by omega)
  have a3 : nI (9 * j) + 3 = nI (9 * j + 3) := nI_add (9 * j) 3
  have k3 := nI_clampS (show 9 * j + 3 < 2000000000 by omega)
  have a4 : nI (9 * j) + 4 = nI (9 * j + 4) := nI_add (9 * j) 4
  have k4 := nI_clampS (show 9 * j + 4 < 2000000000 by omega)
  have a5 : nI (9 * j) + 5 = nI (9 * j + 5) := nI_add (9 * j) 5
  have k5 := nI_clampS (show 9 * j + 5 < 2000000000 by omega)
  have a6 : nI (9 * j) + 6 = nI (9 * j + 6) := nI_add (9 * j) 6
  have k6 := nI_clampS (show 9 * j + 6 < 2000000000 by omega)
  have a7 : nI (9 * j) + 7 = nI (9 * j + 7) := nI_add (9 * j) 7
  have k7 := nI_clampS (show 9 * j + 7 < 2000000000 by omega)
  have a8 : nI (9 * j) + 8 = nI (9 * j + 8) := nI_add (9 * j) 8
  have k8 := nI_clampS (show 9 * j + 8 < 2000000000 by omega)
  refine st b_L_law_1296 _ _ k_L_law_1296 _ _ _ _ _ ?_
  simp only [b_L_law_1296, lg_cmp_eq, lg_cmp_ge, lg_cmp_gt, lg_cmp_le, lg_cmp_lt, zr_T, zr_aload_n0, zr_aload_n1, zr_aload_n2, zr_cP_eq, zr_call0, zr_iadd, zr_iald1, zr_iconst, zr_ifc, zr_iload_n3, zr_iret, zr_lcmp, zr_rt_a, zr_rt_i, zr_rt_l, zr_rt_n, zr_rt_z, zr_nil, zr_cons, ↓reduceIte, Nat.reduceAdd, Nat.reduceEqDiff, Nat.reduceLeDiff, Nat.reduceMul, Nat.reduceSub, Int32.reduceOfInt, Int64.reduceOfInt, Int64.reduceOfNat, true_and, and_true, false_and, and_false, or_false, false_or, true_or, or_true, Int.reduceEq, reduceCtorEq, or_self, and_self, ne_eq, not_false_eq_true, not_true_eq_false, eq_self, Nat.le_refl, Nat.zero_le, zr_eI, zr_eL, zr_eR, zr_pI, zr_pL, zr_pR, zr_pO, zr_pV, zq_pA0, zq_pA, zr_get, zr_put_n, zr_put, zr_rem_n, zr_rem, zr_cat_i, zr_cat_l, zr_cat_q, zr_w_n, zr_w, zr_args_n, zr_args, zr_tl_s, zr_tl_n, zq_hIsI, zq_hLsL, zq_hRsR, zq_hIsL, zq_hIsR, zq_hLsI, zq_hLsR, zq_hRsI, zq_hRsL, zq_hNsI, zq_hNsL, zq_hNsR, zq_hZsI, zq_hZsL, zq_hZsR, b2_01, Classical.not_not, Int32.toInt_toInt64, Int64.reduceToInt, zc_1000, zc_100, zc_10, zc_9, zc_2, ci_f, a1, k1, a2, k2, a3, k3, a4, k4, a5, k5, a6, k6, a7, k7, a8, k8]
  refine ⟨by exact vp_in_nI (by omega) (by omega), ?_⟩
  refine ⟨by exact vp_in_nI (by omega) (by omega), ?_⟩
  refine cpx (by omega) lk_L_144 (rc_13 rfl) (c_vault l G _ (by omega) (0, nI (o_W S)) S h C inv _ _) (by omega) (by omega) (fun r1 h1 g1 => ?_)
  obtain ⟨rfl, C1, m1⟩ := g1
  have e1 : mv h1 = S := m1.mv.trans e
  have M1 := m1.mr M
  simp only [lg_cmp_eq, lg_cmp_ge, lg_cmp_gt, lg_cmp_le, lg_cmp_lt, zr_T, zr_aload_n0, zr_aload_n2, zr_cP_eq, zr_call0, zr_iadd, zr_iald1, zr_iconst, zr_ifc, zr_iload_n3, zr_iret, zr_lcmp, zr_rt_a, zr_rt_i, zr_rt_l, zr_rt_n, zr_rt_z, zr_nil, zr_cons, ↓reduceIte, Nat.reduceAdd, Nat.reduceEqDiff, Nat.reduceLeDiff, Nat.reduceMul, Nat.reduceSub, Int32.reduceOfInt, Int64.reduceOfInt, Int64.reduceOfNat, true_and, and_true, false_and, and_false, or_false, false_or, true_or, or_true, Int.reduceEq, reduceCtorEq, or_self, and_self, ne_eq, not_false_eq_true, not_true_eq_false, eq_self, Nat.le_refl, Nat.zero_le, zr_eI, zr_eL, zr_eR, zr_pI, zr_pL, zr_pR, zr_pO, zr_pV, zq_pA0, zq_pA, zr_get, zr_put_n, zr_put, zr_rem_n, zr_rem, zr_cat_i, zr_cat_l, zr_cat_q, zr_w_n, zr_w, zr_args_n, zr_args, zr_tl_s, zr_tl_n, zq_hIsI, zq_hLsL, zq_hRsR, zq_hIsL, zq_hIsR, zq_hLsI, zq_hLsR, zq_hRsI, zq_hRsL, zq_hNsI, zq_hNsL, zq_hNsR, zq_hZsI, zq_hZsL, zq_hZsR, b2_01, Classical.not_not, Int32.toInt_toInt64, Int64.reduceToInt, zc_1000, zc_100, zc_10, zc_9, zc_2, ci_f, a1, k1, a2, k2, a3, k3, a4, k4, a5, k5, a6, k6, a7, k7, a8, k8]
  refine ⟨by exact vp_in_nI (by omega) (by omega), ?_⟩
  refine ⟨by exact vp_in_nI (by omega) (by omega), ?_⟩
  refine cpx (by omega) lk_L_147 (rc_14 rfl) (m_vault l G _ (by omega) S h1 e1 M1 inv _ _) (by omega) (by omega) (fun r2 h2 g2 => ?_)
  obtain ⟨rfl, e2, s2, M2⟩ := g2
  simp only [lg_cmp_eq, lg_cmp_ge, lg_cmp_gt, lg_cmp_le, lg_cmp_lt, zr_T, zr_cP_eq, zr_iconst, zr_ifc, zr_iret, zr_lcmp, zr_rt_a, zr_rt_i, zr_rt_l, zr_rt_n, zr_rt_z, zr_nil, zr_cons, ↓reduceIte, Nat.reduceAdd, Nat.reduceEqDiff, Nat.reduceLeDiff, Nat.reduceMul, Nat.reduceSub, Int32.reduceOfInt, Int64.reduceOfInt, Int64.reduceOfNat, true_and, and_true, false_and, and_false, or_false, false_or, true_or, or_true, Int.reduceEq, reduceCtorEq, or_self, and_self, ne_eq, not_false_eq_true, not_true_eq_false, eq_self, Nat.le_refl, Nat.zero_le, zr_eI, zr_eL, zr_eR, zr_pI, zr_pL, zr_pR, zr_pO, zr_pV, zq_pA0, zq_pA, zr_get, zr_put_n, zr_put, zr_rem_n, zr_rem, zr_cat_i, zr_cat_l, zr_cat_q, zr_w_n, zr_w, zr_args_n, zr_args, zr_tl_s, zr_tl_n, zq_hIsI, zq_hLsL, zq_hRsR, zq_hIsL, zq_hIsR, zq_hLsI, zq_hLsR, zq_hRsI, zq_hRsL, zq_hNsI, zq_hNsL, zq_hNsR, zq_hZsI, zq_hZsL, zq_hZsR, b2_01, Classical.not_not, Int32.toInt_toInt64, Int64.reduceToInt, zc_1000, zc_100, zc_10, zc_9, zc_2, ci_f, a1, k1, a2, k2, a3, k3, a4, k4, a5, k5, a6, k6, a7, k7, a8, k8]
  refine ⟨fun qc1 => ?_, fun qc1 => ?_⟩
  · try simp only [b2_0, Classical.not_not] at qc1
    try simp only [Int64.le_iff_toInt_le, Int64.lt_iff_toInt_lt, Int32.lt_iff_toInt_lt, Int32.le_iff_toInt_le, Int32.toInt_toInt64, Int64.reduceToInt, Int32.reduceToInt, Int.reduceNeg, Classical.not_not, i32e, l_add] at qc1
    all_goals
      exact K _ _ _ _ (LI.mk C1 s2 e2 M2 inv rfl (by omega) (by omega))
  · try simp only [b2_0, Classical.not_not] at qc1
    try simp only [Int64.le_iff_toInt_le, Int64.lt_iff_toInt_lt, Int32.lt_iff_toInt_lt, Int32.le_iff_toInt_le, Int32.toInt_toInt64, Int64.reduceToInt, Int32.reduceToInt, Int.reduceNeg, Classical.not_not, i32e, l_add] at qc1
    all_goals
      contradiction
set_option maxRecDepth 4000 in
theorem lc_count {l : Launch} {G : z_G} {A : Nat → z_K} (st : LawSt l G A) {j : Nat} {S : z_M} {h : z_H} {ce sl : Nat} (hj : 9 * j + 9 ≤ gL G) (hL : gL G ≤ 4608) (I : LI j S h ce sl) (K : LK A j) : A 1330 [(0, z_r 400 0), (1, z_r 13 0), (2, z_r 14 0), (3, z_i (nI (9 * j)))] [] h ce sl := by
  obtain ⟨C, e, M, inv, c1, c2⟩ := I
  have hWd : o_W S = o_wt (mA S 42) (nO S) := rfl
  have a1 : nI (9 * j) + 1 = nI (9 * j + 1) := nI_add (9 * j) 1
  have k1 := nI_clampS (show 9 * j + 1 < 2000000000 by omega)
  have a2 : nI (9 * j) + 2 = nI (9 * j + 2) := nI_add (9 * j) 2
  have k2 := nI_clampS (show 9 * j + 2 < 2000000000 by omega)
  have a3 : nI (9 * j) + 3 = nI (9 * j + 3) := nI_add (9 * j) 3
  have k3 := nI_clampS (show 9 * j + 3 < 2000000000 by omega)
  have a4 : nI (9 * j) + 4 = nI (9 * j + 4) := nI_add (9 * j) 4
  have k4 := nI_clampS (show 9 * j + 4 < 2000000000 by omega)
  have a5 : nI (9 * j) + 5 = nI (9 * j + 5) := nI_add (9 * j) 5
  have k5 := nI_clampS (show 9 * j + 5 < 2000000000 by omega)
  have a6 : nI (9 * j) + 6 = nI (9 * j + 6) := nI_add (9 * j) 6
  have k6 := nI_clampS (show 9 * j + 6 < 2000000000 by omega)
  have a7 : nI (9 * j) + 7 = nI (9 * j + 7) := nI_add (9 * j) 7
  have k7 := nI_clampS (show 9 * j + 7 < 2000000000 by omega)
  have a8 : nI (9 * j) + 8 = nI (9 * j + 8) := nI_add (9 * j) 8
  have k8 := nI_clampS (show 9 * j + 8 < 2000000000 by omega)
  refine st b_L_law_1330 _ _ k_L_law_1330 _ _ _ _ _ ?_
  simp only [b_L_law_1330, zr_T, zr_aload_n0, zr_aload_n1, zr_aload_n2, zr_cP_eq, zr_call0, zr_iadd, zr_iald1, zr_icmp, zr_iconst, zr_iload_n3, zr_iret, zr_rt_a, zr_rt_i, zr_rt_l, zr_rt_n, zr_rt_z, zr_nil, zr_cons, ↓reduceIte, Nat.reduceAdd, Nat.reduceEqDiff, Nat.reduceLeDiff, Nat.reduceMul, Nat.reduceSub, Int32.reduceOfInt, Int64.reduceOfInt, Int64.reduceOfNat, true_and, and_true, false_and, and_false, or_false, false_or, true_or, or_true, Int.reduceEq, reduceCtorEq, or_self, and_self, ne_eq, not_false_eq_true, not_true_eq_false, eq_self, Nat.le_refl, Nat.zero_le, zr_eI, zr_eL, zr_eR, zr_pI, zr_pL, zr_pR, zr_pO, zr_pV, zq_pA0, zq_pA, zr_get, zr_put_n, zr_put, zr_rem_n, zr_rem, zr_cat_i, zr_cat_l, zr_cat_q, zr_w_n, zr_w, zr_args_n, zr_args, zr_tl_s, zr_tl_n, zq_hIsI, zq_hLsL, zq_hRsR, zq_hIsL, zq_hIsR, zq_hLsI, zq_hLsR, zq_hRsI, zq_hRsL, zq_hNsI, zq_hNsL, zq_hNsR, zq_hZsI, zq_hZsL, zq_hZsR, b2_01, Classical.not_not, Int32.toInt_toInt64, Int64.reduceToInt, zc_1000, zc_100, zc_10, zc_9, zc_2, ci_f, a1, k1, a2, k2, a3, k3, a4, k4, a5, k5, a6, k6, a7, k7, a8, k8]
  refine ⟨by exact vp_in_nI (by omega) (by omega), ?_⟩
  refine cpx (by omega) lk_L_148 (rc_13 rfl) (c_count l G _ (by omega) (0, nI (o_W S)) S h C inv rfl _) (by omega) (by omega) (fun r1 h1 g1 => ?_)
  obtain ⟨rfl, C1, m1⟩ := g1
  have e1 : mv h1 = S := m1.mv.trans e
  have M1 := m1.mr M
  simp only [zr_T, zr_aload_n0, zr_aload_n2, zr_cP_eq, zr_call0, zr_iadd, zr_iald1, zr_icmp, zr_iconst, zr_iload_n3, zr_iret, zr_rt_a, zr_rt_i, zr_rt_l, zr_rt_n, zr_rt_z, zr_nil, zr_cons, ↓reduceIte, Nat.reduceAdd, Nat.reduceEqDiff, Nat.reduceLeDiff, Nat.reduceMul, Nat.reduceSub, Int32.reduceOfInt, Int64.reduceOfInt, Int64.reduceOfNat, true_and, and_true, false_and, and_false, or_false, false_or, true_or, or_true, Int.reduceEq, reduceCtorEq, or_self, and_self, ne_eq, not_false_eq_true, not_true_eq_false, eq_self, Nat.le_refl, Nat.zero_le, zr_eI, zr_eL, zr_eR, zr_pI, zr_pL, zr_pR, zr_pO, zr_pV, zq_pA0, zq_pA, zr_get, zr_put_n, zr_put, zr_rem_n, zr_rem, zr_cat_i, zr_cat_l, zr_cat_q, zr_w_n, zr_w, zr_args_n, zr_args, zr_tl_s, zr_tl_n, zq_hIsI, zq_hLsL, zq_hRsR, zq_hIsL, zq_hIsR, zq_hLsI, zq_hLsR, zq_hRsI, zq_hRsL, zq_hNsI, zq_hNsL, zq_hNsR, zq_hZsI, zq_hZsL, zq_hZsR, b2_01, Classical.not_not, Int32.toInt_toInt64, Int64.reduceToInt, zc_1000, zc_100, zc_10, zc_9, zc_2, ci_f, a1, k1, a2, k2, a3, k3, a4, k4, a5, k5, a6, k6, a7, k7, a8, k8]
  refine ⟨by exact vp_in_nI (by omega) (by omega), ?_⟩
  refine cpx (by omega) lk_L_151 (rc_14 rfl) (m_count l G _ (by omega) S h1 e1 M1 inv _) (by omega) (by omega) (fun r2 h2 g2 => ?_)
  obtain ⟨rfl, e2, s2, M2⟩ := g2
  simp only [zr_T, zr_cP_eq, zr_icmp, zr_iconst, zr_iret, zr_rt_a, zr_rt_i, zr_rt_l, zr_rt_n, zr_rt_z, zr_nil, zr_cons, ↓reduceIte, Nat.reduceAdd, Nat.reduceEqDiff, Nat.reduceLeDiff, Nat.reduceMul, Nat.reduceSub, Int32.reduceOfInt, Int64.reduceOfInt, Int64.reduceOfNat, true_and, and_true, false_and, and_false, or_false, false_or, true_or, or_true, Int.reduceEq, reduceCtorEq, or_self, and_self, ne_eq, not_false_eq_true, not_true_eq_false, eq_self, Nat.le_refl, Nat.zero_le, zr_eI, zr_eL, zr_eR, zr_pI, zr_pL, zr_pR, zr_pO, zr_pV, zq_pA0, zq_pA, zr_get, zr_put_n, zr_put, zr_rem_n, zr_rem, zr_cat_i, zr_cat_l, zr_cat_q, zr_w_n, zr_w, zr_args_n, zr_args, zr_tl_s, zr_tl_n, zq_hIsI, zq_hLsL, zq_hRsR, zq_hIsL, zq_hIsR, zq_hLsI, zq_hLsR, zq_hRsI, zq_hRsL, zq_hNsI, zq_hNsL, zq_hNsR, zq_hZsI, zq_hZsL, zq_hZsR, b2_01, Classical.not_not, Int32.toInt_toInt64, Int64.reduceToInt, zc_1000, zc_100, zc_10, zc_9, zc_2, ci_f, a1, k1, a2, k2, a3, k3, a4, k4, a5, k5, a6, k6, a7, k7, a8, k8]
  refine ⟨fun qc1 => ?_, fun qc1 => ?_⟩
  · try simp only [b2_0, Classical.not_not] at qc1
    try simp only [Int64.le_iff_toInt_le, Int64.lt_iff_toInt_lt, Int32.lt_iff_toInt_lt, Int32.le_iff_toInt_le, Int32.toInt_toInt64, Int64.reduceToInt, Int32.reduceToInt, Int.reduceNeg, Classical.not_not, i32e, l_add] at qc1
    all_goals
      exact K _ _ _ _ (LI.mk C1 s2 e2 M2 inv rfl (by omega) (by omega))
  · try simp only [b2_0, Classical.not_not] at qc1
    try simp only [Int64.le_iff_toInt_le, Int64.lt_iff_toInt_lt, Int32.lt_iff_toInt_lt, Int32.le_iff_toInt_le, Int32.toInt_toInt64, Int64.reduceToInt, Int32.reduceToInt, Int.reduceNeg, Classical.not_not, i32e, l_add] at qc1
    all_goals
      contradiction
set_option maxRecDepth 4000 in
theorem lc_sum {l : Launch} {G : z_G} {A : Nat → z_K} (st : LawSt l G A) {j : Nat} {S : z_M} {h : z_H} {ce sl : Nat} (hj : 9 * j + 9 ≤ gL G) (hL : gL G ≤ 4608) (I : LI j S h ce sl) (K : LK A j) : A 1353 [(0, z_r 400 0), (1, z_r 13 0), (2, z_r 14 0), (3, z_i (nI (9 * j)))] [] h ce sl := by
  obtain ⟨C, e, M, inv, c1, c2⟩ := I
  have hWd : o_W S = o_wt (mA S 42) (nO S) := rfl
  have a1 : nI (9 * j) + 1 = nI (9 * j + 1) := nI_add (9 * j) 1
  have k1 := nI_clampS (show 9 * j + 1 < 2000000000 by omega)
  have a2 : nI (9 * j) + 2 = nI (9 * j + 2) := nI_add (9 * j) 2
  have k2 := nI_clampS (show 9 * j + 2 < 2000000000 by omega)
  have a3 : nI (9 * j) + 3 = nI (9 * j + 3) := nI_add (9 * j) 3
  have k3 := nI_clampS (show 9 * j + 3 < 2000000000 by omega)
  have a4 : nI (9 * j) + 4 = nI (9 * j + 4) := nI_add (9 * j) 4
  have k4 := nI_clampS (show 9 * j + 4 < 2000000000 by omega)
  have a5 : nI (9 * j) + 5 = nI (9 * j + 5) := nI_add (9 * j) 5
  have k5 := nI_clampS (show 9 * j + 5 < 2000000000 by omega)
  have a6 : nI (9 * j) + 6 = nI (9 * j + 6) := nI_add (9 * j) 6
  have k6 := nI_clampS (show 9 * j + 6 < 2000000000 by omega)
  have a7 : nI (9 * j) + 7 = nI (9 * j + 7) := nI_add (9 * j) 7
  have k7 := nI_clampS (show 9 * j + 7 < 2000000000 by omega)
  have a8 : nI (9 * j) + 8 = nI (9 * j + 8) := nI_add (9 * j) 8
  have k8 := nI_clampS (show 9 * j + 8 < 2000000000 by omega)
  refine st b_L_law_1353 _ _ k_L_law_1353 _ _ _ _ _ ?_
  simp only [b_L_law_1353, lg_cmp_eq, lg_cmp_ge, lg_cmp_gt, lg_cmp_le, lg_cmp_lt, zr_T, zr_aload_n0, zr_aload_n1, zr_aload_n2, zr_cP_eq, zr_call0, zr_iadd, zr_iald1, zr_iconst, zr_ifc, zr_iload_n3, zr_iret, zr_lcmp, zr_rt_a, zr_rt_i, zr_rt_l, zr_rt_n, zr_rt_z, zr_nil, zr_cons, ↓reduceIte, Nat.reduceAdd, Nat.reduceEqDiff, Nat.reduceLeDiff, Nat.reduceMul, Nat.reduceSub, Int32.reduceOfInt, Int64.reduceOfInt, Int64.reduceOfNat, true_and, and_true, false_and, and_false, or_false, false_or, true_or, or_true, Int.reduceEq, reduceCtorEq, or_self, and_self, ne_eq, not_false_eq_true, not_true_eq_false, eq_self, Nat.le_refl, Nat.zero_le, zr_eI, zr_eL, zr_eR, zr_pI, zr_pL, zr_pR, zr_pO, zr_pV, zq_pA0, zq_pA, zr_get, zr_put_n, zr_put, zr_rem_n, zr_rem, zr_cat_i, zr_cat_l, zr_cat_q, zr_w_n, zr_w, zr_args_n, zr_args, zr_tl_s, zr_tl_n, zq_hIsI, zq_hLsL, zq_hRsR, zq_hIsL, zq_hIsR, zq_hLsI, zq_hLsR, zq_hRsI, zq_hRsL, zq_hNsI, zq_hNsL, zq_hNsR, zq_hZsI, zq_hZsL, zq_hZsR, b2_01, Classical.not_not, Int32.toInt_toInt64, Int64.reduceToInt, zc_1000, zc_100, zc_10, zc_9, zc_2, ci_f, a1, k1, a2, k2, a3, k3, a4, k4, a5, k5, a6, k6, a7, k7, a8, k8]
  refine ⟨by exact vp_in_nI (by omega) (by omega), ?_⟩
  refine cpx (by omega) lk_L_152 (rc_13 rfl) (c_sum l G _ (by omega) (0, nI (o_W S)) S h C inv _) (by omega) (by omega) (fun r1 h1 g1 => ?_)
  obtain ⟨rfl, C1, m1⟩ := g1
  have e1 : mv h1 = S := m1.mv.trans e
  have M1 := m1.mr M
  simp only [lg_cmp_eq, lg_cmp_ge, lg_cmp_gt, lg_cmp_le, lg_cmp_lt, zr_T, zr_aload_n0, zr_aload_n2, zr_cP_eq, zr_call0, zr_iadd, zr_iald1, zr_iconst, zr_ifc, zr_iload_n3, zr_iret, zr_lcmp, zr_rt_a, zr_rt_i, zr_rt_l, zr_rt_n, zr_rt_z, zr_nil, zr_cons, ↓reduceIte, Nat.reduceAdd, Nat.reduceEqDiff, Nat.reduceLeDiff, Nat.reduceMul, Nat.reduceSub, Int32.reduceOfInt, Int64.reduceOfInt, Int64.reduceOfNat, true_and, and_true, false_and, and_false, or_false, false_or, true_or, or_true, Int.reduceEq, reduceCtorEq, or_self, and_self, ne_eq, not_false_eq_true, not_true_eq_false, eq_self, Nat.le_refl, Nat.zero_le, zr_eI, zr_eL, zr_eR, zr_pI, zr_pL, zr_pR, zr_pO, zr_pV, zq_pA0, zq_pA, zr_get, zr_put_n, zr_put, zr_rem_n, zr_rem, zr_cat_i, zr_cat_l, zr_cat_q, zr_w_n, zr_w, zr_args_n, zr_args, zr_tl_s, zr_tl_n, zq_hIsI, zq_hLsL, zq_hRsR, zq_hIsL, zq_hIsR, zq_hLsI, zq_hLsR, zq_hRsI, zq_hRsL, zq_hNsI, zq_hNsL, zq_hNsR, zq_hZsI, zq_hZsL, zq_hZsR, b2_01, Classical.not_not, Int32.toInt_toInt64, Int64.reduceToInt, zc_1000, zc_100, zc_10, zc_9, zc_2, ci_f, a1, k1, a2, k2, a3, k3, a4, k4, a5, k5, a6, k6, a7, k7, a8, k8]
  refine ⟨by exact vp_in_nI (by omega) (by omega), ?_⟩
  refine cpx (by omega) lk_L_155 (rc_14 rfl) (m_sum l G _ (by omega) S h1 e1 M1 inv _) (by omega) (by omega) (fun r2 h2 g2 => ?_)
  obtain ⟨rfl, e2, s2, M2⟩ := g2
  simp only [lg_cmp_eq, lg_cmp_ge, lg_cmp_gt, lg_cmp_le, lg_cmp_lt, zr_T, zr_cP_eq, zr_iconst, zr_ifc, zr_iret, zr_lcmp, zr_rt_a, zr_rt_i, zr_rt_l, zr_rt_n, zr_rt_z, zr_nil, zr_cons, ↓reduceIte, Nat.reduceAdd, Nat.reduceEqDiff, Nat.reduceLeDiff, Nat.reduceMul, Nat.reduceSub, Int32.reduceOfInt, Int64.reduceOfInt, Int64.reduceOfNat, true_and, and_true, false_and, and_false, or_false, false_or, true_or, or_true, Int.reduceEq, reduceCtorEq, or_self, and_self, ne_eq, not_false_eq_true, not_true_eq_false, eq_self, Nat.le_refl, Nat.zero_le, zr_eI, zr_eL, zr_eR, zr_pI, zr_pL, zr_pR, zr_pO, zr_pV, zq_pA0, zq_pA, zr_get, zr_put_n, zr_put, zr_rem_n, zr_rem, zr_cat_i, zr_cat_l, zr_cat_q, zr_w_n, zr_w, zr_args_n, zr_args, zr_tl_s, zr_tl_n, zq_hIsI, zq_hLsL, zq_hRsR, zq_hIsL, zq_hIsR, zq_hLsI, zq_hLsR, zq_hRsI, zq_hRsL, zq_hNsI, zq_hNsL, zq_hNsR, zq_hZsI, zq_hZsL, zq_hZsR, b2_01, Classical.not_not, Int32.toInt_toInt64, Int64.reduceToInt, zc_1000, zc_100, zc_10, zc_9, zc_2, ci_f, a1, k1, a2, k2, a3, k3, a4, k4, a5, k5, a6, k6, a7, k7, a8, k8]
  refine ⟨fun qc1 => ?_, fun qc1 => ?_⟩
  · try simp only [b2_0, Classical.not_not] at qc1
    try simp only [Int64.le_iff_toInt_le, Int64.lt_iff_toInt_lt, Int32.lt_iff_toInt_lt, Int32.le_iff_toInt_le, Int32.toInt_toInt64, Int64.reduceToInt, Int32.reduceToInt, Int.reduceNeg, Classical.not_not, i32e, l_add] at qc1
    all_goals
      exact K _ _ _ _ (LI.mk C1 s2 e2 M2 inv rfl (by omega) (by omega))
  · try simp only [b2_0, Classical.not_not] at qc1
    try simp only [Int64.le_iff_toInt_le, Int64.lt_iff_toInt_lt, Int32.lt_iff_toInt_lt, Int32.le_iff_toInt_le, Int32.toInt_toInt64, Int64.reduceToInt, Int32.reduceToInt, Int.reduceNeg, Classical.not_not, i32e, l_add] at qc1
    all_goals
      contradiction
set_option maxRecDepth 4000 in
theorem lc_row {l : Launch} {G : z_G} {A : Nat → z_K} (st : LawSt l G A) {j : Nat} {S : z_M} {h : z_H} {ce sl : Nat} (hj : 9 * j + 9 ≤ gL G) (hL : gL G ≤ 4608) (I : LI j S h ce sl) (K : LK A j) : A 1377 [(0, z_r 400 0), (1, z_r 13 0), (2, z_r 14 0), (3, z_i (nI (9 * j)))] [] h ce sl := by
  obtain ⟨C, e, M, inv, c1, c2⟩ := I
  have hWd : o_W S = o_wt (mA S 42) (nO S) := rfl
  have a1 : nI (9 * j) + 1 = nI (9 * j + 1) := nI_add (9 * j) 1
  have k1 := nI_clampS (show 9 * j + 1 < 2000000000 by omega)
  have a2 : nI (9 * j) + 2 = nI (9 * j + 2) := nI_add (9 * j) 2
  have k2 := nI_clampS (show 9 * j + 2 < 2000000000 by omega)
  have a3 : nI (9 * j) + 3 = nI (9 * j + 3) := nI_add (9 * j) 3
  have k3 := nI_clampS (show 9 * j + 3 < 2000000000 by omega)
  have a4 : nI (9 * j) + 4 = nI (9 * j + 4) := nI_add (9 * j) 4
  have k4 := nI_clampS (show 9 * j + 4 < 2000000000 by omega)
  have a5 : nI (9 * j) + 5 = nI (9 * j + 5) := nI_add (9 * j) 5
  have k5 := nI_clampS (show 9 * j + 5 < 2000000000 by omega)
  have a6 : nI (9 * j) + 6 = nI (9 * j + 6) := nI_add (9 * j) 6
  have k6 := nI_clampS (show 9 * j + 6 < 2000000000 by omega)
  have a7 : nI (9 * j) + 7 = nI (9 * j + 7) := nI_add (9 * j) 7
  have k7 := nI_clampS (show 9 * j + 7 < 2000000000 by omega)
  have a8 : nI (9 * j) + 8 = nI (9 * j + 8) := nI_add (9 * j) 8
  have k8 := nI_clampS (show 9 * j + 8 < 2000000000 by omega)
  refine st b_L_law_1377 _ _ k_L_law_1377 _ _ _ _ _ ?_
  simp only [b_L_law_1377, zr_T, zr_aload_n0, zr_aload_n1, zr_aload_n2, zr_cP_eq, zr_call0, zr_iadd, zr_iald1, zr_icmp, zr_iconst, zr_iload_n3, zr_iret, zr_rt_a, zr_rt_i, zr_rt_l, zr_rt_n, zr_rt_z, zr_nil, zr_cons, ↓reduceIte, Nat.reduceAdd, Nat.reduceEqDiff, Nat.reduceLeDiff, Nat.reduceMul, Nat.reduceSub, Int32.reduceOfInt, Int64.reduceOfInt, Int64.reduceOfNat, true_and, and_true, false_and, and_false, or_false, false_or, true_or, or_true, Int.reduceEq, reduceCtorEq, or_self, and_self, ne_eq, not_false_eq_true, not_true_eq_false, eq_self, Nat.le_refl, Nat.zero_le, zr_eI, zr_eL, zr_eR, zr_pI, zr_pL, zr_pR, zr_pO, zr_pV, zq_pA0, zq_pA, zr_get, zr_put_n, zr_put, zr_rem_n, zr_rem, zr_cat_i, zr_cat_l, zr_cat_q, zr_w_n, zr_w, zr_args_n, zr_args, zr_tl_s, zr_tl_n, zq_hIsI, zq_hLsL, zq_hRsR, zq_hIsL, zq_hIsR, zq_hLsI, zq_hLsR, zq_hRsI, zq_hRsL, zq_hNsI, zq_hNsL, zq_hNsR, zq_hZsI, zq_hZsL, zq_hZsR, b2_01, Classical.not_not, Int32.toInt_toInt64, Int64.reduceToInt, zc_1000, zc_100, zc_10, zc_9, zc_2, ci_f, a1, k1, a2, k2, a3, k3, a4, k4, a5, k5, a6, k6, a7, k7, a8, k8]
  refine ⟨by exact vp_in_nI (by omega) (by omega), ?_⟩
  refine ⟨by exact vp_in_nI (by omega) (by omega), ?_⟩
  refine ⟨by exact vp_in_nI (by omega) (by omega), ?_⟩
  refine cpx (by omega) lk_L_156 (rc_13 rfl) (c_row l G _ (by omega) (0, nI (o_W S)) S h C inv _ _ _) (by omega) (by omega) (fun r1 h1 g1 => ?_)
  obtain ⟨rfl, C1, m1⟩ := g1
  have e1 : mv h1 = S := m1.mv.trans e
  have M1 := m1.mr M
  simp only [zr_T, zr_aload_n0, zr_aload_n2, zr_cP_eq, zr_call0, zr_iadd, zr_iald1, zr_icmp, zr_iconst, zr_iload_n3, zr_iret, zr_rt_a, zr_rt_i, zr_rt_l, zr_rt_n, zr_rt_z, zr_nil, zr_cons, ↓reduceIte, Nat.reduceAdd, Nat.reduceEqDiff, Nat.reduceLeDiff, Nat.reduceMul, Nat.reduceSub, Int32.reduceOfInt, Int64.reduceOfInt, Int64.reduceOfNat, true_and, and_true, false_and, and_false, or_false, false_or, true_or, or_true, Int.reduceEq, reduceCtorEq, or_self, and_self, ne_eq, not_false_eq_true, not_true_eq_false, eq_self, Nat.le_refl, Nat.zero_le, zr_eI, zr_eL, zr_eR, zr_pI, zr_pL, zr_pR, zr_pO, zr_pV, zq_pA0, zq_pA, zr_get, zr_put_n, zr_put, zr_rem_n, zr_rem, zr_cat_i, zr_cat_l, zr_cat_q, zr_w_n, zr_w, zr_args_n, zr_args, zr_tl_s, zr_tl_n, zq_hIsI, zq_hLsL, zq_hRsR, zq_hIsL, zq_hIsR, zq_hLsI, zq_hLsR, zq_hRsI, zq_hRsL, zq_hNsI, zq_hNsL, zq_hNsR, zq_hZsI, zq_hZsL, zq_hZsR, b2_01, Classical.not_not, Int32.toInt_toInt64, Int64.reduceToInt, zc_1000, zc_100, zc_10, zc_9, zc_2, ci_f, a1, k1, a2, k2, a3, k3, a4, k4, a5, k5, a6, k6, a7, k7, a8, k8]
  refine ⟨by exact vp_in_nI (by omega) (by omega), ?_⟩
  refine ⟨by exact vp_in_nI (by omega) (by omega), ?_⟩
  refine ⟨by exact vp_in_nI (by omega) (by omega), ?_⟩
  refine cpx (by omega) lk_L_159 (rc_14 rfl) (m_row l G _ (by omega) S h1 e1 M1 inv _ _ _) (by omega) (by omega) (fun r2 h2 g2 => ?_)
  obtain ⟨rfl, e2, s2, M2⟩ := g2
  simp only [zr_T, zr_cP_eq, zr_icmp, zr_iconst, zr_iret, zr_rt_a, zr_rt_i, zr_rt_l, zr_rt_n, zr_rt_z, zr_nil, zr_cons, ↓reduceIte, Nat.reduceAdd, Nat.reduceEqDiff, Nat.reduceLeDiff, Nat.reduceMul, Nat.reduceSub, Int32.reduceOfInt, Int64.reduceOfInt, Int64.reduceOfNat, true_and, and_true, false_and, and_false, or_false, false_or, true_or, or_true, Int.reduceEq, reduceCtorEq, or_self, and_self, ne_eq, not_false_eq_true, not_true_eq_false, eq_self, Nat.le_refl, Nat.zero_le, zr_eI, zr_eL, zr_eR, zr_pI, zr_pL, zr_pR, zr_pO, zr_pV, zq_pA0, zq_pA, zr_get, zr_put_n, zr_put, zr_rem_n, zr_rem, zr_cat_i, zr_cat_l, zr_cat_q, zr_w_n, zr_w, zr_args_n, zr_args, zr_tl_s, zr_tl_n, zq_hIsI, zq_hLsL, zq_hRsR, zq_hIsL, zq_hIsR, zq_hLsI, zq_hLsR, zq_hRsI, zq_hRsL, zq_hNsI, zq_hNsL, zq_hNsR, zq_hZsI, zq_hZsL, zq_hZsR, b2_01, Classical.not_not, Int32.toInt_toInt64, Int64.reduceToInt, zc_1000, zc_100, zc_10, zc_9, zc_2, ci_f, a1, k1, a2, k2, a3, k3, a4, k4, a5, k5, a6, k6, a7, k7, a8, k8]
  refine ⟨fun qc1 => ?_, fun qc1 => ?_⟩
  · try simp only [b2_0, Classical.not_not] at qc1
    try simp only [Int64.le_iff_toInt_le, Int64.lt_iff_toInt_lt, Int32.lt_iff_toInt_lt, Int32.le_iff_toInt_le, Int32.toInt_toInt64, Int64.reduceToInt, Int32.reduceToInt, Int.reduceNeg, Classical.not_not, i32e, l_add] at qc1
    all_goals
      exact K _ _ _ _ (LI.mk C1 s2 e2 M2 (inv_row inv _ _ _) (w_row _ _ _) (by omega) (by omega))
  · try simp only [b2_0, Classical.not_not] at qc1
    try simp only [Int64.le_iff_toInt_le, Int64.lt_iff_toInt_lt, Int32.lt_iff_toInt_lt, Int32.le_iff_toInt_le, Int32.toInt_toInt64, Int64.reduceToInt, Int32.reduceToInt, Int.reduceNeg, Classical.not_not, i32e, l_add] at qc1
    all_goals
      contradiction
set_option maxRecDepth 4000 in
theorem lc_tear {l : Launch} {G : z_G} {A : Nat → z_K} (st : LawSt l G A) {j : Nat} {S : z_M} {h : z_H} {ce sl : Nat} (hj : 9 * j + 9 ≤ gL G) (hL : gL G ≤ 4608) (I : LI j S h ce sl) (K : LK A j) : A 1420 [(0, z_r 400 0), (1, z_r 13 0), (2, z_r 14 0), (3, z_i (nI (9 * j)))] [] h ce sl := by
  obtain ⟨C, e, M, inv, c1, c2⟩ := I
  have hWd : o_W S = o_wt (mA S 42) (nO S) := rfl
  have a1 : nI (9 * j) + 1 = nI (9 * j + 1) := nI_add (9 * j) 1
  have k1 := nI_clampS (show 9 * j + 1 < 2000000000 by omega)
  have a2 : nI (9 * j) + 2 = nI (9 * j + 2) := nI_add (9 * j) 2
  have k2 := nI_clampS (show 9 * j + 2 < 2000000000 by omega)
  have a3 : nI (9 * j) + 3 = nI (9 * j + 3) := nI_add (9 * j) 3
  have k3 := nI_clampS (show 9 * j + 3 < 2000000000 by omega)
  have a4 : nI (9 * j) + 4 = nI (9 * j + 4) := nI_add (9 * j) 4
  have k4 := nI_clampS (show 9 * j + 4 < 2000000000 by omega)
  have a5 : nI (9 * j) + 5 = nI (9 * j + 5) := nI_add (9 * j) 5
  have k5 := nI_clampS (show 9 * j + 5 < 2000000000 by omega)
  have a6 : nI (9 * j) + 6 = nI (9 * j + 6) := nI_add (9 * j) 6
  have k6 := nI_clampS (show 9 * j + 6 < 2000000000 by omega)
  have a7 : nI (9 * j) + 7 = nI (9 * j + 7) := nI_add (9 * j) 7
  have k7 := nI_clampS (show 9 * j + 7 < 2000000000 by omega)
  have a8 : nI (9 * j) + 8 = nI (9 * j + 8) := nI_add (9 * j) 8
  have k8 := nI_clampS (show 9 * j + 8 < 2000000000 by omega)
  refine st b_L_law_1420 _ _ k_L_law_1420 _ _ _ _ _ ?_
  simp only [b_L_law_1420, zr_T, zr_aload_n0, zr_aload_n1, zr_aload_n2, zr_cP_eq, zr_call0, zr_iadd, zr_iald1, zr_icmp, zr_iconst, zr_iload_n3, zr_iret, zr_rt_a, zr_rt_i, zr_rt_l, zr_rt_n, zr_rt_z, zr_nil, zr_cons, ↓reduceIte, Nat.reduceAdd, Nat.reduceEqDiff, Nat.reduceLeDiff, Nat.reduceMul, Nat.reduceSub, Int32.reduceOfInt, Int64.reduceOfInt, Int64.reduceOfNat, true_and, and_true, false_and, and_false, or_false, false_or, true_or, or_true, Int.reduceEq, reduceCtorEq, or_self, and_self, ne_eq, not_false_eq_true, not_true_eq_false, eq_self, Nat.le_refl, Nat.zero_le, zr_eI, zr_eL, zr_eR, zr_pI, zr_pL, zr_pR, zr_pO, zr_pV, zq_pA0, zq_pA, zr_get, zr_put_n, zr_put, zr_rem_n, zr_rem, zr_cat_i, zr_cat_l, zr_cat_q, zr_w_n, zr_w, zr_args_n, zr_args, zr_tl_s, zr_tl_n, zq_hIsI, zq_hLsL, zq_hRsR, zq_hIsL, zq_hIsR, zq_hLsI, zq_hLsR, zq_hRsI, zq_hRsL, zq_hNsI, zq_hNsL, zq_hNsR, zq_hZsI, zq_hZsL, zq_hZsR, b2_01, Classical.not_not, Int32.toInt_toInt64, Int64.reduceToInt, zc_1000, zc_100, zc_10, zc_9, zc_2, ci_f, a1, k1, a2, k2, a3, k3, a4, k4, a5, k5, a6, k6, a7, k7, a8, k8]
  refine ⟨by exact vp_in_nI (by omega) (by omega), ?_⟩
  refine cpx (by omega) lk_L_160 (rc_13 rfl) (c_tear l G _ (by omega) (0, nI (o_W S)) S h C inv _) (by omega) (by omega) (fun r1 h1 g1 => ?_)
  obtain ⟨rfl, C1, m1⟩ := g1
  have e1 : mv h1 = S := m1.mv.trans e
  have M1 := m1.mr M
  simp only [zr_T, zr_aload_n0, zr_aload_n2, zr_cP_eq, zr_call0, zr_iadd, zr_iald1, zr_icmp, zr_iconst, zr_iload_n3, zr_iret, zr_rt_a, zr_rt_i, zr_rt_l, zr_rt_n, zr_rt_z, zr_nil, zr_cons, ↓reduceIte, Nat.reduceAdd, Nat.reduceEqDiff, Nat.reduceLeDiff, Nat.reduceMul, Nat.reduceSub, Int32.reduceOfInt, Int64.reduceOfInt, Int64.reduceOfNat, true_and, and_true, false_and, and_false, or_false, false_or, true_or, or_true, Int.reduceEq, reduceCtorEq, or_self, and_self, ne_eq, not_false_eq_true, not_true_eq_false, eq_self, Nat.le_refl, Nat.zero_le, zr_eI, zr_eL, zr_eR, zr_pI, zr_pL, zr_pR, zr_pO, zr_pV, zq_pA0, zq_pA, zr_get, zr_put_n, zr_put, zr_rem_n, zr_rem, zr_cat_i, zr_cat_l, zr_cat_q, zr_w_n, zr_w, zr_args_n, zr_args, zr_tl_s, zr_tl_n, zq_hIsI, zq_hLsL, zq_hRsR, zq_hIsL, zq_hIsR, zq_hLsI, zq_hLsR, zq_hRsI, zq_hRsL, zq_hNsI, zq_hNsL, zq_hNsR, zq_hZsI, zq_hZsL, zq_hZsR, b2_01, Classical.not_not, Int32.toInt_toInt64, Int64.reduceToInt, zc_1000, zc_100, zc_10, zc_9, zc_2, ci_f, a1, k1, a2, k2, a3, k3, a4, k4, a5, k5, a6, k6, a7, k7, a8, k8]
  refine ⟨by exact vp_in_nI (by omega) (by omega), ?_⟩
  refine cpx (by omega) lk_L_163 (rc_14 rfl) (m_tear l G _ (by omega) S h1 e1 M1 inv _) (by omega) (by omega) (fun r2 h2 g2 => ?_)
  obtain ⟨rfl, e2, s2, M2⟩ := g2
  simp only [zr_T, zr_cP_eq, zr_icmp, zr_iconst, zr_iret, zr_rt_a, zr_rt_i, zr_rt_l, zr_rt_n, zr_rt_z, zr_nil, zr_cons, ↓reduceIte, Nat.reduceAdd, Nat.reduceEqDiff, Nat.reduceLeDiff, Nat.reduceMul, Nat.reduceSub, Int32.reduceOfInt, Int64.reduceOfInt, Int64.reduceOfNat, true_and, and_true, false_and, and_false, or_false, false_or, true_or, or_true, Int.reduceEq, reduceCtorEq, or_self, and_self, ne_eq, not_false_eq_true, not_true_eq_false, eq_self, Nat.le_refl, Nat.zero_le, zr_eI, zr_eL, zr_eR, zr_pI, zr_pL, zr_pR, zr_pO, zr_pV, zq_pA0, zq_pA, zr_get, zr_put_n, zr_put, zr_rem_n, zr_rem, zr_cat_i, zr_cat_l, zr_cat_q, zr_w_n, zr_w, zr_args_n, zr_args, zr_tl_s, zr_tl_n, zq_hIsI, zq_hLsL, zq_hRsR, zq_hIsL, zq_hIsR, zq_hLsI, zq_hLsR, zq_hRsI, zq_hRsL, zq_hNsI, zq_hNsL, zq_hNsR, zq_hZsI, zq_hZsL, zq_hZsR, b2_01, Classical.not_not, Int32.toInt_toInt64, Int64.reduceToInt, zc_1000, zc_100, zc_10, zc_9, zc_2, ci_f, a1, k1, a2, k2, a3, k3, a4, k4, a5, k5, a6, k6, a7, k7, a8, k8]
  refine ⟨fun qc1 => ?_, fun qc1 => ?_⟩
  · try simp only [b2_0, Classical.not_not] at qc1
    try simp only [Int64.le_iff_toInt_le, Int64.lt_iff_toInt_lt, Int32.lt_iff_toInt_lt, Int32.le_iff_toInt_le, Int32.toInt_toInt64, Int64.reduceToInt, Int32.reduceToInt, Int.reduceNeg, Classical.not_not, i32e, l_add] at qc1
    all_goals
      exact K _ _ _ _ (LI.mk C1 s2 e2 M2 (inv_tear inv _) (w_tear _) (by omega) (by omega))
  · try simp only [b2_0, Classical.not_not] at qc1
    try simp only [Int64.le_iff_toInt_le, Int64.lt_iff_toInt_lt, Int32.lt_iff_toInt_lt, Int32.le_iff_toInt_le, Int32.toInt_toInt64, Int64.reduceToInt, Int32.reduceToInt, Int.reduceNeg, Classical.not_not, i32e, l_add] at qc1
    all_goals
      contradiction
set_option maxRecDepth 4000 in
theorem lc_write {l : Launch} {G : z_G} {A : Nat → z_K} (st : LawSt l G A) {j : Nat} {S : z_M} {h : z_H} {ce sl : Nat} (hj : 9 * j + 9 ≤ gL G) (hL : gL G ≤ 4608) (I : LI j S h ce sl) (K : LK A j) : A 1443 [(0, z_r 400 0), (1, z_r 13 0), (2, z_r 14 0), (3, z_i (nI (9 * j)))] [] h ce sl := by
  obtain ⟨C, e, M, inv, c1, c2⟩ := I
  have hWd : o_W S = o_wt (mA S 42) (nO S) := rfl
  have a1 : nI (9 * j) + 1 = nI (9 * j + 1) := nI_add (9 * j) 1
  have k1 := nI_clampS (show 9 * j + 1 < 2000000000 by omega)
  have a2 : nI (9 * j) + 2 = nI (9 * j + 2) := nI_add (9 * j) 2
  have k2 := nI_clampS (show 9 * j + 2 < 2000000000 by omega)
  have a3 : nI (9 * j) + 3 = nI (9 * j + 3) := nI_add (9 * j) 3
  have k3 := nI_clampS (show 9 * j + 3 < 2000000000 by omega)
  have a4 : nI (9 * j) + 4 = nI (9 * j + 4) := nI_add (9 * j) 4
  have k4 := nI_clampS (show 9 * j + 4 < 2000000000 by omega)
  have a5 : nI (9 * j) + 5 = nI (9 * j + 5) := nI_add (9 * j) 5
  have k5 := nI_clampS (show 9 * j + 5 < 2000000000 by omega)
  have a6 : nI (9 * j) + 6 = nI (9 * j + 6) := nI_add (9 * j) 6
  have k6 := nI_clampS (show 9 * j + 6 < 2000000000 by omega)
  have a7 : nI (9 * j) + 7 = nI (9 * j + 7) := nI_add (9 * j) 7
  have k7 := nI_clampS (show 9 * j + 7 < 2000000000 by omega)
  have a8 : nI (9 * j) + 8 = nI (9 * j + 8) := nI_add (9 * j) 8
  have k8 := nI_clampS (show 9 * j + 8 < 2000000000 by omega)
  refine st b_L_law_1443 _ _ k_L_law_1443 _ _ _ _ _ ?_
  simp only [b_L_law_1443, zr_T, zr_aload_n0, zr_aload_n1, zr_aload_n2, zr_bipush, zr_cP_eq, zr_call0, zr_i2l, zr_iadd, zr_iald1, zr_icmp, zr_iconst, zr_iload_n3, zr_iret, zr_land, zr_ldc2, zr_lor, zr_lshl, zr_rt_a, zr_rt_i, zr_rt_l, zr_rt_n, zr_rt_z, zr_nil, zr_cons, ↓reduceIte, Nat.reduceAdd, Nat.reduceEqDiff, Nat.reduceLeDiff, Nat.reduceMul, Nat.reduceSub, Int32.reduceOfInt, Int64.reduceOfInt, Int64.reduceOfNat, true_and, and_true, false_and, and_false, or_false, false_or, true_or, or_true, Int.reduceEq, reduceCtorEq, or_self, and_self, ne_eq, not_false_eq_true, not_true_eq_false, eq_self, Nat.le_refl, Nat.zero_le, zr_eI, zr_eL, zr_eR, zr_pI, zr_pL, zr_pR, zr_pO, zr_pV, zq_pA0, zq_pA, zr_get, zr_put_n, zr_put, zr_rem_n, zr_rem, zr_cat_i, zr_cat_l, zr_cat_q, zr_w_n, zr_w, zr_args_n, zr_args, zr_tl_s, zr_tl_n, zq_hIsI, zq_hLsL, zq_hRsR, zq_hIsL, zq_hIsR, zq_hLsI, zq_hLsR, zq_hRsI, zq_hRsL, zq_hNsI, zq_hNsL, zq_hNsR, zq_hZsI, zq_hZsL, zq_hZsR, b2_01, Classical.not_not, Int32.toInt_toInt64, Int64.reduceToInt, zc_1000, zc_100, zc_10, zc_9, zc_2, ci_f, a1, k1, a2, k2, a3, k3, a4, k4, a5, k5, a6, k6, a7, k7, a8, k8]
  refine ⟨by exact vp_in_nI (by omega) (by omega), ?_⟩
  refine ⟨by exact vp_in_nI (by omega) (by omega), ?_⟩
  refine ⟨by exact vp_in_nI (by omega) (by omega), ?_⟩
  refine ⟨by exact vp_in_nI (by omega) (by omega), ?_⟩
  refine cpx (by omega) lk_L_164 (rc_13 rfl) (c_write l G _ (by omega) (0, nI (o_W S)) S h C inv _ _ _) (by omega) (by omega) (fun r1 h1 g1 => ?_)
  obtain ⟨rfl, C1, m1⟩ := g1
  have e1 : mv h1 = S := m1.mv.trans e
  have M1 := m1.mr M
  simp only [zr_T, zr_aload_n0, zr_aload_n2, zr_bipush, zr_cP_eq, zr_call0, zr_i2l, zr_iadd, zr_iald1, zr_icmp, zr_iconst, zr_iload_n3, zr_iret, zr_land, zr_ldc2, zr_lor, zr_lshl, zr_rt_a, zr_rt_i, zr_rt_l, zr_rt_n, zr_rt_z, zr_nil, zr_cons, ↓reduceIte, Nat.reduceAdd, Nat.reduceEqDiff, Nat.reduceLeDiff, Nat.reduceMul, Nat.reduceSub, Int32.reduceOfInt, Int64.reduceOfInt, Int64.reduceOfNat, true_and, and_true, false_and, and_false, or_false, false_or, true_or, or_true, Int.reduceEq, reduceCtorEq, or_self, and_self, ne_eq, not_false_eq_true, not_true_eq_false, eq_self, Nat.le_refl, Nat.zero_le, zr_eI, zr_eL, zr_eR, zr_pI, zr_pL, zr_pR, zr_pO, zr_pV, zq_pA0, zq_pA, zr_get, zr_put_n, zr_put, zr_rem_n, zr_rem, zr_cat_i, zr_cat_l, zr_cat_q, zr_w_n, zr_w, zr_args_n, zr_args, zr_tl_s, zr_tl_n, zq_hIsI, zq_hLsL, zq_hRsR, zq_hIsL, zq_hIsR, zq_hLsI, zq_hLsR, zq_hRsI, zq_hRsL, zq_hNsI, zq_hNsL, zq_hNsR, zq_hZsI, zq_hZsL, zq_hZsR, b2_01, Classical.not_not, Int32.toInt_toInt64, Int64.reduceToInt, zc_1000, zc_100, zc_10, zc_9, zc_2, ci_f, a1, k1, a2, k2, a3, k3, a4, k4, a5, k5, a6, k6, a7, k7, a8, k8]
  refine ⟨by exact vp_in_nI (by omega) (by omega), ?_⟩
  refine ⟨by exact vp_in_nI (by omega) (by omega), ?_⟩
  refine ⟨by exact vp_in_nI (by omega) (by omega), ?_⟩
  refine ⟨by exact vp_in_nI (by omega) (by omega), ?_⟩
  refine cpx (by omega) lk_L_168 (rc_14 rfl) (m_write l G _ (by omega) S h1 e1 M1 inv _ _ _) (by omega) (by omega) (fun r2 h2 g2 => ?_)
  obtain ⟨rfl, e2, s2, M2⟩ := g2
  simp only [zr_T, zr_cP_eq, zr_icmp, zr_iconst, zr_iret, zr_rt_a, zr_rt_i, zr_rt_l, zr_rt_n, zr_rt_z, zr_nil, zr_cons, ↓reduceIte, Nat.reduceAdd, Nat.reduceEqDiff, Nat.reduceLeDiff, Nat.reduceMul, Nat.reduceSub, Int32.reduceOfInt, Int64.reduceOfInt, Int64.reduceOfNat, true_and, and_true, false_and, and_false, or_false, false_or, true_or, or_true, Int.reduceEq, reduceCtorEq, or_self, and_self, ne_eq, not_false_eq_true, not_true_eq_false, eq_self, Nat.le_refl, Nat.zero_le, zr_eI, zr_eL, zr_eR, zr_pI, zr_pL, zr_pR, zr_pO, zr_pV, zq_pA0, zq_pA, zr_get, zr_put_n, zr_put, zr_rem_n, zr_rem, zr_cat_i, zr_cat_l, zr_cat_q, zr_w_n, zr_w, zr_args_n, zr_args, zr_tl_s, zr_tl_n, zq_hIsI, zq_hLsL, zq_hRsR, zq_hIsL, zq_hIsR, zq_hLsI, zq_hLsR, zq_hRsI, zq_hRsL, zq_hNsI, zq_hNsL, zq_hNsR, zq_hZsI, zq_hZsL, zq_hZsR, b2_01, Classical.not_not, Int32.toInt_toInt64, Int64.reduceToInt, zc_1000, zc_100, zc_10, zc_9, zc_2, ci_f, a1, k1, a2, k2, a3, k3, a4, k4, a5, k5, a6, k6, a7, k7, a8, k8]
  refine ⟨fun qc1 => ?_, fun qc1 => ?_⟩
  · try simp only [b2_0, Classical.not_not] at qc1
    try simp only [Int64.le_iff_toInt_le, Int64.lt_iff_toInt_lt, Int32.lt_iff_toInt_lt, Int32.le_iff_toInt_le, Int32.toInt_toInt64, Int64.reduceToInt, Int32.reduceToInt, Int.reduceNeg, Classical.not_not, i32e, l_add] at qc1
    all_goals
      exact K _ _ _ _ (LI.mk C1 s2 e2 M2 (inv_write inv _ _ _) (w_write _ _ _) (by omega) (by omega))
  · try simp only [b2_0, Classical.not_not] at qc1
    try simp only [Int64.le_iff_toInt_le, Int64.lt_iff_toInt_lt, Int32.lt_iff_toInt_lt, Int32.le_iff_toInt_le, Int32.toInt_toInt64, Int64.reduceToInt, Int32.reduceToInt, Int.reduceNeg, Classical.not_not, i32e, l_add] at qc1
    all_goals
      contradiction
set_option maxRecDepth 4000 in
theorem lc_paste {l : Launch} {G : z_G} {A : Nat → z_K} (st : LawSt l G A) {j : Nat} {S : z_M} {h : z_H} {ce sl : Nat} (hj : 9 * j + 9 ≤ gL G) (hL : gL G ≤ 4608) (I : LI j S h ce sl) (K : LK A j) : A 1516 [(0, z_r 400 0), (1, z_r 13 0), (2, z_r 14 0), (3, z_i (nI (9 * j)))] [] h ce sl := by
  obtain ⟨C, e, M, inv, c1, c2⟩ := I
  have hWd : o_W S = o_wt (mA S 42) (nO S) := rfl
  have a1 : nI (9 * j) + 1 = nI (9 * j + 1) := nI_add (9 * j) 1
  have k1 := nI_clampS (show 9 * j + 1 < 2000000000 by omega)
  have a2 : nI (9 * j) + 2 = nI (9 * j + 2) := nI_add (9 * j) 2
  have k2 := nI_clampS (show 9 * j + 2 < 2000000000 by omega)
  have a3 : nI (9 * j) + 3 = nI (9 * j + 3) := nI_add (9 * j) 3
  have k3 := nI_clampS (show 9 * j + 3 < 2000000000 by omega)
  have a4 : nI (9 * j) + 4 = nI (9 * j + 4) := nI_add (9 * j) 4
  have k4 := nI_clampS (show 9 * j + 4 < 2000000000 by omega)
  have a5 : nI (9 * j) + 5 = nI (9 * j + 5) := nI_add (9 * j) 5
  have k5 := nI_clampS (show 9 * j + 5 < 2000000000 by omega)
  have a6 : nI (9 * j) + 6 = nI (9 * j + 6) := nI_add (9 * j) 6
  have k6 := nI_clampS (show 9 * j + 6 < 2000000000 by omega)
  have a7 : nI (9 * j) + 7 = nI (9 * j + 7) := nI_add (9 * j) 7
  have k7 := nI_clampS (show 9 * j + 7 < 2000000000 by omega)
  have a8 : nI (9 * j) + 8 = nI (9 * j + 8) := nI_add (9 * j) 8
  have k8 := nI_clampS (show 9 * j + 8 < 2000000000 by omega)
  refine st b_L_law_1516 _ _ k_L_law_1516 _ _ _ _ _ ?_
  simp only [b_L_law_1516, zr_T, zr_aload_n0, zr_aload_n1, zr_aload_n2, zr_cP_eq, zr_call0, zr_iadd, zr_iald1, zr_icmp, zr_iconst, zr_iload_n3, zr_iret, zr_rt_a, zr_rt_i, zr_rt_l, zr_rt_n, zr_rt_z, zr_nil, zr_cons, ↓reduceIte, Nat.reduceAdd, Nat.reduceEqDiff, Nat.reduceLeDiff, Nat.reduceMul, Nat.reduceSub, Int32.reduceOfInt, Int64.reduceOfInt, Int64.reduceOfNat, true_and, and_true, false_and, and_false, or_false, false_or, true_or, or_true, Int.reduceEq, reduceCtorEq, or_self, and_self, ne_eq, not_false_eq_true, not_true_eq_false, eq_self, Nat.le_refl, Nat.zero_le, zr_eI, zr_eL, zr_eR, zr_pI, zr_pL, zr_pR, zr_pO, zr_pV, zq_pA0, zq_pA, zr_get, zr_put_n, zr_put, zr_rem_n, zr_rem, zr_cat_i, zr_cat_l, zr_cat_q, zr_w_n, zr_w, zr_args_n, zr_args, zr_tl_s, zr_tl_n, zq_hIsI, zq_hLsL, zq_hRsR, zq_hIsL, zq_hIsR, zq_hLsI, zq_hLsR, zq_hRsI, zq_hRsL, zq_hNsI, zq_hNsL, zq_hNsR, zq_hZsI, zq_hZsL, zq_hZsR, b2_01, Classical.not_not, Int32.toInt_toInt64, Int64.reduceToInt, zc_1000, zc_100, zc_10, zc_9, zc_2, ci_f, a1, k1, a2, k2, a3, k3, a4, k4, a5, k5, a6, k6, a7, k7, a8, k8]
  refine ⟨by exact vp_in_nI (by omega) (by omega), ?_⟩
  refine ⟨by exact vp_in_nI (by omega) (by omega), ?_⟩
  refine ⟨by exact vp_in_nI (by omega) (by omega), ?_⟩
  refine ⟨by exact vp_in_nI (by omega) (by omega), ?_⟩
  refine ⟨by exact vp_in_nI (by omega) (by omega), ?_⟩
  refine cpx (by omega) lk_L_169 (rc_13 rfl) (c_paste l G _ (by omega) (0, nI (o_W S)) S h C inv _ _ _ _ _) (by omega) (by omega) (fun r1 h1 g1 => ?_)
  obtain ⟨rfl, C1, m1⟩ := g1
  have e1 : mv h1 = S := m1.mv.trans e
  have M1 := m1.mr M
  simp only [zr_T, zr_aload_n0, zr_aload_n2, zr_cP_eq, zr_call0, zr_iadd, zr_iald1, zr_icmp, zr_iconst, zr_iload_n3, zr_iret, zr_rt_a, zr_rt_i, zr_rt_l, zr_rt_n, zr_rt_z, zr_nil, zr_cons, ↓reduceIte, Nat.reduceAdd, Nat.reduceEqDiff, Nat.reduceLeDiff, Nat.reduceMul, Nat.reduceSub, Int32.reduceOfInt, Int64.reduceOfInt, Int64.reduceOfNat, true_and, and_true, false_and, and_false, or_false, false_or, true_or, or_true, Int.reduceEq, reduceCtorEq, or_self, and_self, ne_eq, not_false_eq_true, not_true_eq_false, eq_self, Nat.le_refl, Nat.zero_le, zr_eI, zr_eL, zr_eR, zr_pI, zr_pL, zr_pR, zr_pO, zr_pV, zq_pA0, zq_pA, zr_get, zr_put_n, zr_put, zr_rem_n, zr_rem, zr_cat_i, zr_cat_l, zr_cat_q, zr_w_n, zr_w, zr_args_n, zr_args, zr_tl_s, zr_tl_n, zq_hIsI, zq_hLsL, zq_hRsR, zq_hIsL, zq_hIsR, zq_hLsI, zq_hLsR, zq_hRsI, zq_hRsL, zq_hNsI, zq_hNsL, zq_hNsR, zq_hZsI, zq_hZsL, zq_hZsR, b2_01, Classical.not_not, Int32.toInt_toInt64, Int64.reduceToInt, zc_1000, zc_100, zc_10, zc_9, zc_2, ci_f, a1, k1, a2, k2, a3, k3, a4, k4, a5, k5, a6, k6, a7, k7, a8, k8]
  refine ⟨by exact vp_in_nI (by omega) (by omega), ?_⟩
  refine ⟨by exact vp_in_nI (by omega) (by omega), ?_⟩
  refine ⟨by exact vp_in_nI (by omega) (by omega), ?_⟩
  refine ⟨by exact vp_in_nI (by omega) (by omega), ?_⟩
  refine ⟨by exact vp_in_nI (by omega) (by omega), ?_⟩
  refine cpx (by omega) lk_L_173 (rc_14 rfl) (m_paste l G _ (by omega) S h1 e1 M1 inv _ _ _ _ _) (by omega) (by omega) (fun r2 h2 g2 => ?_)
  obtain ⟨rfl, e2, s2, M2⟩ := g2
  simp only [zr_T, zr_cP_eq, zr_icmp, zr_iconst, zr_iret, zr_rt_a, zr_rt_i, zr_rt_l, zr_rt_n, zr_rt_z, zr_nil, zr_cons, ↓reduceIte, Nat.reduceAdd, Nat.reduceEqDiff, Nat.reduceLeDiff, Nat.reduceMul, Nat.reduceSub, Int32.reduceOfInt, Int64.reduceOfInt, Int64.reduceOfNat, true_and, and_true, false_and, and_false, or_false, false_or, true_or, or_true, Int.reduceEq, reduceCtorEq, or_self, and_self, ne_eq, not_false_eq_true, not_true_eq_false, eq_self, Nat.le_refl, Nat.zero_le, zr_eI, zr_eL, zr_eR, zr_pI, zr_pL, zr_pR, zr_pO, zr_pV, zq_pA0, zq_pA, zr_get, zr_put_n, zr_put, zr_rem_n, zr_rem, zr_cat_i, zr_cat_l, zr_cat_q, zr_w_n, zr_w, zr_args_n, zr_args, zr_tl_s, zr_tl_n, zq_hIsI, zq_hLsL, zq_hRsR, zq_hIsL, zq_hIsR, zq_hLsI, zq_hLsR, zq_hRsI, zq_hRsL, zq_hNsI, zq_hNsL, zq_hNsR, zq_hZsI, zq_hZsL, zq_hZsR, b2_01, Classical.not_not, Int32.toInt_toInt64, Int64.reduceToInt, zc_1000, zc_100, zc_10, zc_9, zc_2, ci_f, a1, k1, a2, k2, a3, k3, a4, k4, a5, k5, a6, k6, a7, k7, a8, k8]
  refine ⟨fun qc1 => ?_, fun qc1 => ?_⟩
  · try simp only [b2_0, Classical.not_not] at qc1
    try simp only [Int64.le_iff_toInt_le, Int64.lt_iff_toInt_lt, Int32.lt_iff_toInt_lt, Int32.le_iff_toInt_le, Int32.toInt_toInt64, Int64.reduceToInt, Int32.reduceToInt, Int.reduceNeg, Classical.not_not, i32e, l_add] at qc1
    all_goals
      exact K _ _ _ _ (LI.mk C1 s2 e2 M2 (inv_paste inv _ _ _ _ _) (w_paste _ _ _ _ _) (by omega) (by omega))
  · try simp only [b2_0, Classical.not_not] at qc1
    try simp only [Int64.le_iff_toInt_le, Int64.lt_iff_toInt_lt, Int32.lt_iff_toInt_lt, Int32.le_iff_toInt_le, Int32.toInt_toInt64, Int64.reduceToInt, Int32.reduceToInt, Int.reduceNeg, Classical.not_not, i32e, l_add] at qc1
    all_goals
      contradiction
