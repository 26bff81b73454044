/-! weighing, taking, suspects -/
def z_wg (h : z_H) (c w : Int32) (l m : Int64) : z_H := sL (sL (sI (sI h 12 0 0 c) 12 0 1 w) 12 0 2 l) 12 0 3 m
section WG
variable {h : z_H} {c w c' : Int32} {l m l' : Int64}
theorem wg_c : sI (z_wg h c w l m) 12 0 0 c' = z_wg h c' w l m := by
  refine Prod.ext rfl (Prod.ext ?_ rfl)
  funext K i k
  show (if K = 12 ∧ i = 0 ∧ k = 0 then c' else if K = 12 ∧ i = 0 ∧ k = 1 then w else if K = 12 ∧ i = 0 ∧ k = 0 then c else h.2.1 K i k) = (if K = 12 ∧ i = 0 ∧ k = 1 then w else if K = 12 ∧ i = 0 ∧ k = 0 then c' else h.2.1 K i k)
  (repeat' split) <;> first | rfl | (exfalso; omega)
theorem wg_w : sI (z_wg h c w l m) 12 0 1 c' = z_wg h c c' l m := by
  refine Prod.ext rfl (Prod.ext ?_ rfl)
  funext K i k
  show (if K = 12 ∧ i = 0 ∧ k = 1 then c' else if K = 12 ∧ i = 0 ∧ k = 1 then w else if K = 12 ∧ i = 0 ∧ k = 0 then c else h.2.1 K i k) = (if K = 12 ∧ i = 0 ∧ k = 1 then c' else if K = 12 ∧ i = 0 ∧ k = 0 then c else h.2.1 K i k)
  (repeat' split) <;> first | rfl | (exfalso; omega)
theorem wg_l : sL (z_wg h c w l m) 12 0 2 l' = z_wg h c w l' m := by
  refine Prod.ext rfl (Prod.ext rfl (Prod.ext ?_ rfl))
  funext K i k
  show (if K = 12 ∧ i = 0 ∧ k = 2 then l' else if K = 12 ∧ i = 0 ∧ k = 3 then m else if K = 12 ∧ i = 0 ∧ k = 2 then l else h.2.2.1 K i k) = (if K = 12 ∧ i = 0 ∧ k = 3 then m else if K = 12 ∧ i = 0 ∧ k = 2 then l' else h.2.2.1 K i k)
  (repeat' split) <;> first | rfl | (exfalso; omega)
theorem wg_m : sL (z_wg h c w l m) 12 0 3 l' = z_wg h c w l l' := by
  refine Prod.ext rfl (Prod.ext rfl (Prod.ext ?_ rfl))
  funext K i k
  show (if K = 12 ∧ i = 0 ∧ k = 3 then l' else if K = 12 ∧ i = 0 ∧ k = 3 then m else if K = 12 ∧ i = 0 ∧ k = 2 then l else h.2.2.1 K i k) = (if K = 12 ∧ i = 0 ∧ k = 3 then l' else if K = 12 ∧ i = 0 ∧ k = 2 then l else h.2.2.1 K i k)
  (repeat' split) <;> first | rfl | (exfalso; omega)
theorem wg_0 : z_wg h (hI h 12 0 0) (hI h 12 0 1) (hL h 12 0 2) (hL h 12 0 3) = h := by
  refine Prod.ext rfl (Prod.ext ?_ (Prod.ext ?_ rfl))
  · funext K i k
    show (if K = 12 ∧ i = 0 ∧ k = 1 then h.2.1 12 0 1 else if K = 12 ∧ i = 0 ∧ k = 0 then h.2.1 12 0 0 else h.2.1 K i k) = h.2.1 K i k
    split
    · rename_i q
      rw [q.1, q.2.1, q.2.2]
    · split
      · rename_i q
        rw [q.1, q.2.1, q.2.2]
      · rfl
  · funext K i k
    show (if K = 12 ∧ i = 0 ∧ k = 3 then h.2.2.1 12 0 3 else if K = 12 ∧ i = 0 ∧ k = 2 then h.2.2.1 12 0 2 else h.2.2.1 K i k) = h.2.2.1 K i k
    split
    · rename_i q
      rw [q.1, q.2.1, q.2.2]
    · split
      · rename_i q
        rw [q.1, q.2.1, q.2.2]
      · rfl
theorem wg_rc : hI (z_wg h c w l m) 12 0 0 = c := id rfl
theorem wg_rw : hI (z_wg h c w l m) 12 0 1 = w := id rfl
theorem wg_rl : hL (z_wg h c w l m) 12 0 2 = l := id rfl
theorem wg_rm : hL (z_wg h c w l m) 12 0 3 = m := id rfl
theorem wg_R : hR (z_wg h c w l m) = hR h := id rfl
theorem wg_Z : hZ (z_wg h c w l m) = hZ h := id rfl
theorem wg_I {K : Nat} (e : K ≠ 12) : hI (z_wg h c w l m) K = hI h K := by
  funext i k
  show (if K = 12 ∧ i = 0 ∧ k = 1 then w else if K = 12 ∧ i = 0 ∧ k = 0 then c else h.2.1 K i k) = h.2.1 K i k
  rw [if_neg (fun q => e q.1), if_neg (fun q => e q.1)]
theorem wg_L {K : Nat} (e : K ≠ 12) : hL (z_wg h c w l m) K = hL h K := by
  funext i k
  show (if K = 12 ∧ i = 0 ∧ k = 3 then m else if K = 12 ∧ i = 0 ∧ k = 2 then l else h.2.2.1 K i k) = h.2.2.1 K i k
  rw [if_neg (fun q => e q.1), if_neg (fun q => e q.1)]
theorem z_sMwg {h0 : z_H} (a : z_sM h0 h) : z_sM h0 (z_wg h c w l m) := z_sM.L (z_sM.L (z_sM.I (z_sM.I a (by decide)) (by decide)) (by decide)) (by decide)
end WG
theorem cr_wg {tr : z_TR} {S : z_M} {h : z_H} (C : CR tr S h) {c w : Int32} {l m : Int64} : CR tr S (z_wg h c w l m) := by
  unfold CR
  exact ⟨C.xA, C.xK, C.xL, C.xE, C.xO, C.xR, C.xX, C.xF, C.zK, C.zA, C.zR, C.zO, C.zE, C.zS, C.zL, C.ref, C.day, C.wai, C.fee, C.ter, C.hou, C.scn, C.fcn, C.kin, C.acc, C.fol, C.rec, C.ord, C.lin, C.len, C.row, C.sus⟩
theorem tn_0 {lo hi : Int32} {c : Nat → Int64} {b n : Nat} (h : o_tn lo hi c b n = 0) : o_mi lo hi c b n = 9223372036854775807 ∧ o_ma lo hi c b n = 0 := by
  induction n with
  | zero => exact ⟨rfl, rfl⟩
  | succ n ih =>
    unfold o_tn at h
    unfold o_mi o_ma
    by_cases q : o_tk lo hi (c (b + n))
    · rw [if_pos q] at h
      omega
    · rw [if_neg q] at h
      rw [if_neg q, if_neg q]
      exact ih h
theorem mi_1 {v : Int64} : (if v < 9223372036854775807 then v else 9223372036854775807) = v := by
  split
  · rfl
  · rename_i q
    have := i64b v
    rw [Int64.lt_iff_toInt_lt] at q
    have e : (9223372036854775807 : Int64).toInt = 9223372036854775807 := rfl
    rw [← Int64.toInt_inj]
    omega
theorem ma_1x {v : Int64} (h : 0 ≤ v.toInt) : (if v < 0 then 0 else v) = v := by
  rw [if_neg]
  intro q
  rw [Int64.lt_iff_toInt_lt] at q
  have e : (0 : Int64).toInt = 0 := rfl
  omega
theorem c_weigh1 (l : Launch) (G : z_G) (d : Nat) (hd : 2 ≤ d) (tr : z_TR) (S : z_M) (h : z_H) (C : CR tr S h) (inv : INV S) (c0 w0 : Int32) (l0 m0 : Int64) (s k : Nat) (hs : s < 4) (hk : k < nK S) : z_MT l G d yX10_weigh cX10_weigh 6 none [z_r 12 0, z_r 10 s, z_r 4 k] (z_wg h c0 w0 l0 m0) 0 0 (fun r h' => r = none ∧ ∃ l1 m1, h' = z_wg h (nI (o_tn (mA S 23 k) (mA S 22 k) (mB S 3) (60 * s) (ci (mA S 2 s)))) (o_tw (mA S 23 k) (mA S 22 k) (mB S 3) (60 * s) (ci (mA S 2 s))).toInt32 l1 m1 ∧ (¬ o_tn (mA S 23 k) (mA S 22 k) (mB S 3) (60 * s) (ci (mA S 2 s)) = 0 → l1 = o_mi (mA S 23 k) (mA S 22 k) (mB S 3) (60 * s) (ci (mA S 2 s)) ∧ m1 = o_ma (mA S 23 k) (mA S 22 k) (mB S 3) (60 * s) (ci (mA S 2 s)))) := by
  have js := C.row s hs
  have ijs := inv.row s hs
  have ik := inv.kin.1 k hk
  have kz := ci_int (x := mA S 2 s) (by omega)
  refine z_mt2 12 false ⟨by decide, rfl, fun q => absurd q (by decide)⟩ (by show 3 ≤ 6; decide) (fun A st wk => ?_)
  refine st b_X10_weigh_0 _ _ k_X10_weigh_0 _ _ _ _ _ ?_
  simp only [b_X10_weigh_0, zr_aload_n0, zr_iconst, zr_istore_n3, zr_put0, zr_nil, zr_cons, ↓reduceIte, Nat.reduceAdd, Nat.reduceEqDiff, Nat.reduceLeDiff, Nat.reduceMul, Nat.reduceSub, Int32.reduceOfInt, Int64.reduceOfInt, Int64.reduceOfNat, true_and, and_true, false_and, and_false, or_false, false_or, true_or, or_true, Int.reduceEq, reduceCtorEq, or_self, and_self, ne_eq, not_false_eq_true, not_true_eq_false, eq_self, Nat.le_refl, Nat.zero_le, zr_eI, zr_eL, zr_eR, zr_pI, zr_pL, zr_pR, zr_pO, zr_pV, zq_pA0, zq_pA, zr_get, zr_put_n, zr_put, zr_rem_n, zr_rem, zr_cat_i, zr_cat_l, zr_cat_q, zr_w_n, zr_w, zr_args_n, zr_args, zr_tl_s, zr_tl_n, zq_hIsI, zq_hLsL, zq_hRsR, zq_hIsL, zq_hIsR, zq_hLsI, zq_hLsR, zq_hRsI, zq_hRsL, zq_hNsI, zq_hNsL, zq_hNsR, zq_hZsI, zq_hZsL, zq_hZsR, b2_01, Classical.not_not, Int32.toInt_toInt64, Int64.reduceToInt, zc_1000, zc_100, zc_10, zc_9, zc_2, ci_f, wg_c, wg_w]
  refine (show ∀ i, i ≤ (ci (mA S 2 s)) → ∀ (l1 m1 : Int64), (¬ o_tn (mA S 23 k) (mA S 22 k) (mB S 3) (60 * s) i = 0 → l1 = o_mi (mA S 23 k) (mA S 22 k) (mB S 3) (60 * s) i ∧ m1 = o_ma (mA S 23 k) (mA S 22 k) (mB S 3) (60 * s) i) → A 12 [(0, z_r 12 0), (1, z_r 10 s), (2, z_r 4 k), (3, z_i (nI i))] [] (z_wg h (nI (o_tn (mA S 23 k) (mA S 22 k) (mB S 3) (60 * s) i)) (o_tw (mA S 23 k) (mA S 22 k) (mB S 3) (60 * s) i).toInt32 l1 m1) 0 0 from z_loop (fun i hi ih => ?_)) 0 (Nat.zero_le _) _ _ (fun q => absurd rfl q)
  intro l1 m1 hlm
  have ti := toIntS (show i < 2000000000 by omega)
  have ki := nI_clampS (show i < 2000000000 by omega)
  have nb := o_tn_le (lo := mA S 23 k) (hi := mA S 22 k) (c := mB S 3) (b := 60 * s) i
  have tn := toIntS (show o_tn (mA S 23 k) (mA S 22 k) (mB S 3) (60 * s) i < 2000000000 by omega)
  refine st b_X10_weigh_12 _ _ k_X10_weigh_12 _ _ _ _ _ ?_
  simp only [b_X10_weigh_12, zr_aload_n0, zr_aload_n1, zr_aload_n2, zr_bipush, zr_cP_eq, zr_cP_ge, zr_cP_ne, zr_call0, zr_get0, zr_get2, zr_goto, zr_icmp, zr_ifc, zr_iload_n3, zr_lald, zr_lload, zr_lstore, zr_nil, zr_cons, ↓reduceIte, Nat.reduceAdd, Nat.reduceEqDiff, Nat.reduceLeDiff, Nat.reduceMul, Nat.reduceSub, Int32.reduceOfInt, Int64.reduceOfInt, Int64.reduceOfNat, true_and, and_true, false_and, and_false, or_false, false_or, true_or, or_true, Int.reduceEq, reduceCtorEq, or_self, and_self, ne_eq, not_false_eq_true, not_true_eq_false, eq_self, Nat.le_refl, Nat.zero_le, zr_eI, zr_eL, zr_eR, zr_pI, zr_pL, zr_pR, zr_pO, zr_pV, zq_pA0, zq_pA, zr_get, zr_put_n, zr_put, zr_rem_n, zr_rem, zr_cat_i, zr_cat_l, zr_cat_q, zr_w_n, zr_w, zr_args_n, zr_args, zr_tl_s, zr_tl_n, zq_hIsI, zq_hLsL, zq_hRsR, zq_hIsL, zq_hIsR, zq_hLsI, zq_hLsR, zq_hRsI, zq_hRsL, zq_hNsI, zq_hNsL, zq_hNsR, zq_hZsI, zq_hZsL, zq_hZsR, b2_01, Classical.not_not, Int32.toInt_toInt64, Int64.reduceToInt, zc_1000, zc_100, zc_10, zc_9, zc_2, ci_f, wg_rc, wg_rw, wg_rl, wg_rm, wg_R, wg_Z, wg_I (show (10 : Nat) ≠ 12 by decide), wg_I (show (4 : Nat) ≠ 12 by decide), wg_L (show (100 : Nat) ≠ 12 by decide), wg_l, wg_m, wg_c, wg_w, js.1, js.2.2.2.1, aLen_100, aCod_100, ki]
  refine ⟨fun qc21 => ?_, fun qc21 => ?_⟩
  · try simp only [b2_0, Classical.not_not] at qc21
    try simp only [Int64.le_iff_toInt_le, Int64.lt_iff_toInt_lt, Int32.lt_iff_toInt_lt, Int32.le_iff_toInt_le, Int32.toInt_toInt64, Int64.reduceToInt, Int32.reduceToInt, Int.reduceNeg, Classical.not_not, i32e, l_add] at qc21
    refine st b_X10_weigh_121 _ _ k_X10_weigh_121 _ _ _ _ _ ?_
    simp only [b_X10_weigh_121, zr_T, zr_ret, zr_rt_a, zr_rt_i, zr_rt_l, zr_rt_n, zr_rt_z, zr_nil, zr_cons, ↓reduceIte, Nat.reduceAdd, Nat.reduceEqDiff, Nat.reduceLeDiff, Nat.reduceMul, Nat.reduceSub, Int32.reduceOfInt, Int64.reduceOfInt, Int64.reduceOfNat, true_and, and_true, false_and, and_false, or_false, false_or, true_or, or_true, Int.reduceEq, reduceCtorEq, or_self, and_self, ne_eq, not_false_eq_true, not_true_eq_false, eq_self, Nat.le_refl, Nat.zero_le, zr_eI, zr_eL, zr_eR, zr_pI, zr_pL, zr_pR, zr_pO, zr_pV, zq_pA0, zq_pA, zr_get, zr_put_n, zr_put, zr_rem_n, zr_rem, zr_cat_i, zr_cat_l, zr_cat_q, zr_w_n, zr_w, zr_args_n, zr_args, zr_tl_s, zr_tl_n, zq_hIsI, zq_hLsL, zq_hRsR, zq_hIsL, zq_hIsR, zq_hLsI, zq_hLsR, zq_hRsI, zq_hRsL, zq_hNsI, zq_hNsL, zq_hNsR, zq_hZsI, zq_hZsL, zq_hZsR, b2_01, Classical.not_not, Int32.toInt_toInt64, Int64.reduceToInt, zc_1000, zc_100, zc_10, zc_9, zc_2, ci_f, wg_rc, wg_rw, wg_rl, wg_rm, wg_R, wg_Z, wg_I (show (10 : Nat) ≠ 12 by decide), wg_I (show (4 : Nat) ≠ 12 by decide), wg_L (show (100 : Nat) ≠ 12 by decide), wg_l, wg_m, wg_c, wg_w, js.1, js.2.2.2.1, aLen_100, aCod_100, ki]
    have ei : i = (ci (mA S 2 s)) := by omega
    subst ei
    exact ⟨l1, m1, rfl, hlm⟩
  · try simp only [b2_0, Classical.not_not] at qc21
    try simp only [Int64.le_iff_toInt_le, Int64.lt_iff_toInt_lt, Int32.lt_iff_toInt_lt, Int32.le_iff_toInt_le, Int32.toInt_toInt64, Int64.reduceToInt, Int32.reduceToInt, Int.reduceNeg, Classical.not_not, i32e, l_add] at qc21
    refine ⟨fun qc22 => ?_, fun qc22 => ?_⟩
    · try simp only [b2_0, Classical.not_not] at qc22
      try simp only [Int64.le_iff_toInt_le, Int64.lt_iff_toInt_lt, Int32.lt_iff_toInt_lt, Int32.le_iff_toInt_le, Int32.toInt_toInt64, Int64.reduceToInt, Int32.reduceToInt, Int.reduceNeg, Classical.not_not, i32e, l_add] at qc22
      refine st b_X10_weigh_121 _ _ k_X10_weigh_121 _ _ _ _ _ ?_
      simp only [b_X10_weigh_121, zr_T, zr_ret, zr_rt_a, zr_rt_i, zr_rt_l, zr_rt_n, zr_rt_z, zr_nil, zr_cons, ↓reduceIte, Nat.reduceAdd, Nat.reduceEqDiff, Nat.reduceLeDiff, Nat.reduceMul, Nat.reduceSub, Int32.reduceOfInt, Int64.reduceOfInt, Int64.reduceOfNat, true_and, and_true, false_and, and_false, or_false, false_or, true_or, or_true, Int.reduceEq, reduceCtorEq, or_self, and_self, ne_eq, not_false_eq_true, not_true_eq_false, eq_self, Nat.le_refl, Nat.zero_le, zr_eI, zr_eL, zr_eR, zr_pI, zr_pL, zr_pR, zr_pO, zr_pV, zq_pA0, zq_pA, zr_get, zr_put_n, zr_put, zr_rem_n, zr_rem, zr_cat_i, zr_cat_l, zr_cat_q, zr_w_n, zr_w, zr_args_n, zr_args, zr_tl_s, zr_tl_n, zq_hIsI, zq_hLsL, zq_hRsR, zq_hIsL, zq_hIsR, zq_hLsI, zq_hLsR, zq_hRsI, zq_hRsL, zq_hNsI, zq_hNsL, zq_hNsR, zq_hZsI, zq_hZsL, zq_hZsR, b2_01, Classical.not_not, Int32.toInt_toInt64, Int64.reduceToInt, zc_1000, zc_100, zc_10, zc_9, zc_2, ci_f, wg_rc, wg_rw, wg_rl, wg_rm, wg_R, wg_Z, wg_I (show (10 : Nat) ≠ 12 by decide), wg_I (show (4 : Nat) ≠ 12 by decide), wg_L (show (100 : Nat) ≠ 12 by decide), wg_l, wg_m, wg_c, wg_w, js.1, js.2.2.2.1, aLen_100, aCod_100, ki]
      have ei : i = (ci (mA S 2 s)) := by omega
      subst ei
      exact ⟨l1, m1, rfl, hlm⟩
    · try simp only [b2_0, Classical.not_not] at qc22
      try simp only [Int64.le_iff_toInt_le, Int64.lt_iff_toInt_lt, Int32.lt_iff_toInt_lt, Int32.le_iff_toInt_le, Int32.toInt_toInt64, Int64.reduceToInt, Int32.reduceToInt, Int.reduceNeg, Classical.not_not, i32e, l_add] at qc22
      have jc := js.2.2.2.2 i (by omega)
      try simp only [zr_aload_n0, zr_aload_n1, zr_aload_n2, zr_cP_eq, zr_cP_ne, zr_call0, zr_get0, zr_get2, zr_goto, zr_ifc, zr_iload_n3, zr_lald, zr_lload, zr_lstore, zr_nil, zr_cons, ↓reduceIte, Nat.reduceAdd, Nat.reduceEqDiff, Nat.reduceLeDiff, Nat.reduceMul, Nat.reduceSub, Int32.reduceOfInt, Int64.reduceOfInt, Int64.reduceOfNat, true_and, and_true, false_and, and_false, or_false, false_or, true_or, or_true, Int.reduceEq, reduceCtorEq, or_self, and_self, ne_eq, not_false_eq_true, not_true_eq_false, eq_self, Nat.le_refl, Nat.zero_le, zr_eI, zr_eL, zr_eR, zr_pI, zr_pL, zr_pR, zr_pO, zr_pV, zq_pA0, zq_pA, zr_get, zr_put_n, zr_put, zr_rem_n, zr_rem, zr_cat_i, zr_cat_l, zr_cat_q, zr_w_n, zr_w, zr_args_n, zr_args, zr_tl_s, zr_tl_n, zq_hIsI, zq_hLsL, zq_hRsR, zq_hIsL, zq_hIsR, zq_hLsI, zq_hLsR, zq_hRsI, zq_hRsL, zq_hNsI, zq_hNsL, zq_hNsR, zq_hZsI, zq_hZsL, zq_hZsR, b2_01, Classical.not_not, Int32.toInt_toInt64, Int64.reduceToInt, zc_1000, zc_100, zc_10, zc_9, zc_2, ci_f, wg_rc, wg_rw, wg_rl, wg_rm, wg_R, wg_Z, wg_I (show (10 : Nat) ≠ 12 by decide), wg_I (show (4 : Nat) ≠ 12 by decide), wg_L (show (100 : Nat) ≠ 12 by decide), wg_l, wg_m, wg_c, wg_w, js.1, js.2.2.2.1, aLen_100, aCod_100, ki, jc]
      refine ⟨by first | exact vpi (by omega) | with_reducible exact vp_in_nI (by omega) (by omega), ?_⟩
      refine cp0 (by omega) lk_X10_27 (rc_4 rfl) (c_takes l G _ tr S _ (cr_wg C) inv k hk _) (by omega) (by omega) ?_
      simp only [zr_aload_n0, zr_cP_eq, zr_cP_ne, zr_get0, zr_goto, zr_ifc, zr_lload, zr_nil, zr_cons, ↓reduceIte, Nat.reduceAdd, Nat.reduceEqDiff, Nat.reduceLeDiff, Nat.reduceMul, Nat.reduceSub, Int32.reduceOfInt, Int64.reduceOfInt, Int64.reduceOfNat, true_and, and_true, false_and, and_false, or_false, false_or, true_or, or_true, Int.reduceEq, reduceCtorEq, or_self, and_self, ne_eq, not_false_eq_true, not_true_eq_false, eq_self, Nat.le_refl, Nat.zero_le, zr_eI, zr_eL, zr_eR, zr_pI, zr_pL, zr_pR, zr_pO, zr_pV, zq_pA0, zq_pA, zr_get, zr_put_n, zr_put, zr_rem_n, zr_rem, zr_cat_i, zr_cat_l, zr_cat_q, zr_w_n, zr_w, zr_args_n, zr_args, zr_tl_s, zr_tl_n, zq_hIsI, zq_hLsL, zq_hRsR, zq_hIsL, zq_hIsR, zq_hLsI, zq_hLsR, zq_hRsI, zq_hRsL, zq_hNsI, zq_hNsL, zq_hNsR, zq_hZsI, zq_hZsL, zq_hZsR, b2_01, Classical.not_not, Int32.toInt_toInt64, Int64.reduceToInt, zc_1000, zc_100, zc_10, zc_9, zc_2, ci_f, wg_rc, wg_rw, wg_rl, wg_rm, wg_R, wg_Z, wg_I (show (10 : Nat) ≠ 12 by decide), wg_I (show (4 : Nat) ≠ 12 by decide), wg_L (show (100 : Nat) ≠ 12 by decide), wg_l, wg_m, wg_c, wg_w, js.1, js.2.2.2.1, aLen_100, aCod_100, ki, jc]
      refine ⟨fun qc23 => ?_, fun qc23 => ?_⟩
      · try simp only [b2_0, Classical.not_not] at qc23
        try simp only [Int64.le_iff_toInt_le, Int64.lt_iff_toInt_lt, Int32.lt_iff_toInt_lt, Int32.le_iff_toInt_le, Int32.toInt_toInt64, Int64.reduceToInt, Int32.reduceToInt, Int.reduceNeg, Classical.not_not, i32e, l_add] at qc23
        refine st b_X10_weigh_115 _ _ k_X10_weigh_115 _ _ _ _ _ ?_
        simp only [b_X10_weigh_115, zr_goto, zr_iinc, zr_nil, zr_cons, ↓reduceIte, Nat.reduceAdd, Nat.reduceEqDiff, Nat.reduceLeDiff, Nat.reduceMul, Nat.reduceSub, Int32.reduceOfInt, Int64.reduceOfInt, Int64.reduceOfNat, true_and, and_true, false_and, and_false, or_false, false_or, true_or, or_true, Int.reduceEq, reduceCtorEq, or_self, and_self, ne_eq, not_false_eq_true, not_true_eq_false, eq_self, Nat.le_refl, Nat.zero_le, zr_eI, zr_eL, zr_eR, zr_pI, zr_pL, zr_pR, zr_pO, zr_pV, zq_pA0, zq_pA, zr_get, zr_put_n, zr_put, zr_rem_n, zr_rem, zr_cat_i, zr_cat_l, zr_cat_q, zr_w_n, zr_w, zr_args_n, zr_args, zr_tl_s, zr_tl_n, zq_hIsI, zq_hLsL, zq_hRsR, zq_hIsL, zq_hIsR, zq_hLsI, zq_hLsR, zq_hRsI, zq_hRsL, zq_hNsI, zq_hNsL, zq_hNsR, zq_hZsI, zq_hZsL, zq_hZsR, b2_01, Classical.not_not, Int32.toInt_toInt64, Int64.reduceToInt, zc_1000, zc_100, zc_10, zc_9, zc_2, ci_f, wg_rc, wg_rw, wg_rl, wg_rm, wg_R, wg_Z, wg_I (show (10 : Nat) ≠ 12 by decide), wg_I (show (4 : Nat) ≠ 12 by decide), wg_L (show (100 : Nat) ≠ 12 by decide), wg_l, wg_m, wg_c, wg_w, js.1, js.2.2.2.1, aLen_100, aCod_100, ki, jc]
        first
          | (exfalso; omega)
          | (have hq : ¬ o_tk (mA S 23 k) (mA S 22 k) (mB S 3 (60 * s + i)) := by assumption
             have e1 : o_tn (mA S 23 k) (mA S 22 k) (mB S 3) (60 * s) (i + 1) = o_tn (mA S 23 k) (mA S 22 k) (mB S 3) (60 * s) i := by show (if _ then _ else _) = _; rw [if_neg hq]
             have e2 : o_tw (mA S 23 k) (mA S 22 k) (mB S 3) (60 * s) (i + 1) = o_tw (mA S 23 k) (mA S 22 k) (mB S 3) (60 * s) i := by show (if _ then _ else _) = _; rw [if_neg hq]
             have e3 : o_mi (mA S 23 k) (mA S 22 k) (mB S 3) (60 * s) (i + 1) = o_mi (mA S 23 k) (mA S 22 k) (mB S 3) (60 * s) i := by show (if _ then _ else _) = _; rw [if_neg hq]
             have e4 : o_ma (mA S 23 k) (mA S 22 k) (mB S 3) (60 * s) (i + 1) = o_ma (mA S 23 k) (mA S 22 k) (mB S 3) (60 * s) i := by show (if _ then _ else _) = _; rw [if_neg hq]
             have ih' := ih (by omega)
             rw [e1, e2, e3, e4] at ih'
             rw [nI_1]
             exact wk _ _ _ _ _ _ _ (ih' _ _ hlm))
          | (have hq : o_tk (mA S 23 k) (mA S 22 k) (mB S 3 (60 * s + i)) := by assumption
             have e1 : o_tn (mA S 23 k) (mA S 22 k) (mB S 3) (60 * s) (i + 1) = o_tn (mA S 23 k) (mA S 22 k) (mB S 3) (60 * s) i + 1 := by show (if _ then _ else _) = _; rw [if_pos hq]
             have e2 : o_tw (mA S 23 k) (mA S 22 k) (mB S 3) (60 * s) (i + 1) = o_tw (mA S 23 k) (mA S 22 k) (mB S 3) (60 * s) i + mB S 3 (60 * s + i) := by show (if _ then _ else _) = _; rw [if_pos hq]
             have e3 : o_mi (mA S 23 k) (mA S 22 k) (mB S 3) (60 * s) (i + 1) = (if mB S 3 (60 * s + i) < o_mi (mA S 23 k) (mA S 22 k) (mB S 3) (60 * s) i then mB S 3 (60 * s + i) else o_mi (mA S 23 k) (mA S 22 k) (mB S 3) (60 * s) i) := by show (if _ then _ else _) = _; rw [if_pos hq]
             have e4 : o_ma (mA S 23 k) (mA S 22 k) (mB S 3) (60 * s) (i + 1) = (if mB S 3 (60 * s + i) < o_ma (mA S 23 k) (mA S 22 k) (mB S 3) (60 * s) i then o_ma (mA S 23 k) (mA S 22 k) (mB S 3) (60 * s) i else mB S 3 (60 * s + i)) := by show (if _ then _ else _) = _; rw [if_pos hq]
             have ih' := ih (by omega)
             rw [e1, e2, e3, e4] at ih'
             simp only [nI_1, ← Int64.toInt32_add]
             refine wk _ _ _ _ _ _ _ (ih' _ _ (fun _ => ?_))
             have z0 := tn_0 (lo := mA S 23 k) (hi := mA S 22 k) (c := mB S 3) (b := 60 * s) (n := i) (by omega)
             rw [z0.1, z0.2, mi_1, ma_1x (by omega)]
             exact ⟨rfl, rfl⟩)
          | (have hq : o_tk (mA S 23 k) (mA S 22 k) (mB S 3 (60 * s + i)) := by assumption
             have e1 : o_tn (mA S 23 k) (mA S 22 k) (mB S 3) (60 * s) (i + 1) = o_tn (mA S 23 k) (mA S 22 k) (mB S 3) (60 * s) i + 1 := by show (if _ then _ else _) = _; rw [if_pos hq]
             have e2 : o_tw (mA S 23 k) (mA S 22 k) (mB S 3) (60 * s) (i + 1) = o_tw (mA S 23 k) (mA S 22 k) (mB S 3) (60 * s) i + mB S 3 (60 * s + i) := by show (if _ then _ else _) = _; rw [if_pos hq]
             have e3 : o_mi (mA S 23 k) (mA S 22 k) (mB S 3) (60 * s) (i + 1) = (if mB S 3 (60 * s + i) < o_mi (mA S 23 k) (mA S 22 k) (mB S 3) (60 * s) i then mB S 3 (60 * s + i) else o_mi (mA S 23 k) (mA S 22 k) (mB S 3) (60 * s) i) := by show (if _ then _ else _) = _; rw [if_pos hq]
             have e4 : o_ma (mA S 23 k) (mA S 22 k) (mB S 3) (60 * s) (i + 1) = (if mB S 3 (60 * s + i) < o_ma (mA S 23 k) (mA S 22 k) (mB S 3) (60 * s) i then o_ma (mA S 23 k) (mA S 22 k) (mB S 3) (60 * s) i else mB S 3 (60 * s + i)) := by show (if _ then _ else _) = _; rw [if_pos hq]
             have ih' := ih (by omega)
             rw [e1, e2, e3, e4] at ih'
             simp only [nI_1, ← Int64.toInt32_add]
             refine wk _ _ _ _ _ _ _ (ih' _ _ (fun _ => ?_))
             have z1 := hlm (by omega)
             rw [z1.1, z1.2]
             exact ⟨rfl, rfl⟩)
      · try simp only [b2_0, Classical.not_not] at qc23
        try simp only [Int64.le_iff_toInt_le, Int64.lt_iff_toInt_lt, Int32.lt_iff_toInt_lt, Int32.le_iff_toInt_le, Int32.toInt_toInt64, Int64.reduceToInt, Int32.reduceToInt, Int.reduceNeg, Classical.not_not, i32e, l_add] at qc23
        refine ⟨fun qc24 => ?_, fun qc24 => ?_⟩
        · try simp only [b2_0, Classical.not_not] at qc24
          try simp only [Int64.le_iff_toInt_le, Int64.lt_iff_toInt_lt, Int32.lt_iff_toInt_lt, Int32.le_iff_toInt_le, Int32.toInt_toInt64, Int64.reduceToInt, Int32.reduceToInt, Int.reduceNeg, Classical.not_not, i32e, l_add] at qc24
          refine st b_X10_weigh_56 _ _ k_X10_weigh_56 _ _ _ _ _ ?_
          simp only [b_X10_weigh_56, zr_aload_n0, zr_call1, zr_get1, zr_lload, zr_nil, zr_cons, ↓reduceIte, Nat.reduceAdd, Nat.reduceEqDiff, Nat.reduceLeDiff, Nat.reduceMul, Nat.reduceSub, Int32.reduceOfInt, Int64.reduceOfInt, Int64.reduceOfNat, true_and, and_true, false_and, and_false, or_false, false_or, true_or, or_true, Int.reduceEq, reduceCtorEq, or_self, and_self, ne_eq, not_false_eq_true, not_true_eq_false, eq_self, Nat.le_refl, Nat.zero_le, zr_eI, zr_eL, zr_eR, zr_pI, zr_pL, zr_pR, zr_pO, zr_pV, zq_pA0, zq_pA, zr_get, zr_put_n, zr_put, zr_rem_n, zr_rem, zr_cat_i, zr_cat_l, zr_cat_q, zr_w_n, zr_w, zr_args_n, zr_args, zr_tl_s, zr_tl_n, zq_hIsI, zq_hLsL, zq_hRsR, zq_hIsL, zq_hIsR, zq_hLsI, zq_hLsR, zq_hRsI, zq_hRsL, zq_hNsI, zq_hNsL, zq_hNsR, zq_hZsI, zq_hZsL, zq_hZsR, b2_01, Classical.not_not, Int32.toInt_toInt64, Int64.reduceToInt, zc_1000, zc_100, zc_10, zc_9, zc_2, ci_f, wg_rc, wg_rw, wg_rl, wg_rm, wg_R, wg_Z, wg_I (show (10 : Nat) ≠ 12 by decide), wg_I (show (4 : Nat) ≠ 12 by decide), wg_L (show (100 : Nat) ≠ 12 by decide), wg_l, wg_m, wg_c, wg_w, js.1, js.2.2.2.1, aLen_100, aCod_100, ki, jc]
          refine cp_lmin (by omega) lk_X10_37.2 (Nat.le_refl _) (Nat.le_refl _) ?_
          simp only [zr_nil, zr_cons, ↓reduceIte, Nat.reduceAdd, Nat.reduceEqDiff, Nat.reduceLeDiff, Nat.reduceMul, Nat.reduceSub, Int32.reduceOfInt, Int64.reduceOfInt, Int64.reduceOfNat, true_and, and_true, false_and, and_false, or_false, false_or, true_or, or_true, Int.reduceEq, reduceCtorEq, or_self, and_self, ne_eq, not_false_eq_true, not_true_eq_false, eq_self, Nat.le_refl, Nat.zero_le, zr_eI, zr_eL, zr_eR, zr_pI, zr_pL, zr_pR, zr_pO, zr_pV, zq_pA0, zq_pA, zr_get, zr_put_n, zr_put, zr_rem_n, zr_rem, zr_cat_i, zr_cat_l, zr_cat_q, zr_w_n, zr_w, zr_args_n, zr_args, zr_tl_s, zr_tl_n, zq_hIsI, zq_hLsL, zq_hRsR, zq_hIsL, zq_hIsR, zq_hLsI, zq_hLsR, zq_hRsI, zq_hRsL, zq_hNsI, zq_hNsL, zq_hNsR, zq_hZsI, zq_hZsL, zq_hZsR, b2_01, Classical.not_not, Int32.toInt_toInt64, Int64.reduceToInt, zc_1000, zc_100, zc_10, zc_9, zc_2, ci_f, wg_rc, wg_rw, wg_rl, wg_rm, wg_R, wg_Z, wg_I (show (10 : Nat) ≠ 12 by decide), wg_I (show (4 : Nat) ≠ 12 by decide), wg_L (show (100 : Nat) ≠ 12 by decide), wg_l, wg_m, wg_c, wg_w, js.1, js.2.2.2.1, aLen_100, aCod_100, ki, jc]
          refine st b_X10_weigh_65 _ _ k_X10_weigh_65 _ _ _ _ _ ?_
          simp only [b_X10_weigh_65, zr_aload_n0, zr_cP_ne, zr_get0, zr_goto, zr_ifc, zr_lload, zr_put1, zr_nil, zr_cons, ↓reduceIte, Nat.reduceAdd, Nat.reduceEqDiff, Nat.reduceLeDiff, Nat.reduceMul, Nat.reduceSub, Int32.reduceOfInt, Int64.reduceOfInt, Int64.reduceOfNat, true_and, and_true, false_and, and_false, or_false, false_or, true_or, or_true, Int.reduceEq, reduceCtorEq, or_self, and_self, ne_eq, not_false_eq_true, not_true_eq_false, eq_self, Nat.le_refl, Nat.zero_le, zr_eI, zr_eL, zr_eR, zr_pI, zr_pL, zr_pR, zr_pO, zr_pV, zq_pA0, zq_pA, zr_get, zr_put_n, zr_put, zr_rem_n, zr_rem, zr_cat_i, zr_cat_l, zr_cat_q, zr_w_n, zr_w, zr_args_n, zr_args, zr_tl_s, zr_tl_n, zq_hIsI, zq_hLsL, zq_hRsR, zq_hIsL, zq_hIsR, zq_hLsI, zq_hLsR, zq_hRsI, zq_hRsL, zq_hNsI, zq_hNsL, zq_hNsR, zq_hZsI, zq_hZsL, zq_hZsR, b2_01, Classical.not_not, Int32.toInt_toInt64, Int64.reduceToInt, zc_1000, zc_100, zc_10, zc_9, zc_2, ci_f, wg_rc, wg_rw, wg_rl, wg_rm, wg_R, wg_Z, wg_I (show (10 : Nat) ≠ 12 by decide), wg_I (show (4 : Nat) ≠ 12 by decide), wg_L (show (100 : Nat) ≠ 12 by decide), wg_l, wg_m, wg_c, wg_w, js.1, js.2.2.2.1, aLen_100, aCod_100, ki, jc]
          refine ⟨fun qc25 => ?_, fun qc25 => ?_⟩
          · try simp only [b2_0, Classical.not_not] at qc25
            try simp only [Int64.le_iff_toInt_le, Int64.lt_iff_toInt_lt, Int32.lt_iff_toInt_lt, Int32.le_iff_toInt_le, Int32.toInt_toInt64, Int64.reduceToInt, Int32.reduceToInt, Int.reduceNeg, Classical.not_not, i32e, l_add] at qc25
            refine st b_X10_weigh_81 _ _ k_X10_weigh_81 _ _ _ _ _ ?_
            simp only [b_X10_weigh_81, zr_aload_n0, zr_call1, zr_get1, zr_lload, zr_nil, zr_cons, ↓reduceIte, Nat.reduceAdd, Nat.reduceEqDiff, Nat.reduceLeDiff, Nat.reduceMul, Nat.reduceSub, Int32.reduceOfInt, Int64.reduceOfInt, Int64.reduceOfNat, true_and, and_true, false_and, and_false, or_false, false_or, true_or, or_true, Int.reduceEq, reduceCtorEq, or_self, and_self, ne_eq, not_false_eq_true, not_true_eq_false, eq_self, Nat.le_refl, Nat.zero_le, zr_eI, zr_eL, zr_eR, zr_pI, zr_pL, zr_pR, zr_pO, zr_pV, zq_pA0, zq_pA, zr_get, zr_put_n, zr_put, zr_rem_n, zr_rem, zr_cat_i, zr_cat_l, zr_cat_q, zr_w_n, zr_w, zr_args_n, zr_args, zr_tl_s, zr_tl_n, zq_hIsI, zq_hLsL, zq_hRsR, zq_hIsL, zq_hIsR, zq_hLsI, zq_hLsR, zq_hRsI, zq_hRsL, zq_hNsI, zq_hNsL, zq_hNsR, zq_hZsI, zq_hZsL, zq_hZsR, b2_01, Classical.not_not, Int32.toInt_toInt64, Int64.reduceToInt, zc_1000, zc_100, zc_10, zc_9, zc_2, ci_f, wg_rc, wg_rw, wg_rl, wg_rm, wg_R, wg_Z, wg_I (show (10 : Nat) ≠ 12 by decide), wg_I (show (4 : Nat) ≠ 12 by decide), wg_L (show (100 : Nat) ≠ 12 by decide), wg_l, wg_m, wg_c, wg_w, js.1, js.2.2.2.1, aLen_100, aCod_100, ki, jc]
            refine cp_lmax (by omega) lk_X10_46.2 (Nat.le_refl _) (Nat.le_refl _) ?_
            simp only [zr_nil, zr_cons, ↓reduceIte, Nat.reduceAdd, Nat.reduceEqDiff, Nat.reduceLeDiff, Nat.reduceMul, Nat.reduceSub, Int32.reduceOfInt, Int64.reduceOfInt, Int64.reduceOfNat, true_and, and_true, false_and, and_false, or_false, false_or, true_or, or_true, Int.reduceEq, reduceCtorEq, or_self, and_self, ne_eq, not_false_eq_true, not_true_eq_false, eq_self, Nat.le_refl, Nat.zero_le, zr_eI, zr_eL, zr_eR, zr_pI, zr_pL, zr_pR, zr_pO, zr_pV, zq_pA0, zq_pA, zr_get, zr_put_n, zr_put, zr_rem_n, zr_rem, zr_cat_i, zr_cat_l, zr_cat_q, zr_w_n, zr_w, zr_args_n, zr_args, zr_tl_s, zr_tl_n, zq_hIsI, zq_hLsL, zq_hRsR, zq_hIsL, zq_hIsR, zq_hLsI, zq_hLsR, zq_hRsI, zq_hRsL, zq_hNsI, zq_hNsL, zq_hNsR, zq_hZsI, zq_hZsL, zq_hZsR, b2_01, Classical.not_not, Int32.toInt_toInt64, Int64.reduceToInt, zc_1000, zc_100, zc_10, zc_9, zc_2, ci_f, wg_rc, wg_rw, wg_rl, wg_rm, wg_R, wg_Z, wg_I (show (10 : Nat) ≠ 12 by decide), wg_I (show (4 : Nat) ≠ 12 by decide), wg_L (show (100 : Nat) ≠ 12 by decide), wg_l, wg_m, wg_c, wg_w, js.1, js.2.2.2.1, aLen_100, aCod_100, ki, jc]
            refine st b_X10_weigh_90 _ _ k_X10_weigh_90 _ _ _ _ _ ?_
            simp only [b_X10_weigh_90, zr_aload_n0, zr_dup, zr_get0, zr_iadd, zr_iconst, zr_l2i, zr_lload, zr_put0, zr_put1, zr_nil, zr_cons, ↓reduceIte, Nat.reduceAdd, Nat.reduceEqDiff, Nat.reduceLeDiff, Nat.reduceMul, Nat.reduceSub, Int32.reduceOfInt, Int64.reduceOfInt, Int64.reduceOfNat, true_and, and_true, false_and, and_false, or_false, false_or, true_or, or_true, Int.reduceEq, reduceCtorEq, or_self, and_self, ne_eq, not_false_eq_true, not_true_eq_false, eq_self, Nat.le_refl, Nat.zero_le, zr_eI, zr_eL, zr_eR, zr_pI, zr_pL, zr_pR, zr_pO, zr_pV, zq_pA0, zq_pA, zr_get, zr_put_n, zr_put, zr_rem_n, zr_rem, zr_cat_i, zr_cat_l, zr_cat_q, zr_w_n, zr_w, zr_args_n, zr_args, zr_tl_s, zr_tl_n, zq_hIsI, zq_hLsL, zq_hRsR, zq_hIsL, zq_hIsR, zq_hLsI, zq_hLsR, zq_hRsI, zq_hRsL, zq_hNsI, zq_hNsL, zq_hNsR, zq_hZsI, zq_hZsL, zq_hZsR, b2_01, Classical.not_not, Int32.toInt_toInt64, Int64.reduceToInt, zc_1000, zc_100, zc_10, zc_9, zc_2, ci_f, wg_rc, wg_rw, wg_rl, wg_rm, wg_R, wg_Z, wg_I (show (10 : Nat) ≠ 12 by decide), wg_I (show (4 : Nat) ≠ 12 by decide), wg_L (show (100 : Nat) ≠ 12 by decide), wg_l, wg_m, wg_c, wg_w, js.1, js.2.2.2.1, aLen_100, aCod_100, ki, jc]
            refine st b_X10_weigh_115 _ _ k_X10_weigh_115 _ _ _ _ _ ?_
            simp only [b_X10_weigh_115, zr_goto, zr_iinc, zr_nil, zr_cons, ↓reduceIte, Nat.reduceAdd, Nat.reduceEqDiff, Nat.reduceLeDiff, Nat.reduceMul, Nat.reduceSub, Int32.reduceOfInt, Int64.reduceOfInt, Int64.reduceOfNat, true_and, and_true, false_and, and_false, or_false, false_or, true_or, or_true, Int.reduceEq, reduceCtorEq, or_self, and_self, ne_eq, not_false_eq_true, not_true_eq_false, eq_self, Nat.le_refl, Nat.zero_le, zr_eI, zr_eL, zr_eR, zr_pI, zr_pL, zr_pR, zr_pO, zr_pV, zq_pA0, zq_pA, zr_get, zr_put_n, zr_put, zr_rem_n, zr_rem, zr_cat_i, zr_cat_l, zr_cat_q, zr_w_n, zr_w, zr_args_n, zr_args, zr_tl_s, zr_tl_n, zq_hIsI, zq_hLsL, zq_hRsR, zq_hIsL, zq_hIsR, zq_hLsI, zq_hLsR, zq_hRsI, zq_hRsL, zq_hNsI, zq_hNsL, zq_hNsR, zq_hZsI, zq_hZsL, zq_hZsR, b2_01, Classical.not_not, Int32.toInt_toInt64, Int64.reduceToInt, zc_1000, zc_100, zc_10, zc_9, zc_2, ci_f, wg_rc, wg_rw, wg_rl, wg_rm, wg_R, wg_Z, wg_I (show (10 : Nat) ≠ 12 by decide), wg_I (show (4 : Nat) ≠ 12 by decide), wg_L (show (100 : Nat) ≠ 12 by decide), wg_l, wg_m, wg_c, wg_w, js.1, js.2.2.2.1, aLen_100, aCod_100, ki, jc]
            first
              | (exfalso; omega)
              | (have hq : ¬ o_tk (mA S 23 k) (mA S 22 k) (mB S 3 (60 * s + i)) := by assumption
                 have e1 : o_tn (mA S 23 k) (mA S 22 k) (mB S 3) (60 * s) (i + 1) = o_tn (mA S 23 k) (mA S 22 k) (mB S 3) (60 * s) i := by show (if _ then _ else _) = _; rw [if_neg hq]
                 have e2 : o_tw (mA S 23 k) (mA S 22 k) (mB S 3) (60 * s) (i + 1) = o_tw (mA S 23 k) (mA S 22 k) (mB S 3) (60 * s) i := by show (if _ then _ else _) = _; rw [if_neg hq]
                 have e3 : o_mi (mA S 23 k) (mA S 22 k) (mB S 3) (60 * s) (i + 1) = o_mi (mA S 23 k) (mA S 22 k) (mB S 3) (60 * s) i := by show (if _ then _ else _) = _; rw [if_neg hq]
                 have e4 : o_ma (mA S 23 k) (mA S 22 k) (mB S 3) (60 * s) (i + 1) = o_ma (mA S 23 k) (mA S 22 k) (mB S 3) (60 * s) i := by show (if _ then _ else _) = _; rw [if_neg hq]
                 have ih' := ih (by omega)
                 rw [e1, e2, e3, e4] at ih'
                 rw [nI_1]
                 exact wk _ _ _ _ _ _ _ (ih' _ _ hlm))
              | (have hq : o_tk (mA S 23 k) (mA S 22 k) (mB S 3 (60 * s + i)) := by assumption
                 have e1 : o_tn (mA S 23 k) (mA S 22 k) (mB S 3) (60 * s) (i + 1) = o_tn (mA S 23 k) (mA S 22 k) (mB S 3) (60 * s) i + 1 := by show (if _ then _ else _) = _; rw [if_pos hq]
                 have e2 : o_tw (mA S 23 k) (mA S 22 k) (mB S 3) (60 * s) (i + 1) = o_tw (mA S 23 k) (mA S 22 k) (mB S 3) (60 * s) i + mB S 3 (60 * s + i) := by show (if _ then _ else _) = _; rw [if_pos hq]
                 have e3 : o_mi (mA S 23 k) (mA S 22 k) (mB S 3) (60 * s) (i + 1) = (if mB S 3 (60 * s + i) < o_mi (mA S 23 k) (mA S 22 k) (mB S 3) (60 * s) i then mB S 3 (60 * s + i) else o_mi (mA S 23 k) (mA S 22 k) (mB S 3) (60 * s) i) := by show (if _ then _ else _) = _; rw [if_pos hq]
                 have e4 : o_ma (mA S 23 k) (mA S 22 k) (mB S 3) (60 * s) (i + 1) = (if mB S 3 (60 * s + i) < o_ma (mA S 23 k) (mA S 22 k) (mB S 3) (60 * s) i then o_ma (mA S 23 k) (mA S 22 k) (mB S 3) (60 * s) i else mB S 3 (60 * s + i)) := by show (if _ then _ else _) = _; rw [if_pos hq]
                 have ih' := ih (by omega)
                 rw [e1, e2, e3, e4] at ih'
                 simp only [nI_1, ← Int64.toInt32_add]
                 refine wk _ _ _ _ _ _ _ (ih' _ _ (fun _ => ?_))
                 have z0 := tn_0 (lo := mA S 23 k) (hi := mA S 22 k) (c := mB S 3) (b := 60 * s) (n := i) (by omega)
                 rw [z0.1, z0.2, mi_1, ma_1x (by omega)]
                 exact ⟨rfl, rfl⟩)
              | (have hq : o_tk (mA S 23 k) (mA S 22 k) (mB S 3 (60 * s + i)) := by assumption
                 have e1 : o_tn (mA S 23 k) (mA S 22 k) (mB S 3) (60 * s) (i + 1) = o_tn (mA S 23 k) (mA S 22 k) (mB S 3) (60 * s) i + 1 := by show (if _ then _ else _) = _; rw [if_pos hq]
                 have e2 : o_tw (mA S 23 k) (mA S 22 k) (mB S 3) (60 * s) (i + 1) = o_tw (mA S 23 k) (mA S 22 k) (mB S 3) (60 * s) i + mB S 3 (60 * s + i) := by show (if _ then _ else _) = _; rw [if_pos hq]
                 have e3 : o_mi (mA S 23 k) (mA S 22 k) (mB S 3) (60 * s) (i + 1) = (if mB S 3 (60 * s + i) < o_mi (mA S 23 k) (mA S 22 k) (mB S 3) (60 * s) i then mB S 3 (60 * s + i) else o_mi (mA S 23 k) (mA S 22 k) (mB S 3) (60 * s) i) := by show (if _ then _ else _) = _; rw [if_pos hq]
                 have e4 : o_ma (mA S 23 k) (mA S 22 k) (mB S 3) (60 * s) (i + 1) = (if mB S 3 (60 * s + i) < o_ma (mA S 23 k) (mA S 22 k) (mB S 3) (60 * s) i then o_ma (mA S 23 k) (mA S 22 k) (mB S 3) (60 * s) i else mB S 3 (60 * s + i)) := by show (if _ then _ else _) = _; rw [if_pos hq]
                 have ih' := ih (by omega)
                 rw [e1, e2, e3, e4] at ih'
                 simp only [nI_1, ← Int64.toInt32_add]
                 refine wk _ _ _ _ _ _ _ (ih' _ _ (fun _ => ?_))
                 have z1 := hlm (by omega)
                 rw [z1.1, z1.2]
                 exact ⟨rfl, rfl⟩)
          · try simp only [b2_0, Classical.not_not] at qc25
            try simp only [Int64.le_iff_toInt_le, Int64.lt_iff_toInt_lt, Int32.lt_iff_toInt_lt, Int32.le_iff_toInt_le, Int32.toInt_toInt64, Int64.reduceToInt, Int32.reduceToInt, Int.reduceNeg, Classical.not_not, i32e, l_add] at qc25
            refine st b_X10_weigh_90 _ _ k_X10_weigh_90 _ _ _ _ _ ?_
            simp only [b_X10_weigh_90, zr_aload_n0, zr_dup, zr_get0, zr_iadd, zr_iconst, zr_l2i, zr_lload, zr_put0, zr_put1, zr_nil, zr_cons, ↓reduceIte, Nat.reduceAdd, Nat.reduceEqDiff, Nat.reduceLeDiff, Nat.reduceMul, Nat.reduceSub, Int32.reduceOfInt, Int64.reduceOfInt, Int64.reduceOfNat, true_and, and_true, false_and, and_false, or_false, false_or, true_or, or_true, Int.reduceEq, reduceCtorEq, or_self, and_self, ne_eq, not_false_eq_true, not_true_eq_false, eq_self, Nat.le_refl, Nat.zero_le, zr_eI, zr_eL, zr_eR, zr_pI, zr_pL, zr_pR, zr_pO, zr_pV, zq_pA0, zq_pA, zr_get, zr_put_n, zr_put, zr_rem_n, zr_rem, zr_cat_i, zr_cat_l, zr_cat_q, zr_w_n, zr_w, zr_args_n, zr_args, zr_tl_s, zr_tl_n, zq_hIsI, zq_hLsL, zq_hRsR, zq_hIsL, zq_hIsR, zq_hLsI, zq_hLsR, zq_hRsI, zq_hRsL, zq_hNsI, zq_hNsL, zq_hNsR, zq_hZsI, zq_hZsL, zq_hZsR, b2_01, Classical.not_not, Int32.toInt_toInt64, Int64.reduceToInt, zc_1000, zc_100, zc_10, zc_9, zc_2, ci_f, wg_rc, wg_rw, wg_rl, wg_rm, wg_R, wg_Z, wg_I (show (10 : Nat) ≠ 12 by decide), wg_I (show (4 : Nat) ≠ 12 by decide), wg_L (show (100 : Nat) ≠ 12 by decide), wg_l, wg_m, wg_c, wg_w, js.1, js.2.2.2.1, aLen_100, aCod_100, ki, jc]
            refine st b_X10_weigh_115 _ _ k_X10_weigh_115 _ _ _ _ _ ?_
            simp only [b_X10_weigh_115, zr_goto, zr_iinc, zr_nil, zr_cons, ↓reduceIte, Nat.reduceAdd, Nat.reduceEqDiff, Nat.reduceLeDiff, Nat.reduceMul, Nat.reduceSub, Int32.reduceOfInt, Int64.reduceOfInt, Int64.reduceOfNat, true_and, and_true, false_and, and_false, or_false, false_or, true_or, or_true, Int.reduceEq, reduceCtorEq, or_self, and_self, ne_eq, not_false_eq_true, not_true_eq_false, eq_self, Nat.le_refl, Nat.zero_le, zr_eI, zr_eL, zr_eR, zr_pI, zr_pL, zr_pR, zr_pO, zr_pV, zq_pA0, zq_pA, zr_get, zr_put_n, zr_put, zr_rem_n, zr_rem, zr_cat_i, zr_cat_l, zr_cat_q, zr_w_n, zr_w, zr_args_n, zr_args, zr_tl_s, zr_tl_n, zq_hIsI, zq_hLsL, zq_hRsR, zq_hIsL, zq_hIsR, zq_hLsI, zq_hLsR, zq_hRsI, zq_hRsL, zq_hNsI, zq_hNsL, zq_hNsR, zq_hZsI, zq_hZsL, zq_hZsR, b2_01, Classical.not_not, Int32.toInt_toInt64, Int64.reduceToInt, zc_1000, zc_100, zc_10, zc_9, zc_2, ci_f, wg_rc, wg_rw, wg_rl, wg_rm, wg_R, wg_Z, wg_I (show (10 : Nat) ≠ 12 by decide), wg_I (show (4 : Nat) ≠ 12 by decide), wg_L (show (100 : Nat) ≠ 12 by decide), wg_l, wg_m, wg_c, wg_w, js.1, js.2.2.2.1, aLen_100, aCod_100, ki, jc]
            first
              | (exfalso; omega)
              | (have hq : ¬ o_tk (mA S 23 k) (mA S 22 k) (mB S 3 (60 * s + i)) := by assumption
                 have e1 : o_tn (mA S 23 k) (mA S 22 k) (mB S 3) (60 * s) (i + 1) = o_tn (mA S 23 k) (mA S 22 k) (mB S 3) (60 * s) i := by show (if _ then _ else _) = _; rw [if_neg hq]
                 have e2 : o_tw (mA S 23 k) (mA S 22 k) (mB S 3) (60 * s) (i + 1) = o_tw (mA S 23 k) (mA S 22 k) (mB S 3) (60 * s) i := by show (if _ then _ else _) = _; rw [if_neg hq]
                 have e3 : o_mi (mA S 23 k) (mA S 22 k) (mB S 3) (60 * s) (i + 1) = o_mi (mA S 23 k) (mA S 22 k) (mB S 3) (60 * s) i := by show (if _ then _ else _) = _; rw [if_neg hq]
                 have e4 : o_ma (mA S 23 k) (mA S 22 k) (mB S 3) (60 * s) (i + 1) = o_ma (mA S 23 k) (mA S 22 k) (mB S 3) (60 * s) i := by show (if _ then _ else _) = _; rw [if_neg hq]
                 have ih' := ih (by omega)
                 rw [e1, e2, e3, e4] at ih'
                 rw [nI_1]
                 exact wk _ _ _ _ _ _ _ (ih' _ _ hlm))
              | (have hq : o_tk (mA S 23 k) (mA S 22 k) (mB S 3 (60 * s + i)) := by assumption
                 have e1 : o_tn (mA S 23 k) (mA S 22 k) (mB S 3) (60 * s) (i + 1) = o_tn (mA S 23 k) (mA S 22 k) (mB S 3) (60 * s) i + 1 := by show (if _ then _ else _) = _; rw [if_pos hq]
                 have e2 : o_tw (mA S 23 k) (mA S 22 k) (mB S 3) (60 * s) (i + 1) = o_tw (mA S 23 k) (mA S 22 k) (mB S 3) (60 * s) i + mB S 3 (60 * s + i) := by show (if _ then _ else _) = _; rw [if_pos hq]
                 have e3 : o_mi (mA S 23 k) (mA S 22 k) (mB S 3) (60 * s) (i + 1) = (if mB S 3 (60 * s + i) < o_mi (mA S 23 k) (mA S 22 k) (mB S 3) (60 * s) i then mB S 3 (60 * s + i) else o_mi (mA S 23 k) (mA S 22 k) (mB S 3) (60 * s) i) := by show (if _ then _ else _) = _; rw [if_pos hq]
                 have e4 : o_ma (mA S 23 k) (mA S 22 k) (mB S 3) (60 * s) (i + 1) = (if mB S 3 (60 * s + i) < o_ma (mA S 23 k) (mA S 22 k) (mB S 3) (60 * s) i then o_ma (mA S 23 k) (mA S 22 k) (mB S 3) (60 * s) i else mB S 3 (60 * s + i)) := by show (if _ then _ else _) = _; rw [if_pos hq]
                 have ih' := ih (by omega)
                 rw [e1, e2, e3, e4] at ih'
                 simp only [nI_1, ← Int64.toInt32_add]
                 refine wk _ _ _ _ _ _ _ (ih' _ _ (fun _ => ?_))
                 have z0 := tn_0 (lo := mA S 23 k) (hi := mA S 22 k) (c := mB S 3) (b := 60 * s) (n := i) (by omega)
                 rw [z0.1, z0.2, mi_1, ma_1x (by omega)]
                 exact ⟨rfl, rfl⟩)
              | (have hq : o_tk (mA S 23 k) (mA S 22 k) (mB S 3 (60 * s + i)) := by assumption
                 have e1 : o_tn (mA S 23 k) (mA S 22 k) (mB S 3) (60 * s) (i + 1) = o_tn (mA S 23 k) (mA S 22 k) (mB S 3) (60 * s) i + 1 := by show (if _ then _ else _) = _; rw [if_pos hq]
                 have e2 : o_tw (mA S 23 k) (mA S 22 k) (mB S 3) (60 * s) (i + 1) = o_tw (mA S 23 k) (mA S 22 k) (mB S 3) (60 * s) i + mB S 3 (60 * s + i) := by show (if _ then _ else _) = _; rw [if_pos hq]
                 have e3 : o_mi (mA S 23 k) (mA S 22 k) (mB S 3) (60 * s) (i + 1) = (if mB S 3 (60 * s + i) < o_mi (mA S 23 k) (mA S 22 k) (mB S 3) (60 * s) i then mB S 3 (60 * s + i) else o_mi (mA S 23 k) (mA S 22 k) (mB S 3) (60 * s) i) := by show (if _ then _ else _) = _; rw [if_pos hq]
                 have e4 : o_ma (mA S 23 k) (mA S 22 k) (mB S 3) (60 * s) (i + 1) = (if mB S 3 (60 * s + i) < o_ma (mA S 23 k) (mA S 22 k) (mB S 3) (60 * s) i then o_ma (mA S 23 k) (mA S 22 k) (mB S 3) (60 * s) i else mB S 3 (60 * s + i)) := by show (if _ then _ else _) = _; rw [if_pos hq]
                 have ih' := ih (by omega)
                 rw [e1, e2, e3, e4] at ih'
                 simp only [nI_1, ← Int64.toInt32_add]
                 refine wk _ _ _ _ _ _ _ (ih' _ _ (fun _ => ?_))
                 have z1 := hlm (by omega)
                 rw [z1.1, z1.2]
                 exact ⟨rfl, rfl⟩)
        · try simp only [b2_0, Classical.not_not] at qc24
          try simp only [Int64.le_iff_toInt_le, Int64.lt_iff_toInt_lt, Int32.lt_iff_toInt_lt, Int32.le_iff_toInt_le, Int32.toInt_toInt64, Int64.reduceToInt, Int32.reduceToInt, Int.reduceNeg, Classical.not_not, i32e, l_add] at qc24
          refine st b_X10_weigh_65 _ _ k_X10_weigh_65 _ _ _ _ _ ?_
          simp only [b_X10_weigh_65, zr_aload_n0, zr_cP_ne, zr_get0, zr_goto, zr_ifc, zr_lload, zr_put1, zr_nil, zr_cons, ↓reduceIte, Nat.reduceAdd, Nat.reduceEqDiff, Nat.reduceLeDiff, Nat.reduceMul, Nat.reduceSub, Int32.reduceOfInt, Int64.reduceOfInt, Int64.reduceOfNat, true_and, and_true, false_and, and_false, or_false, false_or, true_or, or_true, Int.reduceEq, reduceCtorEq, or_self, and_self, ne_eq, not_false_eq_true, not_true_eq_false, eq_self, Nat.le_refl, Nat.zero_le, zr_eI, zr_eL, zr_eR, zr_pI, zr_pL, zr_pR, zr_pO, zr_pV, zq_pA0, zq_pA, zr_get, zr_put_n, zr_put, zr_rem_n, zr_rem, zr_cat_i, zr_cat_l, zr_cat_q, zr_w_n, zr_w, zr_args_n, zr_args, zr_tl_s, zr_tl_n, zq_hIsI, zq_hLsL, zq_hRsR, zq_hIsL, zq_hIsR, zq_hLsI, zq_hLsR, zq_hRsI, zq_hRsL, zq_hNsI, zq_hNsL, zq_hNsR, zq_hZsI, zq_hZsL, zq_hZsR, b2_01, Classical.not_not, Int32.toInt_toInt64, Int64.reduceToInt, zc_1000, zc_100, zc_10, zc_9, zc_2, ci_f, wg_rc, wg_rw, wg_rl, wg_rm, wg_R, wg_Z, wg_I (show (10 : Nat) ≠ 12 by decide), wg_I (show (4 : Nat) ≠ 12 by decide), wg_L (show (100 : Nat) ≠ 12 by decide), wg_l, wg_m, wg_c, wg_w, js.1, js.2.2.2.1, aLen_100, aCod_100, ki, jc]
          refine ⟨fun qc26 => ?_, fun qc26 => ?_⟩
          · try simp only [b2_0, Classical.not_not] at qc26
            try simp only [Int64.le_iff_toInt_le, Int64.lt_iff_toInt_lt, Int32.lt_iff_toInt_lt, Int32.le_iff_toInt_le, Int32.toInt_toInt64, Int64.reduceToInt, Int32.reduceToInt, Int.reduceNeg, Classical.not_not, i32e, l_add] at qc26
            refine st b_X10_weigh_81 _ _ k_X10_weigh_81 _ _ _ _ _ ?_
            simp only [b_X10_weigh_81, zr_aload_n0, zr_call1, zr_get1, zr_lload, zr_nil, zr_cons, ↓reduceIte, Nat.reduceAdd, Nat.reduceEqDiff, Nat.reduceLeDiff, Nat.reduceMul, Nat.reduceSub, Int32.reduceOfInt, Int64.reduceOfInt, Int64.reduceOfNat, true_and, and_true, false_and, and_false, or_false, false_or, true_or, or_true, Int.reduceEq, reduceCtorEq, or_self, and_self, ne_eq, not_false_eq_true, not_true_eq_false, eq_self, Nat.le_refl, Nat.zero_le, zr_eI, zr_eL, zr_eR, zr_pI, zr_pL, zr_pR, zr_pO, zr_pV, zq_pA0, zq_pA, zr_get, zr_put_n, zr_put, zr_rem_n, zr_rem, zr_cat_i, zr_cat_l, zr_cat_q, zr_w_n, zr_w, zr_args_n, zr_args, zr_tl_s, zr_tl_n, zq_hIsI, zq_hLsL, zq_hRsR, zq_hIsL, zq_hIsR, zq_hLsI, zq_hLsR, zq_hRsI, zq_hRsL, zq_hNsI, zq_hNsL, zq_hNsR, zq_hZsI, zq_hZsL, zq_hZsR, b2_01, Classical.not_not, Int32.toInt_toInt64, Int64.reduceToInt, zc_1000, zc_100, zc_10, zc_9, zc_2, ci_f, wg_rc, wg_rw, wg_rl, wg_rm, wg_R, wg_Z, wg_I (show (10 : Nat) ≠ 12 by decide), wg_I (show (4 : Nat) ≠ 12 by decide), wg_L (show (100 : Nat) ≠ 12 by decide), wg_l, wg_m, wg_c, wg_w, js.1, js.2.2.2.1, aLen_100, aCod_100, ki, jc]
            refine cp_lmax (by omega) lk_X10_46.2 (Nat.le_refl _) (Nat.le_refl _) ?_
            simp only [zr_nil, zr_cons, ↓reduceIte, Nat.reduceAdd, Nat.reduceEqDiff, Nat.reduceLeDiff, Nat.reduceMul, Nat.reduceSub, Int32.reduceOfInt, Int64.reduceOfInt, Int64.reduceOfNat, true_and, and_true, false_and, and_false, or_false, false_or, true_or, or_true, Int.reduceEq, reduceCtorEq, or_self, and_self, ne_eq, not_false_eq_true, not_true_eq_false, eq_self, Nat.le_refl, Nat.zero_le, zr_eI, zr_eL, zr_eR, zr_pI, zr_pL, zr_pR, zr_pO, zr_pV, zq_pA0, zq_pA, zr_get, zr_put_n, zr_put, zr_rem_n, zr_rem, zr_cat_i, zr_cat_l, zr_cat_q, zr_w_n, zr_w, zr_args_n, zr_args, zr_tl_s, zr_tl_n, zq_hIsI, zq_hLsL, zq_hRsR, zq_hIsL, zq_hIsR, zq_hLsI, zq_hLsR, zq_hRsI, zq_hRsL, zq_hNsI, zq_hNsL, zq_hNsR, zq_hZsI, zq_hZsL, zq_hZsR, b2_01, Classical.not_not, Int32.toInt_toInt64, Int64.reduceToInt, zc_1000, zc_100, zc_10, zc_9, zc_2, ci_f, wg_rc, wg_rw, wg_rl, wg_rm, wg_R, wg_Z, wg_I (show (10 : Nat) ≠ 12 by decide), wg_I (show (4 : Nat) ≠ 12 by decide), wg_L (show (100 : Nat) ≠ 12 by decide), wg_l, wg_m, wg_c, wg_w, js.1, js.2.2.2.1, aLen_100, aCod_100, ki, jc]
            refine st b_X10_weigh_90 _ _ k_X10_weigh_90 _ _ _ _ _ ?_
            simp only [b_X10_weigh_90, zr_aload_n0, zr_dup, zr_get0, zr_iadd, zr_iconst, zr_l2i, zr_lload, zr_put0, zr_put1, zr_nil, zr_cons, ↓reduceIte, Nat.reduceAdd, Nat.reduceEqDiff, Nat.reduceLeDiff, Nat.reduceMul, Nat.reduceSub, Int32.reduceOfInt, Int64.reduceOfInt, Int64.reduceOfNat, true_and, and_true, false_and, and_false, or_false, false_or, true_or, or_true, Int.reduceEq, reduceCtorEq, or_self, and_self, ne_eq, not_false_eq_true, not_true_eq_false, eq_self, Nat.le_refl, Nat.zero_le, zr_eI, zr_eL, zr_eR, zr_pI, zr_pL, zr_pR, zr_pO, zr_pV, zq_pA0, zq_pA, zr_get, zr_put_n, zr_put, zr_rem_n, zr_rem, zr_cat_i, zr_cat_l, zr_cat_q, zr_w_n, zr_w, zr_args_n, zr_args, zr_tl_s, zr_tl_n, zq_hIsI, zq_hLsL, zq_hRsR, zq_hIsL, zq_hIsR, zq_hLsI, zq_hLsR, zq_hRsI, zq_hRsL, zq_hNsI, zq_hNsL, zq_hNsR, zq_hZsI, zq_hZsL, zq_hZsR, b2_01, Classical.not_not, Int32.toInt_toInt64, Int64.reduceToInt, zc_1000, zc_100, zc_10, zc_9, zc_2, ci_f, wg_rc, wg_rw, wg_rl, wg_rm, wg_R, wg_Z, wg_I (show (10 : Nat) ≠ 12 by decide), wg_I (show (4 : Nat) ≠ 12 by decide), wg_L (show (100 : Nat) ≠ 12 by decide), wg_l, wg_m, wg_c, wg_w, js.1, js.2.2.2.1, aLen_100, aCod_100, ki, jc]
            refine st b_X10_weigh_115 _ _ k_X10_weigh_115 _ _ _ _ _ ?_
            simp only [b_X10_weigh_115, zr_goto, zr_iinc, zr_nil, zr_cons, ↓reduceIte, Nat.reduceAdd, Nat.reduceEqDiff, Nat.reduceLeDiff, Nat.reduceMul, Nat.reduceSub, Int32.reduceOfInt, Int64.reduceOfInt, Int64.reduceOfNat, true_and, and_true, false_and, and_false, or_false, false_or, true_or, or_true, Int.reduceEq, reduceCtorEq, or_self, and_self, ne_eq, not_false_eq_true, not_true_eq_false, eq_self, Nat.le_refl, Nat.zero_le, zr_eI, zr_eL, zr_eR, zr_pI, zr_pL, zr_pR, zr_pO, zr_pV, zq_pA0, zq_pA, zr_get, zr_put_n, zr_put, zr_rem_n, zr_rem, zr_cat_i, zr_cat_l, zr_cat_q, zr_w_n, zr_w, zr_args_n, zr_args, zr_tl_s, zr_tl_n, zq_hIsI, zq_hLsL, zq_hRsR, zq_hIsL, zq_hIsR, zq_hLsI, zq_hLsR, zq_hRsI, zq_hRsL, zq_hNsI, zq_hNsL, zq_hNsR, zq_hZsI, zq_hZsL, zq_hZsR, b2_01, Classical.not_not, Int32.toInt_toInt64, Int64.reduceToInt, zc_1000, zc_100, zc_10, zc_9, zc_2, ci_f, wg_rc, wg_rw, wg_rl, wg_rm, wg_R, wg_Z, wg_I (show (10 : Nat) ≠ 12 by decide), wg_I (show (4 : Nat) ≠ 12 by decide), wg_L (show (100 : Nat) ≠ 12 by decide), wg_l, wg_m, wg_c, wg_w, js.1, js.2.2.2.1, aLen_100, aCod_100, ki, jc]
            first
              | (exfalso; omega)
              | (have hq : ¬ o_tk (mA S 23 k) (mA S 22 k) (mB S 3 (60 * s + i)) := by assumption
                 have e1 : o_tn (mA S 23 k) (mA S 22 k) (mB S 3) (60 * s) (i + 1) = o_tn (mA S 23 k) (mA S 22 k) (mB S 3) (60 * s) i := by show (if _ then _ else _) = _; rw [if_neg hq]
                 have e2 : o_tw (mA S 23 k) (mA S 22 k) (mB S 3) (60 * s) (i + 1) = o_tw (mA S 23 k) (mA S 22 k) (mB S 3) (60 * s) i := by show (if _ then _ else _) = _; rw [if_neg hq]
                 have e3 : o_mi (mA S 23 k) (mA S 22 k) (mB S 3) (60 * s) (i + 1) = o_mi (mA S 23 k) (mA S 22 k) (mB S 3) (60 * s) i := by show (if _ then _ else _) = _; rw [if_neg hq]
                 have e4 : o_ma (mA S 23 k) (mA S 22 k) (mB S 3) (60 * s) (i + 1) = o_ma (mA S 23 k) (mA S 22 k) (mB S 3) (60 * s) i := by show (if _ then _ else _) = _; rw [if_neg hq]
                 have ih' := ih (by omega)
                 rw [e1, e2, e3, e4] at ih'
                 rw [nI_1]
                 exact wk _ _ _ _ _ _ _ (ih' _ _ hlm))
              | (have hq : o_tk (mA S 23 k) (mA S 22 k) (mB S 3 (60 * s + i)) := by assumption
                 have e1 : o_tn (mA S 23 k) (mA S 22 k) (mB S 3) (60 * s) (i + 1) = o_tn (mA S 23 k) (mA S 22 k) (mB S 3) (60 * s) i + 1 := by show (if _ then _ else _) = _; rw [if_pos hq]
                 have e2 : o_tw (mA S 23 k) (mA S 22 k) (mB S 3) (60 * s) (i + 1) = o_tw (mA S 23 k) (mA S 22 k) (mB S 3) (60 * s) i + mB S 3 (60 * s + i) := by show (if _ then _ else _) = _; rw [if_pos hq]
                 have e3 : o_mi (mA S 23 k) (mA S 22 k) (mB S 3) (60 * s) (i + 1) = (if mB S 3 (60 * s + i) < o_mi (mA S 23 k) (mA S 22 k) (mB S 3) (60 * s) i then mB S 3 (60 * s + i) else o_mi (mA S 23 k) (mA S 22 k) (mB S 3) (60 * s) i) := by show (if _ then _ else _) = _; rw [if_pos hq]
                 have e4 : o_ma (mA S 23 k) (mA S 22 k) (mB S 3) (60 * s) (i + 1) = (if mB S 3 (60 * s + i) < o_ma (mA S 23 k) (mA S 22 k) (mB S 3) (60 * s) i then o_ma (mA S 23 k) (mA S 22 k) (mB S 3) (60 * s) i else mB S 3 (60 * s + i)) := by show (if _ then _ else _) = _; rw [if_pos hq]
                 have ih' := ih (by omega)
                 rw [e1, e2, e3, e4] at ih'
                 simp only [nI_1, ← Int64.toInt32_add]
                 refine wk _ _ _ _ _ _ _ (ih' _ _ (fun _ => ?_))
                 have z0 := tn_0 (lo := mA S 23 k) (hi := mA S 22 k) (c := mB S 3) (b := 60 * s) (n := i) (by omega)
                 rw [z0.1, z0.2, mi_1, ma_1x (by omega)]
                 exact ⟨rfl, rfl⟩)
              | (have hq : o_tk (mA S 23 k) (mA S 22 k) (mB S 3 (60 * s + i)) := by assumption
                 have e1 : o_tn (mA S 23 k) (mA S 22 k) (mB S 3) (60 * s) (i + 1) = o_tn (mA S 23 k) (mA S 22 k) (mB S 3) (60 * s) i + 1 := by show (if _ then _ else _) = _; rw [if_pos hq]
                 have e2 : o_tw (mA S 23 k) (mA S 22 k) (mB S 3) (60 * s) (i + 1) = o_tw (mA S 23 k) (mA S 22 k) (mB S 3) (60 * s) i + mB S 3 (60 * s + i) := by show (if _ then _ else _) = _; rw [if_pos hq]
                 have e3 : o_mi (mA S 23 k) (mA S 22 k) (mB S 3) (60 * s) (i + 1) = (if mB S 3 (60 * s + i) < o_mi (mA S 23 k) (mA S 22 k) (mB S 3) (60 * s) i then mB S 3 (60 * s + i) else o_mi (mA S 23 k) (mA S 22 k) (mB S 3) (60 * s) i) := by show (if _ then _ else _) = _; rw [if_pos hq]
                 have e4 : o_ma (mA S 23 k) (mA S 22 k) (mB S 3) (60 * s) (i + 1) = (if mB S 3 (60 * s + i) < o_ma (mA S 23 k) (mA S 22 k) (mB S 3) (60 * s) i then o_ma (mA S 23 k) (mA S 22 k) (mB S 3) (60 * s) i else mB S 3 (60 * s + i)) := by show (if _ then _ else _) = _; rw [if_pos hq]
                 have ih' := ih (by omega)
                 rw [e1, e2, e3, e4] at ih'
                 simp only [nI_1, ← Int64.toInt32_add]
                 refine wk _ _ _ _ _ _ _ (ih' _ _ (fun _ => ?_))
                 have z1 := hlm (by omega)
                 rw [z1.1, z1.2]
                 exact ⟨rfl, rfl⟩)
          · try simp only [b2_0, Classical.not_not] at qc26
            try simp only [Int64.le_iff_toInt_le, Int64.lt_iff_toInt_lt, Int32.lt_iff_toInt_lt, Int32.le_iff_toInt_le, Int32.toInt_toInt64, Int64.reduceToInt, Int32.reduceToInt, Int.reduceNeg, Classical.not_not, i32e, l_add] at qc26
            refine st b_X10_weigh_90 _ _ k_X10_weigh_90 _ _ _ _ _ ?_
            simp only [b_X10_weigh_90, zr_aload_n0, zr_dup, zr_get0, zr_iadd, zr_iconst, zr_l2i, zr_lload, zr_put0, zr_put1, zr_nil, zr_cons, ↓reduceIte, Nat.reduceAdd, Nat.reduceEqDiff, Nat.reduceLeDiff, Nat.reduceMul, Nat.reduceSub, Int32.reduceOfInt, Int64.reduceOfInt, Int64.reduceOfNat, true_and, and_true, false_and, and_false, or_false, false_or, true_or, or_true, Int.reduceEq, reduceCtorEq, or_self, and_self, ne_eq, not_false_eq_true, not_true_eq_false, eq_self, Nat.le_refl, Nat.zero_le, zr_eI, zr_eL, zr_eR, zr_pI, zr_pL, zr_pR, zr_pO, zr_pV, zq_pA0, zq_pA, zr_get, zr_put_n, zr_put, zr_rem_n, zr_rem, zr_cat_i, zr_cat_l, zr_cat_q, zr_w_n, zr_w, zr_args_n, zr_args, zr_tl_s, zr_tl_n, zq_hIsI, zq_hLsL, zq_hRsR, zq_hIsL, zq_hIsR, zq_hLsI, zq_hLsR, zq_hRsI, zq_hRsL, zq_hNsI, zq_hNsL, zq_hNsR, zq_hZsI, zq_hZsL, zq_hZsR, b2_01, Classical.not_not, Int32.toInt_toInt64, Int64.reduceToInt, zc_1000, zc_100, zc_10, zc_9, zc_2, ci_f, wg_rc, wg_rw, wg_rl, wg_rm, wg_R, wg_Z, wg_I (show (10 : Nat) ≠ 12 by decide), wg_I (show (4 : Nat) ≠ 12 by decide), wg_L (show (100 : Nat) ≠ 12 by decide), wg_l, wg_m, wg_c, wg_w, js.1, js.2.2.2.1, aLen_100, aCod_100, ki, jc]
            refine st b_X10_weigh_115 _ _ k_X10_weigh_115 _ _ _ _ _ ?_
            simp only [b_X10_weigh_115, zr_goto, zr_iinc, zr_nil, zr_cons, ↓reduceIte, Nat.reduceAdd, Nat.reduceEqDiff, Nat.reduceLeDiff, Nat.reduceMul, Nat.reduceSub, Int32.reduceOfInt, Int64.reduceOfInt, Int64.reduceOfNat, true_and, and_true, false_and, and_false, or_false, false_or, true_or, or_true, Int.reduceEq, reduceCtorEq, or_self, and_self, ne_eq, not_false_eq_true, not_true_eq_false, eq_self, Nat.le_refl, Nat.zero_le, zr_eI, zr_eL, zr_eR, zr_pI, zr_pL, zr_pR, zr_pO, zr_pV, zq_pA0, zq_pA, zr_get, zr_put_n, zr_put, zr_rem_n, zr_rem, zr_cat_i, zr_cat_l, zr_cat_q, zr_w_n, zr_w, zr_args_n, zr_args, zr_tl_s, zr_tl_n, zq_hIsI, zq_hLsL, zq_hRsR, zq_hIsL, zq_hIsR, zq_hLsI, zq_hLsR, zq_hRsI, zq_hRsL, zq_hNsI, zq_hNsL, zq_hNsR, zq_hZsI, zq_hZsL, zq_hZsR, b2_01, Classical.not_not, Int32.toInt_toInt64, Int64.reduceToInt, zc_1000, zc_100, zc_10, zc_9, zc_2, ci_f, wg_rc, wg_rw, wg_rl, wg_rm, wg_R, wg_Z, wg_I (show (10 : Nat) ≠ 12 by decide), wg_I (show (4 : Nat) ≠ 12 by decide), wg_L (show (100 : Nat) ≠ 12 by decide), wg_l, wg_m, wg_c, wg_w, js.1, js.2.2.2.1, aLen_100, aCod_100, ki, jc]
            first
              | (exfalso; omega)
              | (have hq : ¬ o_tk (mA S 23 k) (mA S 22 k) (mB S 3 (60 * s + i)) := by assumption
                 have e1 : o_tn (mA S 23 k) (mA S 22 k) (mB S 3) (60 * s) (i + 1) = o_tn (mA S 23 k) (mA S 22 k) (mB S 3) (60 * s) i := by show (if _ then _ else _) = _; rw [if_neg hq]
                 have e2 : o_tw (mA S 23 k) (mA S 22 k) (mB S 3) (60 * s) (i + 1) = o_tw (mA S 23 k) (mA S 22 k) (mB S 3) (60 * s) i := by show (if _ then _ else _) = _; rw [if_neg hq]
                 have e3 : o_mi (mA S 23 k) (mA S 22 k) (mB S 3) (60 * s) (i + 1) = o_mi (mA S 23 k) (mA S 22 k) (mB S 3) (60 * s) i := by show (if _ then _ else _) = _; rw [if_neg hq]
                 have e4 : o_ma (mA S 23 k) (mA S 22 k) (mB S 3) (60 * s) (i + 1) = o_ma (mA S 23 k) (mA S 22 k) (mB S 3) (60 * s) i := by show (if _ then _ else _) = _; rw [if_neg hq]
                 have ih' := ih (by omega)
                 rw [e1, e2, e3, e4] at ih'
                 rw [nI_1]
                 exact wk _ _ _ _ _ _ _ (ih' _ _ hlm))
              | (have hq : o_tk (mA S 23 k) (mA S 22 k) (mB S 3 (60 * s + i)) := by assumption
                 have e1 : o_tn (mA S 23 k) (mA S 22 k) (mB S 3) (60 * s) (i + 1) = o_tn (mA S 23 k) (mA S 22 k) (mB S 3) (60 * s) i + 1 := by show (if _ then _ else _) = _; rw [if_pos hq]
                 have e2 : o_tw (mA S 23 k) (mA S 22 k) (mB S 3) (60 * s) (i + 1) = o_tw (mA S 23 k) (mA S 22 k) (mB S 3) (60 * s) i + mB S 3 (60 * s + i) := by show (if _ then _ else _) = _; rw [if_pos hq]
                 have e3 : o_mi (mA S 23 k) (mA S 22 k) (mB S 3) (60 * s) (i + 1) = (if mB S 3 (60 * s + i) < o_mi (mA S 23 k) (mA S 22 k) (mB S 3) (60 * s) i then mB S 3 (60 * s + i) else o_mi (mA S 23 k) (mA S 22 k) (mB S 3) (60 * s) i) := by show (if _ then _ else _) = _; rw [if_pos hq]
                 have e4 : o_ma (mA S 23 k) (mA S 22 k) (mB S 3) (60 * s) (i + 1) = (if mB S 3 (60 * s + i) < o_ma (mA S 23 k) (mA S 22 k) (mB S 3) (60 * s) i then o_ma (mA S 23 k) (mA S 22 k) (mB S 3) (60 * s) i else mB S 3 (60 * s + i)) := by show (if _ then _ else _) = _; rw [if_pos hq]
                 have ih' := ih (by omega)
                 rw [e1, e2, e3, e4] at ih'
                 simp only [nI_1, ← Int64.toInt32_add]
                 refine wk _ _ _ _ _ _ _ (ih' _ _ (fun _ => ?_))
                 have z0 := tn_0 (lo := mA S 23 k) (hi := mA S 22 k) (c := mB S 3) (b := 60 * s) (n := i) (by omega)
                 rw [z0.1, z0.2, mi_1, ma_1x (by omega)]
                 exact ⟨rfl, rfl⟩)
              | (have hq : o_tk (mA S 23 k) (mA S 22 k) (mB S 3 (60 * s + i)) := by assumption
                 have e1 : o_tn (mA S 23 k) (mA S 22 k) (mB S 3) (60 * s) (i + 1) = o_tn (mA S 23 k) (mA S 22 k) (mB S 3) (60 * s) i + 1 := by show (if _ then _ else _) = _; rw [if_pos hq]
                 have e2 : o_tw (mA S 23 k) (mA S 22 k) (mB S 3) (60 * s) (i + 1) = o_tw (mA S 23 k) (mA S 22 k) (mB S 3) (60 * s) i + mB S 3 (60 * s + i) := by show (if _ then _ else _) = _; rw [if_pos hq]
                 have e3 : o_mi (mA S 23 k) (mA S 22 k) (mB S 3) (60 * s) (i + 1) = (if mB S 3 (60 * s + i) < o_mi (mA S 23 k) (mA S 22 k) (mB S 3) (60 * s) i then mB S 3 (60 * s + i) else o_mi (mA S 23 k) (mA S 22 k) (mB S 3) (60 * s) i) := by show (if _ then _ else _) = _; rw [if_pos hq]
                 have e4 : o_ma (mA S 23 k) (mA S 22 k) (mB S 3) (60 * s) (i + 1) = (if mB S 3 (60 * s + i) < o_ma (mA S 23 k) (mA S 22 k) (mB S 3) (60 * s) i then o_ma (mA S 23 k) (mA S 22 k) (mB S 3) (60 * s) i else mB S 3 (60 * s + i)) := by show (if _ then _ else _) = _; rw [if_pos hq]
                 have ih' := ih (by omega)
                 rw [e1, e2, e3, e4] at ih'
                 simp only [nI_1, ← Int64.toInt32_add]
                 refine wk _ _ _ _ _ _ _ (ih' _ _ (fun _ => ?_))
                 have z1 := hlm (by omega)
                 rw [z1.1, z1.2]
                 exact ⟨rfl, rfl⟩)
theorem c_weigh (l : Launch) (G : z_G) (d : Nat) (hd : 2 ≤ d) (tr : z_TR) (S : z_M) (h : z_H) (C : CR tr S h) (inv : INV S) (s k : Nat) (hs : s < 4) (hk : k < nK S) : z_MT l G d yX10_weigh cX10_weigh 6 none [z_r 12 0, z_r 10 s, z_r 4 k] h 0 0 (fun r h' => r = none ∧ ∃ l1 m1, h' = z_wg h (nI (o_tn (mA S 23 k) (mA S 22 k) (mB S 3) (60 * s) (ci (mA S 2 s)))) (o_tw (mA S 23 k) (mA S 22 k) (mB S 3) (60 * s) (ci (mA S 2 s))).toInt32 l1 m1 ∧ (¬ o_tn (mA S 23 k) (mA S 22 k) (mB S 3) (60 * s) (ci (mA S 2 s)) = 0 → l1 = o_mi (mA S 23 k) (mA S 22 k) (mB S 3) (60 * s) (ci (mA S 2 s)) ∧ m1 = o_ma (mA S 23 k) (mA S 22 k) (mB S 3) (60 * s) (ci (mA S 2 s)))) := by
  have q := c_weigh1 l G d hd tr S h C inv (hI h 12 0 0) (hI h 12 0 1) (hL h 12 0 2) (hL h 12 0 3) s k hs hk
  rw [wg_0] at q
  exact q
theorem hff_I {S : z_M} {a : Int32} {h : z_H} {nb : Nat} : hI (hff S a h nb) 12 = hI h 12 := by
  funext i k
  unfold hff
  split
  · simp only [zq_hIsI, zq_hLsL, zq_hRsR, zq_hZsZ, zq_hNsN, zq_hInw, zq_hLnw, zq_hRnw, zq_hNnw, zq_hZnw, zq_hIsL, zq_hIsR, zq_hIsZ, zq_hIsN, zq_hLsI, zq_hLsR, zq_hLsZ, zq_hLsN, zq_hRsI, zq_hRsL, zq_hRsZ, zq_hRsN, zq_hNsI, zq_hNsL, zq_hNsR, zq_hNsZ, zq_hZsI, zq_hZsL, zq_hZsR, zq_hZsN, mA_uA, mB_uB, mS_uS, mT_uT, mA_uB, mA_uS, mA_uT, mB_uA, mB_uS, mB_uT, mS_uA, mS_uB, mS_uT, mT_uA, mT_uB, mT_uS, Nat.reduceEqDiff, true_and, and_true, false_and, and_false, ↓reduceIte]
  · simp only [zq_hIsI, zq_hLsL, zq_hRsR, zq_hZsZ, zq_hNsN, zq_hInw, zq_hLnw, zq_hRnw, zq_hNnw, zq_hZnw, zq_hIsL, zq_hIsR, zq_hIsZ, zq_hIsN, zq_hLsI, zq_hLsR, zq_hLsZ, zq_hLsN, zq_hRsI, zq_hRsL, zq_hRsZ, zq_hRsN, zq_hNsI, zq_hNsL, zq_hNsR, zq_hNsZ, zq_hZsI, zq_hZsL, zq_hZsR, zq_hZsN, mA_uA, mB_uB, mS_uS, mT_uT, mA_uB, mA_uS, mA_uT, mB_uA, mB_uS, mB_uT, mS_uA, mS_uB, mS_uT, mT_uA, mT_uB, mT_uS, Nat.reduceEqDiff, true_and, and_true, false_and, and_false, ↓reduceIte]
theorem ln_I12 {H : z_H} {n : Nat} {t f side order : Int32} {r : Option (Nat × Nat)} {sum : Int64} {z : Nat} : hI (sZ (sI (sL (sI (sI (sR (sI H 6 n 0 t) 6 n 3 r) 6 n 1 f) 6 n 4 side) 6 n 5 sum) 6 n 2 order) 206 0 z) 12 = hI H 12 := by
  funext i k
  simp only [zq_hIsI, zq_hLsL, zq_hRsR, zq_hZsZ, zq_hNsN, zq_hInw, zq_hLnw, zq_hRnw, zq_hNnw, zq_hZnw, zq_hIsL, zq_hIsR, zq_hIsZ, zq_hIsN, zq_hLsI, zq_hLsR, zq_hLsZ, zq_hLsN, zq_hRsI, zq_hRsL, zq_hRsZ, zq_hRsN, zq_hNsI, zq_hNsL, zq_hNsR, zq_hNsZ, zq_hZsI, zq_hZsL, zq_hZsR, zq_hZsN, mA_uA, mB_uB, mS_uS, mT_uT, mA_uB, mA_uS, mA_uT, mB_uA, mB_uS, mB_uT, mS_uA, mS_uB, mS_uT, mT_uA, mT_uB, mT_uS, Nat.reduceEqDiff, true_and, and_true, false_and, and_false, ↓reduceIte]
theorem nw_I12 {h : z_H} : hI (z_nw h 6) 12 = hI h 12 := zr_hInwN (by decide)
theorem c_enter2 (l : Launch) (G : z_G) (d : Nat) (hd : 9 ≤ d) (tr : z_TR) (S : z_M) (h : z_H) (C : CR tr S h) (inv : INV S) (t a : Int32) (ha : isx a (nA S)) (side : Int32) (sum : Int64) (order : Int32) (hl : nL S < 2000) : z_MT l G d yX3_enter cX3_enter 7 (some .int) [z_r 5 0, z_i t, z_r 2 (ci a), z_i side, z_l sum, z_i order] h 4 6040 (fun r h' => Ci tr h (o_writes S t a side sum order) r h' ∧ hI h' 12 = hI h 12) := by
  have huL : nL S = ci (mS S 19) := rfl
  have htL := inv.cL.t
  have hbL := inv.cL.2
  have hpL : (mS S 19 - 1).toInt = (ci (mS S 19) : Int) - 1 := by
    rw [sub32 (by rw [htL, show (1 : Int32).toInt = 1 from rfl]; omega) (by rw [htL, show (1 : Int32).toInt = 1 from rfl]; omega), htL]
    rfl
  have huA : nA S = ci (mS S 16) := rfl
  have htA := inv.cA.t
  have hbA := inv.cA.2
  have hpA : (mS S 16 - 1).toInt = (ci (mS S 16) : Int) - 1 := by
    rw [sub32 (by rw [htA, show (1 : Int32).toInt = 1 from rfl]; omega) (by rw [htA, show (1 : Int32).toInt = 1 from rfl]; omega), htA]
    rfl
  have tn := toIntS (show nL S < 2000000000 by omega)
  have gc := z_gc_le (nL S)
  have gs := z_gs_le (nL S)
  have ja := C.acc (ci a) (ci_lt ha)
  rw [ci_nIx ha] at ja
  have jf := (C.fol (ci a) (ci_lt ha)).1
  rw [ci_nIx ha] at jf
  refine z_mt2 5 false ⟨by decide, rfl, fun q => absurd q (by decide)⟩ (by show 7 ≤ 7; decide) (fun A st wk => ?_)
  refine st b_X3_enter_0 _ _ k_X3_enter_0 _ _ _ _ _ ?_
  simp only [b_X3_enter_0, lg_cmp_eq, lg_cmp_ge, lg_cmp_gt, lg_cmp_le, lg_cmp_lt, zr_T, zr_cP_ne, zr_iconst, zr_ifc, zr_iret, zr_lcmp, zr_lconst0, zr_lload, zr_rt_a, zr_rt_i, zr_rt_l, zr_rt_n, zr_rt_z, zr_nil, zr_cons, ↓reduceIte, Nat.reduceAdd, Nat.reduceEqDiff, Nat.reduceLeDiff, Nat.reduceMul, Nat.reduceSub, Int32.reduceOfInt, Int64.reduceOfInt, Int64.reduceOfNat, true_and, and_true, false_and, and_false, or_false, false_or, true_or, or_true, Int.reduceEq, reduceCtorEq, or_self, and_self, ne_eq, not_false_eq_true, not_true_eq_false, eq_self, Nat.le_refl, Nat.zero_le, zr_eI, zr_eL, zr_eR, zr_pI, zr_pL, zr_pR, zr_pO, zr_pV, zq_pA0, zq_pA, zr_get, zr_put_n, zr_put, zr_rem_n, zr_rem, zr_cat_i, zr_cat_l, zr_cat_q, zr_w_n, zr_w, zr_args_n, zr_args, zr_tl_s, zr_tl_n, zq_hIsI, zq_hLsL, zq_hRsR, zq_hIsL, zq_hIsR, zq_hLsI, zq_hLsR, zq_hRsI, zq_hRsL, zq_hNsI, zq_hNsL, zq_hNsR, zq_hZsI, zq_hZsL, zq_hZsR, b2_01, Classical.not_not, Int32.toInt_toInt64, Int64.reduceToInt, zc_1000, zc_100, zc_10, zc_9, zc_2, ci_f, C.r0, C.r1, C.r2, C.r3, C.r4, C.r5, C.r6, C.r7, C.r8, C.r9, C.q0, C.q1, C.q2, zl_200, zl_201, zl_202, zl_203, zl_204, zl_205, zl_206, zl_207, lT_200, lT_201, lT_202, lT_203, lT_204, lT_205, lT_206, C.zK, C.zA, C.zR, C.zO, C.zE, C.zS, C.zL, zq_hInw, zq_hLnw, zq_hRnw, zq_hNnw, zq_hZnw, zq_hZsZ, zq_hNsN, zq_hIsZ, zq_hIsN, zq_hLsZ, zq_hLsN, zq_hRsZ, zq_hRsN, zq_hNsZ, zq_hZsN, kF_2, kF_3, kF_4, kF_5, kF_6, kF_7, kF_8, kF_9, kF_10, kF_11, kF_12, kF_13, C.xA, C.xK, C.xL, C.xE, C.xO, C.xR, C.xX, C.xF]
  refine ⟨fun qc1 => ?_, fun qc1 => ?_⟩
  · try simp only [b2_0, Classical.not_not] at qc1
    try simp only [Int64.le_iff_toInt_le, Int64.lt_iff_toInt_lt, Int32.lt_iff_toInt_lt, Int32.le_iff_toInt_le, Int32.toInt_toInt64, Int64.reduceToInt, Int32.reduceToInt, Int.reduceNeg, Classical.not_not, i32e, l_add] at qc1
    refine st b_X3_enter_9 _ _ k_X3_enter_9 _ _ _ _ _ ?_
    simp only [b_X3_enter_9, zr_T, zr_aload_n0, zr_aload_n2, zr_call0, zr_call2, zr_dup, zr_get2, zr_iconst, zr_iload, zr_iload_n1, zr_iload_n3, zr_iret, zr_isub, zr_lapp, zr_lload, zr_lsize, zr_new, zr_pop, zr_rt_a, zr_rt_i, zr_rt_l, zr_rt_n, zr_rt_z, zr_nil, zr_cons, ↓reduceIte, Nat.reduceAdd, Nat.reduceEqDiff, Nat.reduceLeDiff, Nat.reduceMul, Nat.reduceSub, Int32.reduceOfInt, Int64.reduceOfInt, Int64.reduceOfNat, true_and, and_true, false_and, and_false, or_false, false_or, true_or, or_true, Int.reduceEq, reduceCtorEq, or_self, and_self, ne_eq, not_false_eq_true, not_true_eq_false, eq_self, Nat.le_refl, Nat.zero_le, zr_eI, zr_eL, zr_eR, zr_pI, zr_pL, zr_pR, zr_pO, zr_pV, zq_pA0, zq_pA, zr_get, zr_put_n, zr_put, zr_rem_n, zr_rem, zr_cat_i, zr_cat_l, zr_cat_q, zr_w_n, zr_w, zr_args_n, zr_args, zr_tl_s, zr_tl_n, zq_hIsI, zq_hLsL, zq_hRsR, zq_hIsL, zq_hIsR, zq_hLsI, zq_hLsR, zq_hRsI, zq_hRsL, zq_hNsI, zq_hNsL, zq_hNsR, zq_hZsI, zq_hZsL, zq_hZsR, b2_01, Classical.not_not, Int32.toInt_toInt64, Int64.reduceToInt, zc_1000, zc_100, zc_10, zc_9, zc_2, ci_f, C.r0, C.r1, C.r2, C.r3, C.r4, C.r5, C.r6, C.r7, C.r8, C.r9, C.q0, C.q1, C.q2, zl_200, zl_201, zl_202, zl_203, zl_204, zl_205, zl_206, zl_207, lT_200, lT_201, lT_202, lT_203, lT_204, lT_205, lT_206, C.zK, C.zA, C.zR, C.zO, C.zE, C.zS, C.zL, zq_hInw, zq_hLnw, zq_hRnw, zq_hNnw, zq_hZnw, zq_hZsZ, zq_hNsN, zq_hIsZ, zq_hIsN, zq_hLsZ, zq_hLsN, zq_hRsZ, zq_hRsN, zq_hNsZ, zq_hZsN, kF_2, kF_3, kF_4, kF_5, kF_6, kF_7, kF_8, kF_9, kF_10, kF_11, kF_12, kF_13, C.xA, C.xK, C.xL, C.xE, C.xO, C.xR, C.xX, C.xF]
    repeat (with_reducible refine ⟨by omega, ?_⟩)
    have g1 : hR (z_nw h 6) 2 (ci a) 1 = some (207, ci a) := by rw [zr_hRnw, if_neg (by omega)]; exact ja.2.2.2.2.2.2
    have g2 : hI (z_nw h 6) 2 (ci a) 2 = o_fol (mA S 55) a (nF S) := by rw [zr_hInw, if_neg (by omega)]; exact ja.2.1
    have g3 : 0 ≤ (o_fol (mA S 55) a (nF S)).toInt → hI (z_nw h 6) 2 (ci a) 3 = mA S 56 (ci (o_fol (mA S 55) a (nF S))) := by rw [zr_hInw, if_neg (by omega)]; exact ja.2.2.1
    have g4 : hI (z_nw h 6) 5 0 4 = mS S 20 := by rw [zr_hInw, if_neg (by omega)]; exact C.fcn
    have g5 : hZ (z_nw h 6) 207 (ci a) = o_nf (mA S 55) a (nF S) := by rw [zr_hZnw, if_neg (by omega)]; exact jf
    refine cpx (by omega) lk_X3_35 (rc_5 rfl) (c_ffl l G _ (by omega) S _ inv a g1 g2 g3 g4 g5) (by omega) (by omega) (fun r1 h1 gg => ?_)
    obtain ⟨rfl, nb, rfl⟩ := gg
    simp only [zr_T, zr_aload_n0, zr_call2, zr_get2, zr_iconst, zr_iload, zr_iload_n3, zr_iret, zr_isub, zr_lapp, zr_lload, zr_lsize, zr_pop, zr_rt_a, zr_rt_i, zr_rt_l, zr_rt_n, zr_rt_z, zr_nil, zr_cons, ↓reduceIte, Nat.reduceAdd, Nat.reduceEqDiff, Nat.reduceLeDiff, Nat.reduceMul, Nat.reduceSub, Int32.reduceOfInt, Int64.reduceOfInt, Int64.reduceOfNat, true_and, and_true, false_and, and_false, or_false, false_or, true_or, or_true, Int.reduceEq, reduceCtorEq, or_self, and_self, ne_eq, not_false_eq_true, not_true_eq_false, eq_self, Nat.le_refl, Nat.zero_le, zr_eI, zr_eL, zr_eR, zr_pI, zr_pL, zr_pR, zr_pO, zr_pV, zq_pA0, zq_pA, zr_get, zr_put_n, zr_put, zr_rem_n, zr_rem, zr_cat_i, zr_cat_l, zr_cat_q, zr_w_n, zr_w, zr_args_n, zr_args, zr_tl_s, zr_tl_n, zq_hIsI, zq_hLsL, zq_hRsR, zq_hIsL, zq_hIsR, zq_hLsI, zq_hLsR, zq_hRsI, zq_hRsL, zq_hNsI, zq_hNsL, zq_hNsR, zq_hZsI, zq_hZsL, zq_hZsR, b2_01, Classical.not_not, Int32.toInt_toInt64, Int64.reduceToInt, zc_1000, zc_100, zc_10, zc_9, zc_2, ci_f, C.r0, C.r1, C.r2, C.r3, C.r4, C.r5, C.r6, C.r7, C.r8, C.r9, C.q0, C.q1, C.q2, zl_200, zl_201, zl_202, zl_203, zl_204, zl_205, zl_206, zl_207, lT_200, lT_201, lT_202, lT_203, lT_204, lT_205, lT_206, C.zK, C.zA, C.zR, C.zO, C.zE, C.zS, C.zL, zq_hInw, zq_hLnw, zq_hRnw, zq_hNnw, zq_hZnw, zq_hZsZ, zq_hNsN, zq_hIsZ, zq_hIsN, zq_hLsZ, zq_hLsN, zq_hRsZ, zq_hRsN, zq_hNsZ, zq_hZsN, kF_2, kF_3, kF_4, kF_5, kF_6, kF_7, kF_8, kF_9, kF_10, kF_11, kF_12, kF_13, C.xA, C.xK, C.xL, C.xE, C.xO, C.xR, C.xX, C.xF, hff_R, hff_Z]
    refine cph (by omega) lk_X3_39 rc_s (c_iLine l G _ (by omega) _ _ _ _ _ _ _ _) (by omega) (by omega) ?_
    simp only [zr_T, zr_aload_n0, zr_get2, zr_iconst, zr_iret, zr_isub, zr_lapp, zr_lsize, zr_pop, zr_rt_a, zr_rt_i, zr_rt_l, zr_rt_n, zr_rt_z, zr_nil, zr_cons, ↓reduceIte, Nat.reduceAdd, Nat.reduceEqDiff, Nat.reduceLeDiff, Nat.reduceMul, Nat.reduceSub, Int32.reduceOfInt, Int64.reduceOfInt, Int64.reduceOfNat, true_and, and_true, false_and, and_false, or_false, false_or, true_or, or_true, Int.reduceEq, reduceCtorEq, or_self, and_self, ne_eq, not_false_eq_true, not_true_eq_false, eq_self, Nat.le_refl, Nat.zero_le, zr_eI, zr_eL, zr_eR, zr_pI, zr_pL, zr_pR, zr_pO, zr_pV, zq_pA0, zq_pA, zr_get, zr_put_n, zr_put, zr_rem_n, zr_rem, zr_cat_i, zr_cat_l, zr_cat_q, zr_w_n, zr_w, zr_args_n, zr_args, zr_tl_s, zr_tl_n, zq_hIsI, zq_hLsL, zq_hRsR, zq_hIsL, zq_hIsR, zq_hLsI, zq_hLsR, zq_hRsI, zq_hRsL, zq_hNsI, zq_hNsL, zq_hNsR, zq_hZsI, zq_hZsL, zq_hZsR, b2_01, Classical.not_not, Int32.toInt_toInt64, Int64.reduceToInt, zc_1000, zc_100, zc_10, zc_9, zc_2, ci_f, C.r0, C.r1, C.r2, C.r3, C.r4, C.r5, C.r6, C.r7, C.r8, C.r9, C.q0, C.q1, C.q2, zl_200, zl_201, zl_202, zl_203, zl_204, zl_205, zl_206, zl_207, lT_200, lT_201, lT_202, lT_203, lT_204, lT_205, lT_206, C.zK, C.zA, C.zR, C.zO, C.zE, C.zS, C.zL, zq_hInw, zq_hLnw, zq_hRnw, zq_hNnw, zq_hZnw, zq_hZsZ, zq_hNsN, zq_hIsZ, zq_hIsN, zq_hLsZ, zq_hLsN, zq_hRsZ, zq_hRsN, zq_hNsZ, zq_hZsN, kF_2, kF_3, kF_4, kF_5, kF_6, kF_7, kF_8, kF_9, kF_10, kF_11, kF_12, kF_13, C.xA, C.xK, C.xL, C.xE, C.xO, C.xR, C.xX, C.xF, hff_R, hff_Z]
    repeat (with_reducible refine ⟨by omega, ?_⟩)
    repeat (with_reducible refine ⟨by omega, ?_⟩)
    rw [nI_pred]
    repeat (with_reducible refine ⟨by omega, ?_⟩)
    refine ⟨qci (S' := o_ln (o_ff S a).2 t a (o_ff S a).1 side sum order) ?_ (cr_line C inv ha hl) (by repeat (first | with_reducible exact z_sM.rf | with_reducible assumption | with_reducible refine z_sM.I ?_ (by decide) | with_reducible refine z_sM.L ?_ (by decide) | with_reducible refine z_sM.R ?_ (by decide) | with_reducible refine z_sM.Z ?_ | with_reducible refine z_sM.N ?_ | with_reducible refine z_sM.W ?_ (by decide) | with_reducible refine z_sM.C ?_ | with_reducible refine z_sMhff ?_)), ?_⟩
    · unfold o_writes
      rw [if_neg (by assumption)]
    · funext i0 k0
      simp only [zq_hIsI, zq_hLsL, zq_hRsR, zq_hZsZ, zq_hNsN, zq_hInw, zq_hLnw, zq_hRnw, zq_hNnw, zq_hZnw, zq_hIsL, zq_hIsR, zq_hIsZ, zq_hIsN, zq_hLsI, zq_hLsR, zq_hLsZ, zq_hLsN, zq_hRsI, zq_hRsL, zq_hRsZ, zq_hRsN, zq_hNsI, zq_hNsL, zq_hNsR, zq_hNsZ, zq_hZsI, zq_hZsL, zq_hZsR, zq_hZsN, mA_uA, mB_uB, mS_uS, mT_uT, mA_uB, mA_uS, mA_uT, mB_uA, mB_uS, mB_uT, mS_uA, mS_uB, mS_uT, mT_uA, mT_uB, mT_uS, Nat.reduceEqDiff, true_and, and_true, false_and, and_false, ↓reduceIte]
      rw [hff_I, nw_I12]
  · try simp only [b2_0, Classical.not_not] at qc1
    try simp only [Int64.le_iff_toInt_le, Int64.lt_iff_toInt_lt, Int32.lt_iff_toInt_lt, Int32.le_iff_toInt_le, Int32.toInt_toInt64, Int64.reduceToInt, Int32.reduceToInt, Int.reduceNeg, Classical.not_not, i32e, l_add] at qc1
    repeat (with_reducible refine ⟨by omega, ?_⟩)
    refine qci (S' := S) ?_ C z_sM.rf
    unfold o_writes
    rw [if_pos (by assumption)]
theorem cr_rec {tr : z_TR} {S : z_M} {h : z_H} (C : CR tr S h) {a k n g t : Int32} {w b : Int64} (hw : g.toInt64 = w) (hk : nR S < 200) : CR tr (uS (uA (uA (uB (uB (uA (uA (uA S 30 (nR S) a) 31 (nR S) k) 32 (nR S) n) 35 (nR S) w) 36 (nR S) b) 33 (nR S) t) 34 (nR S) 0) 17 (nI (nR S + 1))) (sZ (sI (sL (sI (sI (sR (sR (sI (z_nw h 9) 9 (nR S) 6 0) 9 (nR S) 4 (some (2, ci a))) 9 (nR S) 0 (some (4, ci k))) 9 (nR S) 1 n) 9 (nR S) 2 g) 9 (nR S) 3 b) 9 (nR S) 5 t) 202 0 (nR S + 1)) := by
  have eN : ci (nI (nR S + 1)) = nR S + 1 := ci_nI (by omega)
  unfold CR
  refine ⟨C.xA, C.xK, C.xL, C.xE, C.xO, ?_, C.xX, C.xF, C.zK, C.zA, ?_, C.zO, C.zE, C.zS, C.zL, C.ref, C.day, C.wai, C.fee, C.ter, C.hou, C.scn, C.fcn, C.kin, C.acc, C.fol, ?_, C.ord, C.lin, C.len, C.row, C.sus⟩
  · show hN h 9 + 1 = ci (nI (nR S + 1))
    rw [eN, C.xR]
  · rw [zr_hZsZ, if_pos ⟨rfl, rfl⟩]
    exact eN.symm
  · intro r hr
    have hr2 : r < ci (nI (nR S + 1)) := hr
    rw [eN] at hr2
    by_cases e : r = nR S
    · simp only [zq_hIsI, zq_hLsL, zq_hRsR, zq_hZsZ, zq_hNsN, zq_hInw, zq_hLnw, zq_hRnw, zq_hNnw, zq_hZnw, zq_hIsL, zq_hIsR, zq_hIsZ, zq_hIsN, zq_hLsI, zq_hLsR, zq_hLsZ, zq_hLsN, zq_hRsI, zq_hRsL, zq_hRsZ, zq_hRsN, zq_hNsI, zq_hNsL, zq_hNsR, zq_hNsZ, zq_hZsI, zq_hZsL, zq_hZsR, zq_hZsN, mA_uA, mB_uB, mS_uS, mT_uT, mA_uB, mA_uS, mA_uT, mB_uA, mB_uS, mB_uT, mS_uA, mS_uB, mS_uT, mT_uA, mT_uB, mT_uS, Nat.reduceEqDiff, true_and, and_true, false_and, and_false, ↓reduceIte, C.xR, e, hw]
    · simp only [zq_hIsI, zq_hLsL, zq_hRsR, zq_hZsZ, zq_hNsN, zq_hInw, zq_hLnw, zq_hRnw, zq_hNnw, zq_hZnw, zq_hIsL, zq_hIsR, zq_hIsZ, zq_hIsN, zq_hLsI, zq_hLsR, zq_hLsZ, zq_hLsN, zq_hRsI, zq_hRsL, zq_hRsZ, zq_hRsN, zq_hNsI, zq_hNsL, zq_hNsR, zq_hNsZ, zq_hZsI, zq_hZsL, zq_hZsR, zq_hZsN, mA_uA, mB_uB, mS_uS, mT_uT, mA_uB, mA_uS, mA_uT, mB_uA, mB_uS, mB_uT, mS_uA, mS_uB, mS_uT, mT_uA, mT_uB, mT_uS, Nat.reduceEqDiff, true_and, and_true, false_and, and_false, ↓reduceIte, C.xR, e]
      exact C.rec r (by omega)
theorem add32_64 {x y : Int32} (h1 : -2147483648 ≤ x.toInt + y.toInt) (h2 : x.toInt + y.toInt ≤ 2147483647) : (x + y).toInt64 = x.toInt64 + y.toInt64 := by
  rw [← Int64.toInt_inj, Int32.toInt_toInt64, add32 h1 h2, add64 (by rw [Int32.toInt_toInt64, Int32.toInt_toInt64]; omega) (by rw [Int32.toInt_toInt64, Int32.toInt_toInt64]; omega), Int32.toInt_toInt64, Int32.toInt_toInt64]
def o_br4 (S : z_M) (a k n : Int32) (w b : Int64) : z_M := uB (uB (uB (uS (uA (uA (uB (uB (uA (uA (uA S 30 (nR S) a) 31 (nR S) k) 32 (nR S) n) 35 (nR S) w) 36 (nR S) b) 33 (nR S) (dy S + mS S 7)) 34 (nR S) 0) 17 (nI (nR S + 1))) 25 (ci k) (mB S 25 (ci k) + n.toInt64)) 26 (ci k) (mB S 26 (ci k) + w)) 27 (ci a) (mB S 27 (ci a) + b)
theorem br4_e {S : z_M} {a k n : Int32} {w b : Int64} : o_bring S a k n w b = uT (o_br4 S a k n w b) 63 (mT S 63 + b) := rfl
theorem inv_br4 {S : z_M} {a k : Int32} {n : Int32} {w b : Int64} (inv : INV S) (ha : isx a (nA S)) (hk : isx k (nK S)) (hR : nR S < 200) (hn : inp n 1 60) (hw : inq w 0 6000000) (hb : inq b 0 600000000) : INV (o_br4 S a k n w b) := by
  have i := inv_bring inv ha hk hR hn hw hb
  have eR : nR (o_br4 S a k n w b) = nR S + 1 := ci_nI (by omega)
  rw [br4_e] at i
  have t : inq (mT (o_br4 S a k n w b) 63) 0 (600000000 * ((nR (o_br4 S a k n w b) : Nat) : Int)) := by
    rw [eR]
    have := inv.tak
    show inq (mT S 63) 0 (600000000 * ((nR S + 1 : Nat) : Int))
    omega
  generalize o_br4 S a k n w b = T at *
  unfold INV
  exact ⟨i.cK, i.cA, i.cR, i.cO, i.cL, i.cF, i.cE, i.cD, i.cU, i.fl, i.rm, i.ter, i.kin, i.row, i.acc, i.rec, i.ord, i.lin, i.fol, i.len, i.sus, t⟩
set_option maxRecDepth 4000 in
theorem c_bringIn (l : Launch) (G : z_G) (d : Nat) (hd : 11 ≤ d) (tr : z_TR) (S : z_M) (h : z_H) (C : CR tr S h) (inv : INV S) (a k : Int32) (ha : isx a (nA S)) (hk : isx k (nK S)) (n g : Int32) (hn : inp n 1 60) (hg : inq g.toInt64 0 6000000) (hr0 : nR S < 200) (hl : nL S < 2000) : z_MT l G d yX11_bringIn cX11_bringIn 7 none [z_r 13 0, z_r 2 (ci a), z_r 4 (ci k), z_i n, z_i g] h 6 6400 (fun r h' => Cv tr h (o_writes (o_bring S a k n g.toInt64 (o_bk S (ci k) g.toInt64)) (dy S) a 1 (o_bk S (ci k) g.toInt64) (-1)).2 r h' ∧ hI h' 12 0 0 = hI h 12 0 0) := by
  have huR : nR S = ci (mS S 17) := rfl
  have htR := inv.cR.t
  have hbR := inv.cR.2
  have hpR : (mS S 17 - 1).toInt = (ci (mS S 17) : Int) - 1 := by
    rw [sub32 (by rw [htR, show (1 : Int32).toInt = 1 from rfl]; omega) (by rw [htR, show (1 : Int32).toInt = 1 from rfl]; omega), htR]
    rfl
  have huA : nA S = ci (mS S 16) := rfl
  have htA := inv.cA.t
  have hbA := inv.cA.2
  have hpA : (mS S 16 - 1).toInt = (ci (mS S 16) : Int) - 1 := by
    rw [sub32 (by rw [htA, show (1 : Int32).toInt = 1 from rfl]; omega) (by rw [htA, show (1 : Int32).toInt = 1 from rfl]; omega), htA]
    rfl
  have huK : nK S = ci (mS S 15) := rfl
  have htK := inv.cK.t
  have hbK := inv.cK.2
  have hpK : (mS S 15 - 1).toInt = (ci (mS S 15) : Int) - 1 := by
    rw [sub32 (by rw [htK, show (1 : Int32).toInt = 1 from rfl]; omega) (by rw [htK, show (1 : Int32).toInt = 1 from rfl]; omega), htK]
    rfl
  have huL : nL S = ci (mS S 19) := rfl
  have htL := inv.cL.t
  have hbL := inv.cL.2
  have hpL : (mS S 19 - 1).toInt = (ci (mS S 19) : Int) - 1 := by
    rw [sub32 (by rw [htL, show (1 : Int32).toInt = 1 from rfl]; omega) (by rw [htL, show (1 : Int32).toInt = 1 from rfl]; omega), htL]
    rfl
  have gc := z_gc_le (nR S)
  have gs := z_gs_le (nR S)
  have jt := C.ter
  have ja := C.acc (ci a) (ci_lt ha)
  have jk := C.kin (ci k) (ci_lt hk)
  have ik := inv.kin.1 (ci k) (ci_lt hk)
  have e4 : (hI h 4 (ci k) 4).toInt = (mB S 25 (ci k)).toInt := by
    have := congrArg Int64.toInt jk.2.2.2.2.1
    rw [Int32.toInt_toInt64] at this
    exact this
  have e5 : (hI h 4 (ci k) 4 + n).toInt64 = mB S 25 (ci k) + n.toInt64 := by
    have := ik.2.2.2.2
    rw [add32_64 (by omega) (by omega), jk.2.2.2.2.1]
  have hb : inq (o_bk S (ci k) g.toInt64) 0 600000000 := o_b_in ik.2.2.2.1 inv.ter.1 hg
  refine z_mt2 13 false ⟨by decide, rfl, fun q => absurd q (by decide)⟩ (by show 5 ≤ 7; decide) (fun A st wk => ?_)
  refine st b_X11_bringIn_0 _ _ k_X11_bringIn_0 _ _ _ _ _ ?_
  simp only [b_X11_bringIn_0, zr_T, zr_aload_n0, zr_aload_n1, zr_aload_n2, zr_call0, zr_call2, zr_dup, zr_get0, zr_get1, zr_get2, zr_i2l, zr_iadd, zr_iconst, zr_iload, zr_iload_n3, zr_ladd, zr_lapp, zr_lload, zr_lstore, zr_new, zr_pop, zr_put0, zr_put1, zr_ret, zr_rt_a, zr_rt_i, zr_rt_l, zr_rt_n, zr_rt_z, zr_nil, zr_cons, ↓reduceIte, Nat.reduceAdd, Nat.reduceEqDiff, Nat.reduceLeDiff, Nat.reduceMul, Nat.reduceSub, Int32.reduceOfInt, Int64.reduceOfInt, Int64.reduceOfNat, true_and, and_true, false_and, and_false, or_false, false_or, true_or, or_true, Int.reduceEq, reduceCtorEq, or_self, and_self, ne_eq, not_false_eq_true, not_true_eq_false, eq_self, Nat.le_refl, Nat.zero_le, zr_eI, zr_eL, zr_eR, zr_pI, zr_pL, zr_pR, zr_pO, zr_pV, zq_pA0, zq_pA, zr_get, zr_put_n, zr_put, zr_rem_n, zr_rem, zr_cat_i, zr_cat_l, zr_cat_q, zr_w_n, zr_w, zr_args_n, zr_args, zr_tl_s, zr_tl_n, zq_hIsI, zq_hLsL, zq_hRsR, zq_hIsL, zq_hIsR, zq_hLsI, zq_hLsR, zq_hRsI, zq_hRsL, zq_hNsI, zq_hNsL, zq_hNsR, zq_hZsI, zq_hZsL, zq_hZsR, b2_01, Classical.not_not, Int32.toInt_toInt64, Int64.reduceToInt, zc_1000, zc_100, zc_10, zc_9, zc_2, ci_f, C.r0, C.r1, C.r2, C.r3, C.r4, C.r5, C.r6, C.r7, C.r8, C.r9, C.q0, C.q1, C.q2, zl_200, zl_201, zl_202, zl_203, zl_204, zl_205, zl_206, zl_207, lT_200, lT_201, lT_202, lT_203, lT_204, lT_205, lT_206, C.zK, C.zA, C.zR, C.zO, C.zE, C.zS, C.zL, zq_hInw, zq_hLnw, zq_hRnw, zq_hNnw, zq_hZnw, zq_hZsZ, zq_hNsN, zq_hIsZ, zq_hIsN, zq_hLsZ, zq_hLsN, zq_hRsZ, zq_hRsN, zq_hNsZ, zq_hZsN, kF_2, kF_3, kF_4, kF_5, kF_6, kF_7, kF_8, kF_9, kF_10, kF_11, kF_12, kF_13, C.xA, C.xK, C.xL, C.xE, C.xO, C.xR, C.xX, C.xF, C.day, jt.1, jt.2.2.1, ja.2.2.2.1, jk.2.2.2.1, jk.2.2.2.2.2]
  refine cp0 (by omega) lk_X11_305 (rc_4 rfl) (c_bookOf0 l G _ _ _ _ _) (by omega) (by omega) ?_
  simp only [zr_T, zr_aload_n0, zr_aload_n1, zr_aload_n2, zr_call0, zr_call2, zr_dup, zr_get0, zr_get1, zr_get2, zr_i2l, zr_iadd, zr_iconst, zr_iload, zr_iload_n3, zr_ladd, zr_lapp, zr_lload, zr_lstore, zr_new, zr_pop, zr_put0, zr_put1, zr_ret, zr_rt_a, zr_rt_i, zr_rt_l, zr_rt_n, zr_rt_z, zr_nil, zr_cons, ↓reduceIte, Nat.reduceAdd, Nat.reduceEqDiff, Nat.reduceLeDiff, Nat.reduceMul, Nat.reduceSub, Int32.reduceOfInt, Int64.reduceOfInt, Int64.reduceOfNat, true_and, and_true, false_and, and_false, or_false, false_or, true_or, or_true, Int.reduceEq, reduceCtorEq, or_self, and_self, ne_eq, not_false_eq_true, not_true_eq_false, eq_self, Nat.le_refl, Nat.zero_le, zr_eI, zr_eL, zr_eR, zr_pI, zr_pL, zr_pR, zr_pO, zr_pV, zq_pA0, zq_pA, zr_get, zr_put_n, zr_put, zr_rem_n, zr_rem, zr_cat_i, zr_cat_l, zr_cat_q, zr_w_n, zr_w, zr_args_n, zr_args, zr_tl_s, zr_tl_n, zq_hIsI, zq_hLsL, zq_hRsR, zq_hIsL, zq_hIsR, zq_hLsI, zq_hLsR, zq_hRsI, zq_hRsL, zq_hNsI, zq_hNsL, zq_hNsR, zq_hZsI, zq_hZsL, zq_hZsR, b2_01, Classical.not_not, Int32.toInt_toInt64, Int64.reduceToInt, zc_1000, zc_100, zc_10, zc_9, zc_2, ci_f, C.r0, C.r1, C.r2, C.r3, C.r4, C.r5, C.r6, C.r7, C.r8, C.r9, C.q0, C.q1, C.q2, zl_200, zl_201, zl_202, zl_203, zl_204, zl_205, zl_206, zl_207, lT_200, lT_201, lT_202, lT_203, lT_204, lT_205, lT_206, C.zK, C.zA, C.zR, C.zO, C.zE, C.zS, C.zL, zq_hInw, zq_hLnw, zq_hRnw, zq_hNnw, zq_hZnw, zq_hZsZ, zq_hNsN, zq_hIsZ, zq_hIsN, zq_hLsZ, zq_hLsN, zq_hRsZ, zq_hRsN, zq_hNsZ, zq_hZsN, kF_2, kF_3, kF_4, kF_5, kF_6, kF_7, kF_8, kF_9, kF_10, kF_11, kF_12, kF_13, C.xA, C.xK, C.xL, C.xE, C.xO, C.xR, C.xX, C.xF, C.day, jt.1, jt.2.2.1, ja.2.2.2.1, jk.2.2.2.1, jk.2.2.2.2.2]
  repeat (with_reducible refine ⟨by omega, ?_⟩)
  refine cpx (by omega) lk_X11_420 rc_s (c_iReceipt l G _ (by omega) _ _ _ _ _ _ _ _) (by omega) (by omega) (fun r1 h1 g1 => ?_)
  obtain ⟨rfl, hh1⟩ := g1
  have y1_0 : hZ h1 202 0 = nR S := by
    rw [hh1]
    simp only [zq_hIsI, zq_hLsL, zq_hRsR, zq_hZsZ, zq_hNsN, zq_hInw, zq_hLnw, zq_hRnw, zq_hNnw, zq_hZnw, zq_hIsL, zq_hIsR, zq_hIsZ, zq_hIsN, zq_hLsI, zq_hLsR, zq_hLsZ, zq_hLsN, zq_hRsI, zq_hRsL, zq_hRsZ, zq_hRsN, zq_hNsI, zq_hNsL, zq_hNsR, zq_hNsZ, zq_hZsI, zq_hZsL, zq_hZsR, zq_hZsN, mA_uA, mB_uB, mS_uS, mT_uT, mA_uB, mA_uS, mA_uT, mB_uA, mB_uS, mB_uT, mS_uA, mS_uB, mS_uT, mT_uA, mT_uB, mT_uS, Nat.reduceEqDiff, true_and, and_true, false_and, and_false, ↓reduceIte]
    exact C.zR
  have y1_1 : hI h1 4 (ci k) 4 = hI h 4 (ci k) 4 := by
    rw [hh1]
    simp only [zq_hIsI, zq_hLsL, zq_hRsR, zq_hZsZ, zq_hNsN, zq_hInw, zq_hLnw, zq_hRnw, zq_hNnw, zq_hZnw, zq_hIsL, zq_hIsR, zq_hIsZ, zq_hIsN, zq_hLsI, zq_hLsR, zq_hLsZ, zq_hLsN, zq_hRsI, zq_hRsL, zq_hRsZ, zq_hRsN, zq_hNsI, zq_hNsL, zq_hNsR, zq_hNsZ, zq_hZsI, zq_hZsL, zq_hZsR, zq_hZsN, mA_uA, mB_uB, mS_uS, mT_uT, mA_uB, mA_uS, mA_uT, mB_uA, mB_uS, mB_uT, mS_uA, mS_uB, mS_uT, mT_uA, mT_uB, mT_uS, Nat.reduceEqDiff, true_and, and_true, false_and, and_false, ↓reduceIte]
    try rfl
  have y1_2 : hL h1 4 (ci k) 5 = mB S 26 (ci k) := by
    rw [hh1]
    simp only [zq_hIsI, zq_hLsL, zq_hRsR, zq_hZsZ, zq_hNsN, zq_hInw, zq_hLnw, zq_hRnw, zq_hNnw, zq_hZnw, zq_hIsL, zq_hIsR, zq_hIsZ, zq_hIsN, zq_hLsI, zq_hLsR, zq_hLsZ, zq_hLsN, zq_hRsI, zq_hRsL, zq_hRsZ, zq_hRsN, zq_hNsI, zq_hNsL, zq_hNsR, zq_hNsZ, zq_hZsI, zq_hZsL, zq_hZsR, zq_hZsN, mA_uA, mB_uB, mS_uS, mT_uT, mA_uB, mA_uS, mA_uT, mB_uA, mB_uS, mB_uT, mS_uA, mS_uB, mS_uT, mT_uA, mT_uB, mT_uS, Nat.reduceEqDiff, true_and, and_true, false_and, and_false, ↓reduceIte]
    exact jk.2.2.2.2.2
  have y1_3 : hL h1 2 (ci a) 4 = mB S 27 (ci a) := by
    rw [hh1]
    simp only [zq_hIsI, zq_hLsL, zq_hRsR, zq_hZsZ, zq_hNsN, zq_hInw, zq_hLnw, zq_hRnw, zq_hNnw, zq_hZnw, zq_hIsL, zq_hIsR, zq_hIsZ, zq_hIsN, zq_hLsI, zq_hLsR, zq_hLsZ, zq_hLsN, zq_hRsI, zq_hRsL, zq_hRsZ, zq_hRsN, zq_hNsI, zq_hNsL, zq_hNsR, zq_hNsZ, zq_hZsI, zq_hZsL, zq_hZsR, zq_hZsN, mA_uA, mB_uB, mS_uS, mT_uT, mA_uB, mA_uS, mA_uT, mB_uA, mB_uS, mB_uT, mS_uA, mS_uB, mS_uT, mT_uA, mT_uB, mT_uS, Nat.reduceEqDiff, true_and, and_true, false_and, and_false, ↓reduceIte]
    exact ja.2.2.2.1
  have y1_4 : hR h1 13 0 7 = some (5, 0) := by
    rw [hh1]
    simp only [zq_hIsI, zq_hLsL, zq_hRsR, zq_hZsZ, zq_hNsN, zq_hInw, zq_hLnw, zq_hRnw, zq_hNnw, zq_hZnw, zq_hIsL, zq_hIsR, zq_hIsZ, zq_hIsN, zq_hLsI, zq_hLsR, zq_hLsZ, zq_hLsN, zq_hRsI, zq_hRsL, zq_hRsZ, zq_hRsN, zq_hNsI, zq_hNsL, zq_hNsR, zq_hNsZ, zq_hZsI, zq_hZsL, zq_hZsR, zq_hZsN, mA_uA, mB_uB, mS_uS, mT_uT, mA_uB, mA_uS, mA_uT, mB_uA, mB_uS, mB_uT, mS_uA, mS_uB, mS_uT, mT_uA, mT_uB, mT_uS, Nat.reduceEqDiff, true_and, and_true, false_and, and_false, ↓reduceIte]
    exact C.r7
  have y1_5 : hR h1 13 0 8 = some (3, 0) := by
    rw [hh1]
    simp only [zq_hIsI, zq_hLsL, zq_hRsR, zq_hZsZ, zq_hNsN, zq_hInw, zq_hLnw, zq_hRnw, zq_hNnw, zq_hZnw, zq_hIsL, zq_hIsR, zq_hIsZ, zq_hIsN, zq_hLsI, zq_hLsR, zq_hLsZ, zq_hLsN, zq_hRsI, zq_hRsL, zq_hRsZ, zq_hRsN, zq_hNsI, zq_hNsL, zq_hNsR, zq_hNsZ, zq_hZsI, zq_hZsL, zq_hZsR, zq_hZsN, mA_uA, mB_uB, mS_uS, mT_uT, mA_uB, mA_uS, mA_uT, mB_uA, mB_uS, mB_uT, mS_uA, mS_uB, mS_uT, mT_uA, mT_uB, mT_uS, Nat.reduceEqDiff, true_and, and_true, false_and, and_false, ↓reduceIte]
    exact C.r8
  have y1_6 : hI h1 13 0 10 = mS S 14 := by
    rw [hh1]
    simp only [zq_hIsI, zq_hLsL, zq_hRsR, zq_hZsZ, zq_hNsN, zq_hInw, zq_hLnw, zq_hRnw, zq_hNnw, zq_hZnw, zq_hIsL, zq_hIsR, zq_hIsZ, zq_hIsN, zq_hLsI, zq_hLsR, zq_hLsZ, zq_hLsN, zq_hRsI, zq_hRsL, zq_hRsZ, zq_hRsN, zq_hNsI, zq_hNsL, zq_hNsR, zq_hNsZ, zq_hZsI, zq_hZsL, zq_hZsR, zq_hZsN, mA_uA, mB_uB, mS_uS, mT_uT, mA_uB, mA_uS, mA_uT, mB_uA, mB_uS, mB_uT, mS_uA, mS_uB, mS_uT, mT_uA, mT_uB, mT_uS, Nat.reduceEqDiff, true_and, and_true, false_and, and_false, ↓reduceIte]
    exact C.day
  simp only [zr_T, zr_aload_n0, zr_aload_n1, zr_aload_n2, zr_call0, zr_dup, zr_get0, zr_get1, zr_get2, zr_i2l, zr_iadd, zr_iconst, zr_iload, zr_iload_n3, zr_ladd, zr_lapp, zr_lload, zr_pop, zr_put0, zr_put1, zr_ret, zr_rt_a, zr_rt_i, zr_rt_l, zr_rt_n, zr_rt_z, zr_nil, zr_cons, ↓reduceIte, Nat.reduceAdd, Nat.reduceEqDiff, Nat.reduceLeDiff, Nat.reduceMul, Nat.reduceSub, Int32.reduceOfInt, Int64.reduceOfInt, Int64.reduceOfNat, true_and, and_true, false_and, and_false, or_false, false_or, true_or, or_true, Int.reduceEq, reduceCtorEq, or_self, and_self, ne_eq, not_false_eq_true, not_true_eq_false, eq_self, Nat.le_refl, Nat.zero_le, zr_eI, zr_eL, zr_eR, zr_pI, zr_pL, zr_pR, zr_pO, zr_pV, zq_pA0, zq_pA, zr_get, zr_put_n, zr_put, zr_rem_n, zr_rem, zr_cat_i, zr_cat_l, zr_cat_q, zr_w_n, zr_w, zr_args_n, zr_args, zr_tl_s, zr_tl_n, zq_hIsI, zq_hLsL, zq_hRsR, zq_hIsL, zq_hIsR, zq_hLsI, zq_hLsR, zq_hRsI, zq_hRsL, zq_hNsI, zq_hNsL, zq_hNsR, zq_hZsI, zq_hZsL, zq_hZsR, b2_01, Classical.not_not, Int32.toInt_toInt64, Int64.reduceToInt, zc_1000, zc_100, zc_10, zc_9, zc_2, ci_f, C.r0, C.r1, C.r2, C.r3, C.r4, C.r5, C.r6, C.r7, C.r8, C.r9, C.q0, C.q1, C.q2, zl_200, zl_201, zl_202, zl_203, zl_204, zl_205, zl_206, zl_207, lT_200, lT_201, lT_202, lT_203, lT_204, lT_205, lT_206, C.zK, C.zA, C.zR, C.zO, C.zE, C.zS, C.zL, zq_hInw, zq_hLnw, zq_hRnw, zq_hNnw, zq_hZnw, zq_hZsZ, zq_hNsN, zq_hIsZ, zq_hIsN, zq_hLsZ, zq_hLsN, zq_hRsZ, zq_hRsN, zq_hNsZ, zq_hZsN, kF_2, kF_3, kF_4, kF_5, kF_6, kF_7, kF_8, kF_9, kF_10, kF_11, kF_12, kF_13, C.xA, C.xK, C.xL, C.xE, C.xO, C.xR, C.xX, C.xF, C.day, jt.1, jt.2.2.1, ja.2.2.2.1, jk.2.2.2.1, jk.2.2.2.2.2, y1_0, y1_1, y1_2, y1_3, y1_4, y1_5, y1_6]
  repeat (with_reducible refine ⟨by omega, ?_⟩)
  have cE : CR tr (o_br4 S a k n g.toInt64 (o_bk S (ci k) g.toInt64)) (sL (sL (sI (sZ h1 202 0 (nR S + 1)) 4 (ci k) 4 (hI h 4 (ci k) 4 + n)) 4 (ci k) 5 (mB S 26 (ci k) + g.toInt64)) 2 (ci a) 4 (mB S 27 (ci a) + (o_bk S (ci k) g.toInt64))) := by
    rw [hh1]
    exact cr_bal (cr_kw (cr_kc (cr_rec C rfl (by omega)) e5))
  refine cpx (by omega) lk_X11_282 (rc_5 rfl) (c_enter2 l G _ (by omega) tr (o_br4 S a k n g.toInt64 (o_bk S (ci k) g.toInt64)) _ cE (inv_br4 inv ha hk (by omega) hn hg hb) _ a ha _ _ _ hl) (by omega) (by omega) (fun r2 h2 g2 => ?_)
  obtain ⟨⟨rfl, C2, m2⟩, i2⟩ := g2
  have t4 : hL h2 3 0 4 = mT S 63 := by
    rw [C2.hou.2.2.2.2, wr_T]
    rfl
  have i12 : hI h2 12 0 0 = hI h 12 0 0 := by
    rw [i2, hh1]
    simp only [zq_hIsI, zq_hLsL, zq_hRsR, zq_hZsZ, zq_hNsN, zq_hInw, zq_hLnw, zq_hRnw, zq_hNnw, zq_hZnw, zq_hIsL, zq_hIsR, zq_hIsZ, zq_hIsN, zq_hLsI, zq_hLsR, zq_hLsZ, zq_hLsN, zq_hRsI, zq_hRsL, zq_hRsZ, zq_hRsN, zq_hNsI, zq_hNsL, zq_hNsR, zq_hNsZ, zq_hZsI, zq_hZsL, zq_hZsR, zq_hZsN, mA_uA, mB_uB, mS_uS, mT_uT, mA_uB, mA_uS, mA_uT, mB_uA, mB_uS, mB_uT, mS_uA, mS_uB, mS_uT, mT_uA, mT_uB, mT_uS, Nat.reduceEqDiff, true_and, and_true, false_and, and_false, ↓reduceIte]
  simp only [zr_T, zr_aload_n0, zr_dup, zr_get1, zr_get2, zr_ladd, zr_lload, zr_pop, zr_put1, zr_ret, zr_rt_a, zr_rt_i, zr_rt_l, zr_rt_n, zr_rt_z, zr_nil, zr_cons, ↓reduceIte, Nat.reduceAdd, Nat.reduceEqDiff, Nat.reduceLeDiff, Nat.reduceMul, Nat.reduceSub, Int32.reduceOfInt, Int64.reduceOfInt, Int64.reduceOfNat, true_and, and_true, false_and, and_false, or_false, false_or, true_or, or_true, Int.reduceEq, reduceCtorEq, or_self, and_self, ne_eq, not_false_eq_true, not_true_eq_false, eq_self, Nat.le_refl, Nat.zero_le, zr_eI, zr_eL, zr_eR, zr_pI, zr_pL, zr_pR, zr_pO, zr_pV, zq_pA0, zq_pA, zr_get, zr_put_n, zr_put, zr_rem_n, zr_rem, zr_cat_i, zr_cat_l, zr_cat_q, zr_w_n, zr_w, zr_args_n, zr_args, zr_tl_s, zr_tl_n, zq_hIsI, zq_hLsL, zq_hRsR, zq_hIsL, zq_hIsR, zq_hLsI, zq_hLsR, zq_hRsI, zq_hRsL, zq_hNsI, zq_hNsL, zq_hNsR, zq_hZsI, zq_hZsL, zq_hZsR, b2_01, Classical.not_not, Int32.toInt_toInt64, Int64.reduceToInt, zc_1000, zc_100, zc_10, zc_9, zc_2, ci_f, C.r0, C.r1, C.r2, C.r3, C.r4, C.r5, C.r6, C.r7, C.r8, C.r9, C.q0, C.q1, C.q2, zl_200, zl_201, zl_202, zl_203, zl_204, zl_205, zl_206, zl_207, lT_200, lT_201, lT_202, lT_203, lT_204, lT_205, lT_206, C.zK, C.zA, C.zR, C.zO, C.zE, C.zS, C.zL, zq_hInw, zq_hLnw, zq_hRnw, zq_hNnw, zq_hZnw, zq_hZsZ, zq_hNsN, zq_hIsZ, zq_hIsN, zq_hLsZ, zq_hLsN, zq_hRsZ, zq_hRsN, zq_hNsZ, zq_hZsN, kF_2, kF_3, kF_4, kF_5, kF_6, kF_7, kF_8, kF_9, kF_10, kF_11, kF_12, kF_13, C.xA, C.xK, C.xL, C.xE, C.xO, C.xR, C.xX, C.xF, C.day, jt.1, jt.2.2.1, ja.2.2.2.1, jk.2.2.2.1, jk.2.2.2.2.2, y1_0, y1_1, y1_2, y1_3, y1_4, y1_5, y1_6, t4, C2.r8]
  repeat (with_reducible refine ⟨by omega, ?_⟩)
  refine ⟨⟨rfl, ?_, (z_sM.L (z_sM.tr (by rw [hh1]; exact (by repeat (first | with_reducible exact z_sM.rf | with_reducible assumption | with_reducible refine z_sM.I ?_ (by decide) | with_reducible refine z_sM.L ?_ (by decide) | with_reducible refine z_sM.R ?_ (by decide) | with_reducible refine z_sM.Z ?_ | with_reducible refine z_sM.N ?_ | with_reducible refine z_sM.W ?_ (by decide) | with_reducible refine z_sM.C ?_))) m2) (by decide))⟩, ?_⟩
  · rw [br4_e, wr_uT]
    exact cr_taken C2
  · first
    | exact i12
    | (rw [zq_hIsL]; exact i12)
