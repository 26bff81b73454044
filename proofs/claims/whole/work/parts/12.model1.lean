/-! the model's leaves -/
theorem mR_1 : mR 1 = some (301, 0) := rfl
theorem aLen_301 : aLen 301 = 4 := rfl
theorem aCod_301 : aCod 301 = 0 := rfl
theorem mR_2 : mR 2 = some (302, 0) := rfl
theorem aLen_302 : aLen 302 = 4 := rfl
theorem aCod_302 : aCod 302 = 0 := rfl
theorem mR_3 : mR 3 = some (303, 0) := rfl
theorem aLen_303 : aLen 303 = 240 := rfl
theorem aCod_303 : aCod 303 = 1 := rfl
theorem mR_4 : mR 4 = some (304, 0) := rfl
theorem aLen_304 : aLen 304 = 60 := rfl
theorem aCod_304 : aCod 304 = 1 := rfl
theorem mR_22 : mR 22 = some (322, 0) := rfl
theorem aLen_322 : aLen 322 = 6 := rfl
theorem aCod_322 : aCod 322 = 0 := rfl
theorem mR_23 : mR 23 = some (323, 0) := rfl
theorem aLen_323 : aLen 323 = 6 := rfl
theorem aCod_323 : aCod 323 = 0 := rfl
theorem mR_24 : mR 24 = some (324, 0) := rfl
theorem aLen_324 : aLen 324 = 6 := rfl
theorem aCod_324 : aCod 324 = 0 := rfl
theorem mR_25 : mR 25 = some (325, 0) := rfl
theorem aLen_325 : aLen 325 = 6 := rfl
theorem aCod_325 : aCod 325 = 1 := rfl
theorem mR_26 : mR 26 = some (326, 0) := rfl
theorem aLen_326 : aLen 326 = 6 := rfl
theorem aCod_326 : aCod 326 = 1 := rfl
theorem mR_27 : mR 27 = some (327, 0) := rfl
theorem aLen_327 : aLen 327 = 24 := rfl
theorem aCod_327 : aCod 327 = 1 := rfl
theorem mR_28 : mR 28 = some (328, 0) := rfl
theorem aLen_328 : aLen 328 = 24 := rfl
theorem aCod_328 : aCod 328 = 0 := rfl
theorem mR_29 : mR 29 = some (329, 0) := rfl
theorem aLen_329 : aLen 329 = 24 := rfl
theorem aCod_329 : aCod 329 = 0 := rfl
theorem mR_30 : mR 30 = some (330, 0) := rfl
theorem aLen_330 : aLen 330 = 200 := rfl
theorem aCod_330 : aCod 330 = 0 := rfl
theorem mR_31 : mR 31 = some (331, 0) := rfl
theorem aLen_331 : aLen 331 = 200 := rfl
theorem aCod_331 : aCod 331 = 0 := rfl
theorem mR_32 : mR 32 = some (332, 0) := rfl
theorem aLen_332 : aLen 332 = 200 := rfl
theorem aCod_332 : aCod 332 = 0 := rfl
theorem mR_33 : mR 33 = some (333, 0) := rfl
theorem aLen_333 : aLen 333 = 200 := rfl
theorem aCod_333 : aCod 333 = 0 := rfl
theorem mR_34 : mR 34 = some (334, 0) := rfl
theorem aLen_334 : aLen 334 = 200 := rfl
theorem aCod_334 : aCod 334 = 0 := rfl
theorem mR_35 : mR 35 = some (335, 0) := rfl
theorem aLen_335 : aLen 335 = 200 := rfl
theorem aCod_335 : aCod 335 = 1 := rfl
theorem mR_36 : mR 36 = some (336, 0) := rfl
theorem aLen_336 : aLen 336 = 200 := rfl
theorem aCod_336 : aCod 336 = 1 := rfl
theorem mR_37 : mR 37 = some (337, 0) := rfl
theorem aLen_337 : aLen 337 = 300 := rfl
theorem aCod_337 : aCod 337 = 0 := rfl
theorem mR_38 : mR 38 = some (338, 0) := rfl
theorem aLen_338 : aLen 338 = 300 := rfl
theorem aCod_338 : aCod 338 = 0 := rfl
theorem mR_39 : mR 39 = some (339, 0) := rfl
theorem aLen_339 : aLen 339 = 300 := rfl
theorem aCod_339 : aCod 339 = 0 := rfl
theorem mR_40 : mR 40 = some (340, 0) := rfl
theorem aLen_340 : aLen 340 = 300 := rfl
theorem aCod_340 : aCod 340 = 0 := rfl
theorem mR_41 : mR 41 = some (341, 0) := rfl
theorem aLen_341 : aLen 341 = 300 := rfl
theorem aCod_341 : aCod 341 = 0 := rfl
theorem mR_42 : mR 42 = some (342, 0) := rfl
theorem aLen_342 : aLen 342 = 300 := rfl
theorem aCod_342 : aCod 342 = 0 := rfl
theorem mR_43 : mR 43 = some (343, 0) := rfl
theorem aLen_343 : aLen 343 = 300 := rfl
theorem aCod_343 : aCod 343 = 0 := rfl
theorem mR_44 : mR 44 = some (344, 0) := rfl
theorem aLen_344 : aLen 344 = 300 := rfl
theorem aCod_344 : aCod 344 = 0 := rfl
theorem mR_45 : mR 45 = some (345, 0) := rfl
theorem aLen_345 : aLen 345 = 300 := rfl
theorem aCod_345 : aCod 345 = 0 := rfl
theorem mR_46 : mR 46 = some (346, 0) := rfl
theorem aLen_346 : aLen 346 = 300 := rfl
theorem aCod_346 : aCod 346 = 0 := rfl
theorem mR_47 : mR 47 = some (347, 0) := rfl
theorem aLen_347 : aLen 347 = 300 := rfl
theorem aCod_347 : aCod 347 = 1 := rfl
theorem mR_48 : mR 48 = some (348, 0) := rfl
theorem aLen_348 : aLen 348 = 300 := rfl
theorem aCod_348 : aCod 348 = 2 := rfl
theorem mR_49 : mR 49 = some (349, 0) := rfl
theorem aLen_349 : aLen 349 = 2000 := rfl
theorem aCod_349 : aCod 349 = 0 := rfl
theorem mR_50 : mR 50 = some (350, 0) := rfl
theorem aLen_350 : aLen 350 = 2000 := rfl
theorem aCod_350 : aCod 350 = 0 := rfl
theorem mR_51 : mR 51 = some (351, 0) := rfl
theorem aLen_351 : aLen 351 = 2000 := rfl
theorem aCod_351 : aCod 351 = 0 := rfl
theorem mR_52 : mR 52 = some (352, 0) := rfl
theorem aLen_352 : aLen 352 = 2000 := rfl
theorem aCod_352 : aCod 352 = 0 := rfl
theorem mR_53 : mR 53 = some (353, 0) := rfl
theorem aLen_353 : aLen 353 = 2000 := rfl
theorem aCod_353 : aCod 353 = 0 := rfl
theorem mR_54 : mR 54 = some (354, 0) := rfl
theorem aLen_354 : aLen 354 = 2000 := rfl
theorem aCod_354 : aCod 354 = 1 := rfl
theorem mR_55 : mR 55 = some (355, 0) := rfl
theorem aLen_355 : aLen 355 = 2000 := rfl
theorem aCod_355 : aCod 355 = 0 := rfl
theorem mR_56 : mR 56 = some (356, 0) := rfl
theorem aLen_356 : aLen 356 = 2000 := rfl
theorem aCod_356 : aCod 356 = 0 := rfl
theorem mR_57 : mR 57 = some (357, 0) := rfl
theorem aLen_357 : aLen 357 = 20 := rfl
theorem aCod_357 : aCod 357 = 0 := rfl
theorem mR_58 : mR 58 = some (358, 0) := rfl
theorem aLen_358 : aLen 358 = 640 := rfl
theorem aCod_358 : aCod 358 = 0 := rfl
theorem mR_59 : mR 59 = some (359, 0) := rfl
theorem aLen_359 : aLen 359 = 20 := rfl
theorem aCod_359 : aCod 359 = 1 := rfl
theorem mR_60 : mR 60 = some (360, 0) := rfl
theorem aLen_360 : aLen 360 = 2000 := rfl
theorem aCod_360 : aCod 360 = 0 := rfl
theorem mR_61 : mR 61 = some (361, 0) := rfl
theorem aLen_361 : aLen 361 = 2000 := rfl
theorem aCod_361 : aCod 361 = 0 := rfl
theorem m_in (l : Launch) (G : z_G) (d : Nat) (h : z_H) (v a b : Int64) : z_MT l G d yX12_in cX12_in 6 (some .boolean) [z_l v, z_l a, z_l b] h 0 0 (fun r h' => r = some (z_i (b2 (a ≤ v ∧ v ≤ b))) ∧ h' = h) := by
  refine z_meth 14 false ⟨by decide, rfl, fun q => absurd q (by decide)⟩ (by show 6 ≤ 6; decide) (fun A st => ?_)
  refine st b_X12_in_0 _ _ k_X12_in_0 _ _ _ _ _ ?_
  simp only [b_X12_in_0, lg_cmp_eq, lg_cmp_ge, lg_cmp_gt, lg_cmp_le, lg_cmp_lt, zr_cP_gt, zr_cP_lt, zr_goto, zr_iconst, zr_ifc, zr_lcmp, zr_lload, zr_lload_n, zr_nil, zr_cons, ↓reduceIte, Nat.reduceAdd, Nat.reduceEqDiff, Nat.reduceLeDiff, Nat.reduceMul, Nat.reduceSub, Int32.reduceOfInt, Int64.reduceOfInt, Int64.reduceOfNat, Int64.reduceEq, true_and, and_true, false_and, and_false, or_false, false_or, reduceCtorEq, or_self, and_self, ne_eq, not_false_eq_true, not_true_eq_false, eq_self, Nat.le_refl, Nat.zero_le, zr_eI, zr_eL, zr_eR, zr_pI, zr_pL, zr_pR, zr_pO, zr_pV, zr_pA0, zr_pA, zr_get, zr_put_n, zr_put, zr_rem_n, zr_rem, zr_cat_i, zr_cat_l, zr_cat_q, zr_w_n, zr_w, zr_args_n, zr_args, zr_tl_s, zr_tl_n, zr_f0, zr_f1, zr_f2, zr_f3, zr_g0, zr_g1, zr_hIsI, zr_hLsL, zr_hRsR, zr_hIsL, zr_hIsR, zr_hLsI, zr_hLsR, zr_hRsI, zr_hRsL, zr_hNsI, zr_hNsL, zr_hNsR, zr_hZsI, zr_hZsL, zr_hZsR]
  refine ⟨fun c1 => ?_, fun c1 => ?_⟩
  · refine st b_X12_in_17 _ _ k_X12_in_17 _ _ _ _ _ ?_
    simp only [b_X12_in_17, zr_iconst, zr_nil, zr_cons, ↓reduceIte, Nat.reduceAdd, Nat.reduceEqDiff, Nat.reduceLeDiff, Nat.reduceMul, Nat.reduceSub, Int32.reduceOfInt, Int64.reduceOfInt, Int64.reduceOfNat, Int64.reduceEq, true_and, and_true, false_and, and_false, or_false, false_or, reduceCtorEq, or_self, and_self, ne_eq, not_false_eq_true, not_true_eq_false, eq_self, Nat.le_refl, Nat.zero_le, zr_eI, zr_eL, zr_eR, zr_pI, zr_pL, zr_pR, zr_pO, zr_pV, zr_pA0, zr_pA, zr_get, zr_put_n, zr_put, zr_rem_n, zr_rem, zr_cat_i, zr_cat_l, zr_cat_q, zr_w_n, zr_w, zr_args_n, zr_args, zr_tl_s, zr_tl_n, zr_f0, zr_f1, zr_f2, zr_f3, zr_g0, zr_g1, zr_hIsI, zr_hLsL, zr_hRsR, zr_hIsL, zr_hIsR, zr_hLsI, zr_hLsR, zr_hRsI, zr_hRsL, zr_hNsI, zr_hNsL, zr_hNsR, zr_hZsI, zr_hZsL, zr_hZsR]
    refine st b_X12_in_18 _ _ k_X12_in_18 _ _ _ _ _ ?_
    simp only [b_X12_in_18, zr_T, zr_iret, zr_rt_a, zr_rt_i, zr_rt_l, zr_rt_n, zr_rt_z, zr_nil, zr_cons, ↓reduceIte, Nat.reduceAdd, Nat.reduceEqDiff, Nat.reduceLeDiff, Nat.reduceMul, Nat.reduceSub, Int32.reduceOfInt, Int64.reduceOfInt, Int64.reduceOfNat, Int64.reduceEq, true_and, and_true, false_and, and_false, or_false, false_or, reduceCtorEq, or_self, and_self, ne_eq, not_false_eq_true, not_true_eq_false, eq_self, Nat.le_refl, Nat.zero_le, zr_eI, zr_eL, zr_eR, zr_pI, zr_pL, zr_pR, zr_pO, zr_pV, zr_pA0, zr_pA, zr_get, zr_put_n, zr_put, zr_rem_n, zr_rem, zr_cat_i, zr_cat_l, zr_cat_q, zr_w_n, zr_w, zr_args_n, zr_args, zr_tl_s, zr_tl_n, zr_f0, zr_f1, zr_f2, zr_f3, zr_g0, zr_g1, zr_hIsI, zr_hLsL, zr_hRsR, zr_hIsL, zr_hIsR, zr_hLsI, zr_hLsR, zr_hRsI, zr_hRsL, zr_hNsI, zr_hNsL, zr_hNsR, zr_hZsI, zr_hZsL, zr_hZsR]
    refine congrArg (fun q => some (z_i q)) (show _ = b2 _ from ?_)
    first
      | exact (b2_f (fun q => absurd c1 (Int64.not_lt.mpr q.1))).symm
      | exact (b2_f (fun q => absurd c2 (Int64.not_lt.mpr q.2))).symm
      | exact (b2_t ⟨Int64.not_lt.mp c1, Int64.not_lt.mp c2⟩).symm
  · refine ⟨fun c2 => ?_, fun c2 => ?_⟩
    · refine st b_X12_in_17 _ _ k_X12_in_17 _ _ _ _ _ ?_
      simp only [b_X12_in_17, zr_iconst, zr_nil, zr_cons, ↓reduceIte, Nat.reduceAdd, Nat.reduceEqDiff, Nat.reduceLeDiff, Nat.reduceMul, Nat.reduceSub, Int32.reduceOfInt, Int64.reduceOfInt, Int64.reduceOfNat, Int64.reduceEq, true_and, and_true, false_and, and_false, or_false, false_or, reduceCtorEq, or_self, and_self, ne_eq, not_false_eq_true, not_true_eq_false, eq_self, Nat.le_refl, Nat.zero_le, zr_eI, zr_eL, zr_eR, zr_pI, zr_pL, zr_pR, zr_pO, zr_pV, zr_pA0, zr_pA, zr_get, zr_put_n, zr_put, zr_rem_n, zr_rem, zr_cat_i, zr_cat_l, zr_cat_q, zr_w_n, zr_w, zr_args_n, zr_args, zr_tl_s, zr_tl_n, zr_f0, zr_f1, zr_f2, zr_f3, zr_g0, zr_g1, zr_hIsI, zr_hLsL, zr_hRsR, zr_hIsL, zr_hIsR, zr_hLsI, zr_hLsR, zr_hRsI, zr_hRsL, zr_hNsI, zr_hNsL, zr_hNsR, zr_hZsI, zr_hZsL, zr_hZsR]
      refine st b_X12_in_18 _ _ k_X12_in_18 _ _ _ _ _ ?_
      simp only [b_X12_in_18, zr_T, zr_iret, zr_rt_a, zr_rt_i, zr_rt_l, zr_rt_n, zr_rt_z, zr_nil, zr_cons, ↓reduceIte, Nat.reduceAdd, Nat.reduceEqDiff, Nat.reduceLeDiff, Nat.reduceMul, Nat.reduceSub, Int32.reduceOfInt, Int64.reduceOfInt, Int64.reduceOfNat, Int64.reduceEq, true_and, and_true, false_and, and_false, or_false, false_or, reduceCtorEq, or_self, and_self, ne_eq, not_false_eq_true, not_true_eq_false, eq_self, Nat.le_refl, Nat.zero_le, zr_eI, zr_eL, zr_eR, zr_pI, zr_pL, zr_pR, zr_pO, zr_pV, zr_pA0, zr_pA, zr_get, zr_put_n, zr_put, zr_rem_n, zr_rem, zr_cat_i, zr_cat_l, zr_cat_q, zr_w_n, zr_w, zr_args_n, zr_args, zr_tl_s, zr_tl_n, zr_f0, zr_f1, zr_f2, zr_f3, zr_g0, zr_g1, zr_hIsI, zr_hLsL, zr_hRsR, zr_hIsL, zr_hIsR, zr_hLsI, zr_hLsR, zr_hRsI, zr_hRsL, zr_hNsI, zr_hNsL, zr_hNsR, zr_hZsI, zr_hZsL, zr_hZsR]
      refine congrArg (fun q => some (z_i q)) (show _ = b2 _ from ?_)
      first
        | exact (b2_f (fun q => absurd c1 (Int64.not_lt.mpr q.1))).symm
        | exact (b2_f (fun q => absurd c2 (Int64.not_lt.mpr q.2))).symm
        | exact (b2_t ⟨Int64.not_lt.mp c1, Int64.not_lt.mp c2⟩).symm
    · refine st b_X12_in_18 _ _ k_X12_in_18 _ _ _ _ _ ?_
      simp only [b_X12_in_18, zr_T, zr_iret, zr_rt_a, zr_rt_i, zr_rt_l, zr_rt_n, zr_rt_z, zr_nil, zr_cons, ↓reduceIte, Nat.reduceAdd, Nat.reduceEqDiff, Nat.reduceLeDiff, Nat.reduceMul, Nat.reduceSub, Int32.reduceOfInt, Int64.reduceOfInt, Int64.reduceOfNat, Int64.reduceEq, true_and, and_true, false_and, and_false, or_false, false_or, reduceCtorEq, or_self, and_self, ne_eq, not_false_eq_true, not_true_eq_false, eq_self, Nat.le_refl, Nat.zero_le, zr_eI, zr_eL, zr_eR, zr_pI, zr_pL, zr_pR, zr_pO, zr_pV, zr_pA0, zr_pA, zr_get, zr_put_n, zr_put, zr_rem_n, zr_rem, zr_cat_i, zr_cat_l, zr_cat_q, zr_w_n, zr_w, zr_args_n, zr_args, zr_tl_s, zr_tl_n, zr_f0, zr_f1, zr_f2, zr_f3, zr_g0, zr_g1, zr_hIsI, zr_hLsL, zr_hRsR, zr_hIsL, zr_hIsR, zr_hLsI, zr_hLsR, zr_hRsI, zr_hRsL, zr_hNsI, zr_hNsL, zr_hNsR, zr_hZsI, zr_hZsL, zr_hZsR]
      refine congrArg (fun q => some (z_i q)) (show _ = b2 _ from ?_)
      first
        | exact (b2_f (fun q => absurd c1 (Int64.not_lt.mpr q.1))).symm
        | exact (b2_f (fun q => absurd c2 (Int64.not_lt.mpr q.2))).symm
        | exact (b2_t ⟨Int64.not_lt.mp c1, Int64.not_lt.mp c2⟩).symm
theorem m_isSlot (l : Launch) (G : z_G) (d : Nat) (hd : 1 ≤ d) (h : z_H) (s : Int32) : z_MT l G d yX12_isSlot cX12_isSlot 1 (some .boolean) [z_i s] h 0 0 (fun r h' => r = some (z_i (b2 (0 ≤ s.toInt ∧ s.toInt ≤ 3))) ∧ h' = h) := by
  refine z_meth 14 false ⟨by decide, rfl, fun q => absurd q (by decide)⟩ (by show 1 ≤ 1; decide) (fun A st => ?_)
  refine st b_X12_isSlot_0 _ _ k_X12_isSlot_0 _ _ _ _ _ ?_
  simp only [b_X12_isSlot_0, zr_T, zr_call1, zr_i2l, zr_iload_n, zr_iret, zr_lconst, zr_ldc2, zr_rt_a, zr_rt_i, zr_rt_l, zr_rt_n, zr_rt_z, zr_nil, zr_cons, ↓reduceIte, Nat.reduceAdd, Nat.reduceEqDiff, Nat.reduceLeDiff, Nat.reduceMul, Nat.reduceSub, Int32.reduceOfInt, Int64.reduceOfInt, Int64.reduceOfNat, Int64.reduceEq, true_and, and_true, false_and, and_false, or_false, false_or, reduceCtorEq, or_self, and_self, ne_eq, not_false_eq_true, not_true_eq_false, eq_self, Nat.le_refl, Nat.zero_le, zr_eI, zr_eL, zr_eR, zr_pI, zr_pL, zr_pR, zr_pO, zr_pV, zr_pA0, zr_pA, zr_get, zr_put_n, zr_put, zr_rem_n, zr_rem, zr_cat_i, zr_cat_l, zr_cat_q, zr_w_n, zr_w, zr_args_n, zr_args, zr_tl_s, zr_tl_n, zr_f0, zr_f1, zr_f2, zr_f3, zr_g0, zr_g1, zr_hIsI, zr_hLsL, zr_hRsR, zr_hIsL, zr_hIsR, zr_hLsI, zr_hLsR, zr_hRsI, zr_hRsL, zr_hNsI, zr_hNsL, zr_hNsR, zr_hZsI, zr_hZsL, zr_hZsR, Int64.le_iff_toInt_le, Int64.lt_iff_toInt_lt, Int32.toInt_toInt64, Int64.reduceToInt, b2_0, b2_01, Classical.not_not]
  refine cp0 hd lk_X12_177 trivial (m_in l G _ _ _ _ _) (Nat.le_refl _) (Nat.le_refl _) ?_
  simp only [zr_T, zr_iret, zr_rt_a, zr_rt_i, zr_rt_l, zr_rt_n, zr_rt_z, zr_nil, zr_cons, ↓reduceIte, Nat.reduceAdd, Nat.reduceEqDiff, Nat.reduceLeDiff, Nat.reduceMul, Nat.reduceSub, Int32.reduceOfInt, Int64.reduceOfInt, Int64.reduceOfNat, Int64.reduceEq, true_and, and_true, false_and, and_false, or_false, false_or, reduceCtorEq, or_self, and_self, ne_eq, not_false_eq_true, not_true_eq_false, eq_self, Nat.le_refl, Nat.zero_le, zr_eI, zr_eL, zr_eR, zr_pI, zr_pL, zr_pR, zr_pO, zr_pV, zr_pA0, zr_pA, zr_get, zr_put_n, zr_put, zr_rem_n, zr_rem, zr_cat_i, zr_cat_l, zr_cat_q, zr_w_n, zr_w, zr_args_n, zr_args, zr_tl_s, zr_tl_n, zr_f0, zr_f1, zr_f2, zr_f3, zr_g0, zr_g1, zr_hIsI, zr_hLsL, zr_hRsR, zr_hIsL, zr_hIsR, zr_hLsI, zr_hLsR, zr_hRsI, zr_hRsL, zr_hNsI, zr_hNsL, zr_hNsR, zr_hZsI, zr_hZsL, zr_hZsR, Int64.le_iff_toInt_le, Int64.lt_iff_toInt_lt, Int32.toInt_toInt64, Int64.reduceToInt, b2_0, b2_01, Classical.not_not]
  rfl
theorem m_isAccount (l : Launch) (G : z_G) (d : Nat) (hd : 1 ≤ d) (h : z_H) (a : Int32) (n : Nat) (hn : hI h 14 0 16 = nI n) (hb : n ≤ 100000) : z_MT l G d yX12_isAccount cX12_isAccount 2 (some .boolean) [z_r 14 0, z_i a] h 0 0 (fun r h' => r = some (z_i (b2 (0 ≤ a.toInt ∧ a.toInt < n))) ∧ h' = h) := by
  refine z_meth 14 false ⟨by decide, rfl, fun q => absurd q (by decide)⟩ (by show 2 ≤ 2; decide) (fun A st => ?_)
  refine st b_X12_isAccount_0 _ _ k_X12_isAccount_0 _ _ _ _ _ ?_
  simp only [b_X12_isAccount_0, zr_T, zr_aload_n, zr_call1, zr_get0, zr_i2l, zr_iconst, zr_iload_n, zr_iret, zr_isub, zr_lconst, zr_rt_a, zr_rt_i, zr_rt_l, zr_rt_n, zr_rt_z, zr_nil, zr_cons, ↓reduceIte, Nat.reduceAdd, Nat.reduceEqDiff, Nat.reduceLeDiff, Nat.reduceMul, Nat.reduceSub, Int32.reduceOfInt, Int64.reduceOfInt, Int64.reduceOfNat, Int64.reduceEq, true_and, and_true, false_and, and_false, or_false, false_or, reduceCtorEq, or_self, and_self, ne_eq, not_false_eq_true, not_true_eq_false, eq_self, Nat.le_refl, Nat.zero_le, zr_eI, zr_eL, zr_eR, zr_pI, zr_pL, zr_pR, zr_pO, zr_pV, zr_pA0, zr_pA, zr_get, zr_put_n, zr_put, zr_rem_n, zr_rem, zr_cat_i, zr_cat_l, zr_cat_q, zr_w_n, zr_w, zr_args_n, zr_args, zr_tl_s, zr_tl_n, zr_f0, zr_f1, zr_f2, zr_f3, zr_g0, zr_g1, zr_hIsI, zr_hLsL, zr_hRsR, zr_hIsL, zr_hIsR, zr_hLsI, zr_hLsR, zr_hRsI, zr_hRsL, zr_hNsI, zr_hNsL, zr_hNsR, zr_hZsI, zr_hZsL, zr_hZsR, Int64.le_iff_toInt_le, Int64.lt_iff_toInt_lt, Int32.toInt_toInt64, Int64.reduceToInt, b2_0, b2_01, Classical.not_not]
  refine cp0 hd lk_X12_177 trivial (m_in l G _ _ _ _ _) (Nat.le_refl _) (Nat.le_refl _) ?_
  simp only [zr_T, zr_iret, zr_rt_a, zr_rt_i, zr_rt_l, zr_rt_n, zr_rt_z, zr_nil, zr_cons, ↓reduceIte, Nat.reduceAdd, Nat.reduceEqDiff, Nat.reduceLeDiff, Nat.reduceMul, Nat.reduceSub, Int32.reduceOfInt, Int64.reduceOfInt, Int64.reduceOfNat, Int64.reduceEq, true_and, and_true, false_and, and_false, or_false, false_or, reduceCtorEq, or_self, and_self, ne_eq, not_false_eq_true, not_true_eq_false, eq_self, Nat.le_refl, Nat.zero_le, zr_eI, zr_eL, zr_eR, zr_pI, zr_pL, zr_pR, zr_pO, zr_pV, zr_pA0, zr_pA, zr_get, zr_put_n, zr_put, zr_rem_n, zr_rem, zr_cat_i, zr_cat_l, zr_cat_q, zr_w_n, zr_w, zr_args_n, zr_args, zr_tl_s, zr_tl_n, zr_f0, zr_f1, zr_f2, zr_f3, zr_g0, zr_g1, zr_hIsI, zr_hLsL, zr_hRsR, zr_hIsL, zr_hIsR, zr_hLsI, zr_hLsR, zr_hRsI, zr_hRsL, zr_hNsI, zr_hNsL, zr_hNsR, zr_hZsI, zr_hZsL, zr_hZsR, Int64.le_iff_toInt_le, Int64.lt_iff_toInt_lt, Int32.toInt_toInt64, Int64.reduceToInt, b2_0, b2_01, Classical.not_not]
  refine congrArg (fun q => some (z_i q)) (b2_c ?_)
  rw [hn, i32_pred (by omega)]
  omega
theorem m_isKind (l : Launch) (G : z_G) (d : Nat) (hd : 1 ≤ d) (h : z_H) (a : Int32) (n : Nat) (hn : hI h 14 0 15 = nI n) (hb : n ≤ 100000) : z_MT l G d yX12_isKind cX12_isKind 2 (some .boolean) [z_r 14 0, z_i a] h 0 0 (fun r h' => r = some (z_i (b2 (0 ≤ a.toInt ∧ a.toInt < n))) ∧ h' = h) := by
  refine z_meth 14 false ⟨by decide, rfl, fun q => absurd q (by decide)⟩ (by show 2 ≤ 2; decide) (fun A st => ?_)
  refine st b_X12_isKind_0 _ _ k_X12_isKind_0 _ _ _ _ _ ?_
  simp only [b_X12_isKind_0, zr_T, zr_aload_n, zr_call1, zr_get0, zr_i2l, zr_iconst, zr_iload_n, zr_iret, zr_isub, zr_lconst, zr_rt_a, zr_rt_i, zr_rt_l, zr_rt_n, zr_rt_z, zr_nil, zr_cons, ↓reduceIte, Nat.reduceAdd, Nat.reduceEqDiff, Nat.reduceLeDiff, Nat.reduceMul, Nat.reduceSub, Int32.reduceOfInt, Int64.reduceOfInt, Int64.reduceOfNat, Int64.reduceEq, true_and, and_true, false_and, and_false, or_false, false_or, reduceCtorEq, or_self, and_self, ne_eq, not_false_eq_true, not_true_eq_false, eq_self, Nat.le_refl, Nat.zero_le, zr_eI, zr_eL, zr_eR, zr_pI, zr_pL, zr_pR, zr_pO, zr_pV, zr_pA0, zr_pA, zr_get, zr_put_n, zr_put, zr_rem_n, zr_rem, zr_cat_i, zr_cat_l, zr_cat_q, zr_w_n, zr_w, zr_args_n, zr_args, zr_tl_s, zr_tl_n, zr_f0, zr_f1, zr_f2, zr_f3, zr_g0, zr_g1, zr_hIsI, zr_hLsL, zr_hRsR, zr_hIsL, zr_hIsR, zr_hLsI, zr_hLsR, zr_hRsI, zr_hRsL, zr_hNsI, zr_hNsL, zr_hNsR, zr_hZsI, zr_hZsL, zr_hZsR, Int64.le_iff_toInt_le, Int64.lt_iff_toInt_lt, Int32.toInt_toInt64, Int64.reduceToInt, b2_0, b2_01, Classical.not_not]
  refine cp0 hd lk_X12_177 trivial (m_in l G _ _ _ _ _) (Nat.le_refl _) (Nat.le_refl _) ?_
  simp only [zr_T, zr_iret, zr_rt_a, zr_rt_i, zr_rt_l, zr_rt_n, zr_rt_z, zr_nil, zr_cons, ↓reduceIte, Nat.reduceAdd, Nat.reduceEqDiff, Nat.reduceLeDiff, Nat.reduceMul, Nat.reduceSub, Int32.reduceOfInt, Int64.reduceOfInt, Int64.reduceOfNat, Int64.reduceEq, true_and, and_true, false_and, and_false, or_false, false_or, reduceCtorEq, or_self, and_self, ne_eq, not_false_eq_true, not_true_eq_false, eq_self, Nat.le_refl, Nat.zero_le, zr_eI, zr_eL, zr_eR, zr_pI, zr_pL, zr_pR, zr_pO, zr_pV, zr_pA0, zr_pA, zr_get, zr_put_n, zr_put, zr_rem_n, zr_rem, zr_cat_i, zr_cat_l, zr_cat_q, zr_w_n, zr_w, zr_args_n, zr_args, zr_tl_s, zr_tl_n, zr_f0, zr_f1, zr_f2, zr_f3, zr_g0, zr_g1, zr_hIsI, zr_hLsL, zr_hRsR, zr_hIsL, zr_hIsR, zr_hLsI, zr_hLsR, zr_hRsI, zr_hRsL, zr_hNsI, zr_hNsL, zr_hNsR, zr_hZsI, zr_hZsL, zr_hZsR, Int64.le_iff_toInt_le, Int64.lt_iff_toInt_lt, Int32.toInt_toInt64, Int64.reduceToInt, b2_0, b2_01, Classical.not_not]
  refine congrArg (fun q => some (z_i q)) (b2_c ?_)
  rw [hn, i32_pred (by omega)]
  omega
theorem m_cut (l : Launch) (G : z_G) (d : Nat) (h : z_H) (a : Int32) (v : Int64) : z_MT l G d yX12_cut cX12_cut 3 (some .long) [z_i a, z_l v] h 0 0 (fun r h' => r = some (z_l (if a = 0 then v.toInt32.toInt8.toInt32.toInt64 else if a = 1 then v.toInt32.toInt16.toInt32.toInt64 else if a = 2 then v.toInt32.toInt64 else v)) ∧ h' = h) := by
  refine z_meth 14 false ⟨by decide, rfl, fun q => absurd q (by decide)⟩ (by show 3 ≤ 3; decide) (fun A st => ?_)
  refine st b_X12_cut_0 _ _ k_X12_cut_0 _ _ _ _ _ ?_
  simp only [b_X12_cut_0, zr_cP_ne, zr_goto, zr_i2b, zr_i2l, zr_ifc, zr_iload_n, zr_l2i, zr_lload_n, zr_nil, zr_cons, ↓reduceIte, Nat.reduceAdd, Nat.reduceEqDiff, Nat.reduceLeDiff, Nat.reduceMul, Nat.reduceSub, Int32.reduceOfInt, Int64.reduceOfInt, Int64.reduceOfNat, Int64.reduceEq, true_and, and_true, false_and, and_false, or_false, false_or, reduceCtorEq, or_self, and_self, ne_eq, not_false_eq_true, not_true_eq_false, eq_self, Nat.le_refl, Nat.zero_le, zr_eI, zr_eL, zr_eR, zr_pI, zr_pL, zr_pR, zr_pO, zr_pV, zr_pA0, zr_pA, zr_get, zr_put_n, zr_put, zr_rem_n, zr_rem, zr_cat_i, zr_cat_l, zr_cat_q, zr_w_n, zr_w, zr_args_n, zr_args, zr_tl_s, zr_tl_n, zr_f0, zr_f1, zr_f2, zr_f3, zr_g0, zr_g1, zr_hIsI, zr_hLsL, zr_hRsR, zr_hIsL, zr_hIsR, zr_hLsI, zr_hLsR, zr_hRsI, zr_hRsL, zr_hNsI, zr_hNsL, zr_hNsR, zr_hZsI, zr_hZsL, zr_hZsR, Classical.not_not]
  refine ⟨fun c1 => ?_, fun c1 => ?_⟩
  · refine st b_X12_cut_11 _ _ k_X12_cut_11 _ _ _ _ _ ?_
    simp only [b_X12_cut_11, zr_cP_ne, zr_goto, zr_i2l, zr_i2s, zr_icmp, zr_iconst, zr_iload_n, zr_l2i, zr_lload_n, zr_nil, zr_cons, ↓reduceIte, Nat.reduceAdd, Nat.reduceEqDiff, Nat.reduceLeDiff, Nat.reduceMul, Nat.reduceSub, Int32.reduceOfInt, Int64.reduceOfInt, Int64.reduceOfNat, Int64.reduceEq, true_and, and_true, false_and, and_false, or_false, false_or, reduceCtorEq, or_self, and_self, ne_eq, not_false_eq_true, not_true_eq_false, eq_self, Nat.le_refl, Nat.zero_le, zr_eI, zr_eL, zr_eR, zr_pI, zr_pL, zr_pR, zr_pO, zr_pV, zr_pA0, zr_pA, zr_get, zr_put_n, zr_put, zr_rem_n, zr_rem, zr_cat_i, zr_cat_l, zr_cat_q, zr_w_n, zr_w, zr_args_n, zr_args, zr_tl_s, zr_tl_n, zr_f0, zr_f1, zr_f2, zr_f3, zr_g0, zr_g1, zr_hIsI, zr_hLsL, zr_hRsR, zr_hIsL, zr_hIsR, zr_hLsI, zr_hLsR, zr_hRsI, zr_hRsL, zr_hNsI, zr_hNsL, zr_hNsR, zr_hZsI, zr_hZsL, zr_hZsR, Classical.not_not]
    refine ⟨fun c2 => ?_, fun c2 => ?_⟩
    · refine st b_X12_cut_23 _ _ k_X12_cut_23 _ _ _ _ _ ?_
      simp only [b_X12_cut_23, zr_cP_ne, zr_goto, zr_i2l, zr_icmp, zr_iconst, zr_iload_n, zr_l2i, zr_lload_n, zr_nil, zr_cons, ↓reduceIte, Nat.reduceAdd, Nat.reduceEqDiff, Nat.reduceLeDiff, Nat.reduceMul, Nat.reduceSub, Int32.reduceOfInt, Int64.reduceOfInt, Int64.reduceOfNat, Int64.reduceEq, true_and, and_true, false_and, and_false, or_false, false_or, reduceCtorEq, or_self, and_self, ne_eq, not_false_eq_true, not_true_eq_false, eq_self, Nat.le_refl, Nat.zero_le, zr_eI, zr_eL, zr_eR, zr_pI, zr_pL, zr_pR, zr_pO, zr_pV, zr_pA0, zr_pA, zr_get, zr_put_n, zr_put, zr_rem_n, zr_rem, zr_cat_i, zr_cat_l, zr_cat_q, zr_w_n, zr_w, zr_args_n, zr_args, zr_tl_s, zr_tl_n, zr_f0, zr_f1, zr_f2, zr_f3, zr_g0, zr_g1, zr_hIsI, zr_hLsL, zr_hRsR, zr_hIsL, zr_hIsR, zr_hLsI, zr_hLsR, zr_hRsI, zr_hRsL, zr_hNsI, zr_hNsL, zr_hNsR, zr_hZsI, zr_hZsL, zr_hZsR, Classical.not_not]
      refine ⟨fun c3 => ?_, fun c3 => ?_⟩
      · refine st b_X12_cut_34 _ _ k_X12_cut_34 _ _ _ _ _ ?_
        simp only [b_X12_cut_34, zr_lload_n, zr_nil, zr_cons, ↓reduceIte, Nat.reduceAdd, Nat.reduceEqDiff, Nat.reduceLeDiff, Nat.reduceMul, Nat.reduceSub, Int32.reduceOfInt, Int64.reduceOfInt, Int64.reduceOfNat, Int64.reduceEq, true_and, and_true, false_and, and_false, or_false, false_or, reduceCtorEq, or_self, and_self, ne_eq, not_false_eq_true, not_true_eq_false, eq_self, Nat.le_refl, Nat.zero_le, zr_eI, zr_eL, zr_eR, zr_pI, zr_pL, zr_pR, zr_pO, zr_pV, zr_pA0, zr_pA, zr_get, zr_put_n, zr_put, zr_rem_n, zr_rem, zr_cat_i, zr_cat_l, zr_cat_q, zr_w_n, zr_w, zr_args_n, zr_args, zr_tl_s, zr_tl_n, zr_f0, zr_f1, zr_f2, zr_f3, zr_g0, zr_g1, zr_hIsI, zr_hLsL, zr_hRsR, zr_hIsL, zr_hIsR, zr_hLsI, zr_hLsR, zr_hRsI, zr_hRsL, zr_hNsI, zr_hNsL, zr_hNsR, zr_hZsI, zr_hZsL, zr_hZsR, Classical.not_not]
        refine st b_X12_cut_35 _ _ k_X12_cut_35 _ _ _ _ _ ?_
        simp only [b_X12_cut_35, zr_T, zr_lret, zr_rt_a, zr_rt_i, zr_rt_l, zr_rt_n, zr_rt_z, zr_nil, zr_cons, ↓reduceIte, Nat.reduceAdd, Nat.reduceEqDiff, Nat.reduceLeDiff, Nat.reduceMul, Nat.reduceSub, Int32.reduceOfInt, Int64.reduceOfInt, Int64.reduceOfNat, Int64.reduceEq, true_and, and_true, false_and, and_false, or_false, false_or, reduceCtorEq, or_self, and_self, ne_eq, not_false_eq_true, not_true_eq_false, eq_self, Nat.le_refl, Nat.zero_le, zr_eI, zr_eL, zr_eR, zr_pI, zr_pL, zr_pR, zr_pO, zr_pV, zr_pA0, zr_pA, zr_get, zr_put_n, zr_put, zr_rem_n, zr_rem, zr_cat_i, zr_cat_l, zr_cat_q, zr_w_n, zr_w, zr_args_n, zr_args, zr_tl_s, zr_tl_n, zr_f0, zr_f1, zr_f2, zr_f3, zr_g0, zr_g1, zr_hIsI, zr_hLsL, zr_hRsR, zr_hIsL, zr_hIsR, zr_hLsI, zr_hLsR, zr_hRsI, zr_hRsL, zr_hNsI, zr_hNsL, zr_hNsR, zr_hZsI, zr_hZsL, zr_hZsR, Classical.not_not]
        simp [*]
      · refine st b_X12_cut_35 _ _ k_X12_cut_35 _ _ _ _ _ ?_
        simp only [b_X12_cut_35, zr_T, zr_lret, zr_rt_a, zr_rt_i, zr_rt_l, zr_rt_n, zr_rt_z, zr_nil, zr_cons, ↓reduceIte, Nat.reduceAdd, Nat.reduceEqDiff, Nat.reduceLeDiff, Nat.reduceMul, Nat.reduceSub, Int32.reduceOfInt, Int64.reduceOfInt, Int64.reduceOfNat, Int64.reduceEq, true_and, and_true, false_and, and_false, or_false, false_or, reduceCtorEq, or_self, and_self, ne_eq, not_false_eq_true, not_true_eq_false, eq_self, Nat.le_refl, Nat.zero_le, zr_eI, zr_eL, zr_eR, zr_pI, zr_pL, zr_pR, zr_pO, zr_pV, zr_pA0, zr_pA, zr_get, zr_put_n, zr_put, zr_rem_n, zr_rem, zr_cat_i, zr_cat_l, zr_cat_q, zr_w_n, zr_w, zr_args_n, zr_args, zr_tl_s, zr_tl_n, zr_f0, zr_f1, zr_f2, zr_f3, zr_g0, zr_g1, zr_hIsI, zr_hLsL, zr_hRsR, zr_hIsL, zr_hIsR, zr_hLsI, zr_hLsR, zr_hRsI, zr_hRsL, zr_hNsI, zr_hNsL, zr_hNsR, zr_hZsI, zr_hZsL, zr_hZsR, Classical.not_not]
        simp [*]
    · refine st b_X12_cut_35 _ _ k_X12_cut_35 _ _ _ _ _ ?_
      simp only [b_X12_cut_35, zr_T, zr_lret, zr_rt_a, zr_rt_i, zr_rt_l, zr_rt_n, zr_rt_z, zr_nil, zr_cons, ↓reduceIte, Nat.reduceAdd, Nat.reduceEqDiff, Nat.reduceLeDiff, Nat.reduceMul, Nat.reduceSub, Int32.reduceOfInt, Int64.reduceOfInt, Int64.reduceOfNat, Int64.reduceEq, true_and, and_true, false_and, and_false, or_false, false_or, reduceCtorEq, or_self, and_self, ne_eq, not_false_eq_true, not_true_eq_false, eq_self, Nat.le_refl, Nat.zero_le, zr_eI, zr_eL, zr_eR, zr_pI, zr_pL, zr_pR, zr_pO, zr_pV, zr_pA0, zr_pA, zr_get, zr_put_n, zr_put, zr_rem_n, zr_rem, zr_cat_i, zr_cat_l, zr_cat_q, zr_w_n, zr_w, zr_args_n, zr_args, zr_tl_s, zr_tl_n, zr_f0, zr_f1, zr_f2, zr_f3, zr_g0, zr_g1, zr_hIsI, zr_hLsL, zr_hRsR, zr_hIsL, zr_hIsR, zr_hLsI, zr_hLsR, zr_hRsI, zr_hRsL, zr_hNsI, zr_hNsL, zr_hNsR, zr_hZsI, zr_hZsL, zr_hZsR, Classical.not_not]
      simp [*]
  · refine st b_X12_cut_35 _ _ k_X12_cut_35 _ _ _ _ _ ?_
    simp only [b_X12_cut_35, zr_T, zr_lret, zr_rt_a, zr_rt_i, zr_rt_l, zr_rt_n, zr_rt_z, zr_nil, zr_cons, ↓reduceIte, Nat.reduceAdd, Nat.reduceEqDiff, Nat.reduceLeDiff, Nat.reduceMul, Nat.reduceSub, Int32.reduceOfInt, Int64.reduceOfInt, Int64.reduceOfNat, Int64.reduceEq, true_and, and_true, false_and, and_false, or_false, false_or, reduceCtorEq, or_self, and_self, ne_eq, not_false_eq_true, not_true_eq_false, eq_self, Nat.le_refl, Nat.zero_le, zr_eI, zr_eL, zr_eR, zr_pI, zr_pL, zr_pR, zr_pO, zr_pV, zr_pA0, zr_pA, zr_get, zr_put_n, zr_put, zr_rem_n, zr_rem, zr_cat_i, zr_cat_l, zr_cat_q, zr_w_n, zr_w, zr_args_n, zr_args, zr_tl_s, zr_tl_n, zr_f0, zr_f1, zr_f2, zr_f3, zr_g0, zr_g1, zr_hIsI, zr_hLsL, zr_hRsR, zr_hIsL, zr_hIsR, zr_hLsI, zr_hLsR, zr_hRsI, zr_hRsL, zr_hNsI, zr_hNsL, zr_hNsR, zr_hZsI, zr_hZsL, zr_hZsR, Classical.not_not]
    simp [*]
theorem m_bookOf (l : Launch) (G : z_G) (d : Nat) (h : z_H) (hM : z_MR h) (k : Nat) (hk : k < 6) (v : Int64) : z_MT l G d yX12_bookOf cX12_bookOf 4 (some .long) [z_r 14 0, z_i (nI k), z_l v] h 0 0 (fun r h' => r = some (z_l (v * (hI h 324 0 k).toInt64 / 1000 * (hI h 14 0 5).toInt64 / 1000)) ∧ h' = h) := by
  have ek : (nI k).toNatClampNeg = k := nI_clamp (by omega)
  unfold z_MR at hM
  refine z_meth 14 false ⟨by decide, rfl, fun q => absurd q (by decide)⟩ (by show 4 ≤ 4; decide) (fun A st => ?_)
  refine st b_X12_bookOf_0 _ _ k_X12_bookOf_0 _ _ _ _ _ ?_
  simp only [b_X12_bookOf_0, zr_T, zr_aload_n, zr_get0, zr_get2, zr_i2l, zr_iald, zr_iload_n, zr_ldc2, zr_ldiv, zr_lload_n, zr_lmul, zr_lret, zr_rt_a, zr_rt_i, zr_rt_l, zr_rt_n, zr_rt_z, zr_nil, zr_cons, ↓reduceIte, Nat.reduceAdd, Nat.reduceEqDiff, Nat.reduceLeDiff, Nat.reduceMul, Nat.reduceSub, Int32.reduceOfInt, Int64.reduceOfInt, Int64.reduceOfNat, Int64.reduceEq, true_and, and_true, false_and, and_false, or_false, false_or, reduceCtorEq, or_self, and_self, ne_eq, not_false_eq_true, not_true_eq_false, eq_self, Nat.le_refl, Nat.zero_le, zr_eI, zr_eL, zr_eR, zr_pI, zr_pL, zr_pR, zr_pO, zr_pV, zr_pA0, zr_pA, zr_get, zr_put_n, zr_put, zr_rem_n, zr_rem, zr_cat_i, zr_cat_l, zr_cat_q, zr_w_n, zr_w, zr_args_n, zr_args, zr_tl_s, zr_tl_n, zr_f0, zr_f1, zr_f2, zr_f3, zr_g0, zr_g1, zr_hIsI, zr_hLsL, zr_hRsR, zr_hIsL, zr_hIsR, zr_hLsI, zr_hLsR, zr_hRsI, zr_hRsL, zr_hNsI, zr_hNsL, zr_hNsR, zr_hZsI, zr_hZsL, zr_hZsR, hM, ek, mR_24, aLen_324, aCod_324]
  refine ⟨by first | exact vp_in_nI (by omega) (by omega) | assumption, ?_⟩
  rfl
