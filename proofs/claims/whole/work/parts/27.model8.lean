/-! the model's constructor -/
def S_00 : z_M := (fun _ _ => 0, fun _ _ => 0, fun _ => 0, fun _ => 0)
def S_0 : z_M := (fun q j => if (q = 1 ∧ j < 4) ∨ (q = 28 ∧ j < 24) then -1 else 0, fun _ _ => 0, fun k => if k = 13 then 40 else if k = 12 then 60 else if k = 11 then 30 else if k = 10 then 5 else if k = 9 then 10 else if k = 8 then 3 else if k = 7 then 180 else if k = 6 then 5 else if k = 5 then 1000 else 0, fun _ => 0)
/-- the class's part is as it was; the model's arrays may be new -/
def z_sD (h h' : z_H) : Prop := ∀ K, K < 300 → K ≠ 14 → hI h' K = hI h K ∧ hL h' K = hL h K ∧ hR h' K = hR h K ∧ hZ h' K = hZ h K ∧ hN h' K = hN h K
def Zs (h0 h : z_H) (S : z_M) (R : Nat → Option (Nat × Nat)) : Prop := mv h = S ∧ hR h 14 0 = R ∧ z_sD h0 h
theorem Zs_nw {h0 h : z_H} {S : z_M} {R : Nat → Option (Nat × Nat)} {K k : Nat} (a : Zs h0 h S R) (hk : K = 300 + k) (h1 : mA S k = fun _ => 0) (h2 : mB S k = fun _ => 0) : Zs h0 (z_nw h K) S R := by
  subst hk
  refine ⟨?_, ?_, fun K' q1 q2 => ?_⟩
  · rw [← a.1]
    rw [← a.1] at h1 h2
    refine z_M_ext (fun k' j' => ?_) (fun k' j' => ?_) (fun k' => ?_) (fun k' => ?_)
    · rw [mA_mv, mA_mv, zr_hInw]
      split
      · rename_i q
        have e : k' = k := by omega
        subst e
        exact (congrFun h1 j').symm
      · rfl
    · rw [mB_mv, mB_mv, zr_hLnw]
      split
      · rfl
      · split
        · rename_i q4 q
          have e : k' = k := by omega
          subst e
          have := congrFun h2 j'
          rw [mB_mv, if_neg q4] at this
          exact this.symm
        · rfl
    · rw [mS_mv, mS_mv, zr_hInw, if_neg (show ¬ (14 = 300 + k ∧ 0 = hN h (300 + k)) by omega)]
    · rw [mT_mv, mT_mv, zr_hLnw, if_neg (show ¬ (14 = 300 + k ∧ 0 = hN h (300 + k)) by omega)]
  · rw [zr_hRnwN (by omega)]
    exact a.2.1
  · obtain ⟨b1, b2, b3, b4, b5⟩ := a.2.2 K' q1 q2
    refine ⟨?_, ?_, ?_, ?_, ?_⟩
    · rw [zr_hInwN (by omega), b1]
    · rw [zr_hLnwN (by omega), b2]
    · rw [zr_hRnwN (by omega), b3]
    · rw [← b4]
      funext i
      rw [zr_hZnw, if_neg (by omega)]
    · rw [zr_hNnw, if_neg (by omega), b5]
theorem Zs_sR {h0 h : z_H} {S : z_M} {R : Nat → Option (Nat × Nat)} {k : Nat} {v : Option (Nat × Nat)} (a : Zs h0 h S R) : Zs h0 (sR h 14 0 k v) S (fun j => if j = k then v else R j) := by
  refine ⟨a.1, ?_, fun K' q1 q2 => ?_⟩
  · funext j
    rw [zr_hRsR, a.2.1]
    by_cases e : j = k
    · rw [if_pos ⟨rfl, rfl, e⟩, if_pos e]
    · rw [if_neg (fun q => e q.2.2), if_neg e]
  · obtain ⟨b1, b2, b3, b4, b5⟩ := a.2.2 K' q1 q2
    refine ⟨b1, b2, ?_, b4, b5⟩
    rw [← b3]
    funext i j
    rw [zr_hRsR, if_neg (by omega)]
theorem Zs_I {h0 h : z_H} {K i j : Nat} {v : Int32} (a : z_sD h0 h) (hK : 300 ≤ K ∨ K = 14) : z_sD h0 (sI h K i j v) := fun K' q1 q2 => by
  obtain ⟨b1, b2, b3, b4, b5⟩ := a K' q1 q2
  refine ⟨?_, b2, b3, b4, b5⟩
  rw [← b1]
  funext i' j'
  rw [zr_hIsI, if_neg (by omega)]
theorem Zs_sIa {h0 h : z_H} {S : z_M} {R : Nat → Option (Nat × Nat)} {j : Nat} {v : Int32} (a : Zs h0 h S R) : Zs h0 (sI h 301 0 j v) (uA S 1 j v) R := by
  refine ⟨?_, a.2.1, Zs_I a.2.2 (by decide)⟩
  rw [mx_1, a.1]
theorem Zs_sIs {h0 h : z_H} {S : z_M} {R : Nat → Option (Nat × Nat)} {k : Nat} {v : Int32} (a : Zs h0 h S R) (hk : k ≠ 0) : Zs h0 (sI h 14 0 k v) (uS S k v) R := by
  refine ⟨?_, a.2.1, Zs_I a.2.2 (by decide)⟩
  rw [mv_sIs hk, a.1]
theorem aLen_big {K : Nat} (h : 362 ≤ K) : aLen K = 0 := by
  unfold aLen
  split <;> first | omega | rfl
set_option maxRecDepth 40000 in
set_option maxHeartbeats 4000000 in
theorem m_init (l : Launch) (G : z_G) (d : Nat) (hd : 1 ≤ d) (h : z_H) (hz : ∀ K, 300 ≤ K → K < 400 → hN h K = 0) (e : mv h = S_00) (hr : hR h 14 0 = fun _ => none) : z_MT l G d yX12_init cX12_init 2 none [z_r 14 0] h 44 26090 (fun r h' => r = none ∧ mv h' = S_0 ∧ z_sD h h' ∧ z_MR h') := by
  have nl_4 : nI 4 = 4 := rfl
  have nl_6 : nI 6 = 6 := rfl
  have nl_20 : nI 20 = 20 := rfl
  have nl_24 : nI 24 = 24 := rfl
  have nl_60 : nI 60 = 60 := rfl
  have nl_200 : nI 200 = 200 := rfl
  have nl_240 : nI 240 = 240 := rfl
  have nl_300 : nI 300 = 300 := rfl
  have nl_640 : nI 640 = 640 := rfl
  have nl_2000 : nI 2000 = 2000 := rfl
  have z0 : Zs h h S_00 (fun _ => none) := ⟨e, hr, fun _ _ _ => ⟨rfl, rfl, rfl, rfl, rfl⟩⟩
  refine z_mt2 14 true ⟨by decide, rfl, fun _ => rfl⟩ (by show 1 ≤ 2; decide) (fun A st wk => ?_)
  refine st b_X12_init_0 _ _ k_X12_init_0 _ _ _ _ _ ?_
  simp only [b_X12_init_0, zr_aload_n0, zr_bipush, zr_dup, zr_iast, zr_iconst, zr_newa, zr_obj, zr_put0, zr_put2, zr_sipush, zr_nil, zr_cons, ↓reduceIte, Nat.reduceAdd, Nat.reduceEqDiff, Nat.reduceLeDiff, Nat.reduceMul, Nat.reduceSub, Int32.reduceOfInt, Int64.reduceOfInt, Int64.reduceOfNat, true_and, and_true, false_and, and_false, or_false, false_or, true_or, or_true, Int.reduceEq, reduceCtorEq, or_self, and_self, ne_eq, not_false_eq_true, not_true_eq_false, eq_self, Nat.le_refl, Nat.zero_le, zr_eI, zr_eL, zr_eR, zr_pI, zr_pL, zr_pR, zr_pO, zr_pV, zq_pA0, zq_pA, zr_get, zr_put_n, zr_put, zr_rem_n, zr_rem, zr_cat_i, zr_cat_l, zr_cat_q, zr_w_n, zr_w, zr_args_n, zr_args, zr_tl_s, zr_tl_n, zr_hIsI, zr_hLsL, zr_hRsR, zr_hIsL, zr_hIsR, zr_hLsI, zr_hLsR, zr_hRsI, zr_hRsL, zr_hNsI, zr_hNsL, zr_hNsR, zr_hZsI, zr_hZsL, zr_hZsR, b2_01, Classical.not_not, Int32.toInt_toInt64, Int64.reduceToInt, zc_1000, zc_100, zc_10, zc_9, zc_2, ci_f, hz 301 (by decide) (by decide), hz 302 (by decide) (by decide), hz 303 (by decide) (by decide), hz 304 (by decide) (by decide), hz 322 (by decide) (by decide), hz 323 (by decide) (by decide), hz 324 (by decide) (by decide), hz 325 (by decide) (by decide), hz 326 (by decide) (by decide), hz 327 (by decide) (by decide), hz 328 (by decide) (by decide), hz 329 (by decide) (by decide), hz 330 (by decide) (by decide), hz 331 (by decide) (by decide), hz 332 (by decide) (by decide), hz 333 (by decide) (by decide), hz 334 (by decide) (by decide), hz 335 (by decide) (by decide), hz 336 (by decide) (by decide), hz 337 (by decide) (by decide), hz 338 (by decide) (by decide), hz 339 (by decide) (by decide), hz 340 (by decide) (by decide), hz 341 (by decide) (by decide), hz 342 (by decide) (by decide), hz 343 (by decide) (by decide), hz 344 (by decide) (by decide), hz 345 (by decide) (by decide), hz 346 (by decide) (by decide), hz 347 (by decide) (by decide), hz 348 (by decide) (by decide), hz 349 (by decide) (by decide), hz 350 (by decide) (by decide), hz 351 (by decide) (by decide), hz 352 (by decide) (by decide), hz 353 (by decide) (by decide), hz 354 (by decide) (by decide), hz 355 (by decide) (by decide), hz 356 (by decide) (by decide), hz 357 (by decide) (by decide), hz 358 (by decide) (by decide), hz 359 (by decide) (by decide), hz 360 (by decide) (by decide), hz 361 (by decide) (by decide), aLen_301, aLen_302, aLen_303, aLen_304, aLen_322, aLen_323, aLen_324, aLen_325, aLen_326, aLen_327, aLen_328, aLen_329, aLen_330, aLen_331, aLen_332, aLen_333, aLen_334, aLen_335, aLen_336, aLen_337, aLen_338, aLen_339, aLen_340, aLen_341, aLen_342, aLen_343, aLen_344, aLen_345, aLen_346, aLen_347, aLen_348, aLen_349, aLen_350, aLen_351, aLen_352, aLen_353, aLen_354, aLen_355, aLen_356, aLen_357, aLen_358, aLen_359, aLen_360, aLen_361, aCod_301, nl_4, nl_6, nl_20, nl_24, nl_60, nl_200, nl_240, nl_300, nl_640, nl_2000, zr_hNnw, zr_hNsN]
  repeat (with_reducible refine ⟨by omega, ?_⟩)
  repeat (with_reducible refine ⟨by omega, ?_⟩)
  refine ⟨by first | exact vpi (by decide) | exact vpi (by omega), ?_⟩
  refine ⟨by first | exact vpi (by decide) | exact vpi (by omega), ?_⟩
  refine ⟨by first | exact vpi (by decide) | exact vpi (by omega), ?_⟩
  refine ⟨by first | exact vpi (by decide) | exact vpi (by omega), ?_⟩
  repeat (with_reducible refine ⟨by omega, ?_⟩)
  repeat (with_reducible refine ⟨by omega, ?_⟩)
  repeat (with_reducible refine ⟨by omega, ?_⟩)
  refine st b_X12_init_63 _ _ k_X12_init_63 _ _ _ _ _ ?_
  simp only [b_X12_init_63, zr_aload_n0, zr_bipush, zr_iconst, zr_put0, zr_sipush, zr_nil, zr_cons, ↓reduceIte, Nat.reduceAdd, Nat.reduceEqDiff, Nat.reduceLeDiff, Nat.reduceMul, Nat.reduceSub, Int32.reduceOfInt, Int64.reduceOfInt, Int64.reduceOfNat, true_and, and_true, false_and, and_false, or_false, false_or, true_or, or_true, Int.reduceEq, reduceCtorEq, or_self, and_self, ne_eq, not_false_eq_true, not_true_eq_false, eq_self, Nat.le_refl, Nat.zero_le, zr_eI, zr_eL, zr_eR, zr_pI, zr_pL, zr_pR, zr_pO, zr_pV, zq_pA0, zq_pA, zr_get, zr_put_n, zr_put, zr_rem_n, zr_rem, zr_cat_i, zr_cat_l, zr_cat_q, zr_w_n, zr_w, zr_args_n, zr_args, zr_tl_s, zr_tl_n, zr_hIsI, zr_hLsL, zr_hRsR, zr_hIsL, zr_hIsR, zr_hLsI, zr_hLsR, zr_hRsI, zr_hRsL, zr_hNsI, zr_hNsL, zr_hNsR, zr_hZsI, zr_hZsL, zr_hZsR, b2_01, Classical.not_not, Int32.toInt_toInt64, Int64.reduceToInt, zc_1000, zc_100, zc_10, zc_9, zc_2, ci_f, hz 301 (by decide) (by decide), hz 302 (by decide) (by decide), hz 303 (by decide) (by decide), hz 304 (by decide) (by decide), hz 322 (by decide) (by decide), hz 323 (by decide) (by decide), hz 324 (by decide) (by decide), hz 325 (by decide) (by decide), hz 326 (by decide) (by decide), hz 327 (by decide) (by decide), hz 328 (by decide) (by decide), hz 329 (by decide) (by decide), hz 330 (by decide) (by decide), hz 331 (by decide) (by decide), hz 332 (by decide) (by decide), hz 333 (by decide) (by decide), hz 334 (by decide) (by decide), hz 335 (by decide) (by decide), hz 336 (by decide) (by decide), hz 337 (by decide) (by decide), hz 338 (by decide) (by decide), hz 339 (by decide) (by decide), hz 340 (by decide) (by decide), hz 341 (by decide) (by decide), hz 342 (by decide) (by decide), hz 343 (by decide) (by decide), hz 344 (by decide) (by decide), hz 345 (by decide) (by decide), hz 346 (by decide) (by decide), hz 347 (by decide) (by decide), hz 348 (by decide) (by decide), hz 349 (by decide) (by decide), hz 350 (by decide) (by decide), hz 351 (by decide) (by decide), hz 352 (by decide) (by decide), hz 353 (by decide) (by decide), hz 354 (by decide) (by decide), hz 355 (by decide) (by decide), hz 356 (by decide) (by decide), hz 357 (by decide) (by decide), hz 358 (by decide) (by decide), hz 359 (by decide) (by decide), hz 360 (by decide) (by decide), hz 361 (by decide) (by decide), aLen_301, aLen_302, aLen_303, aLen_304, aLen_322, aLen_323, aLen_324, aLen_325, aLen_326, aLen_327, aLen_328, aLen_329, aLen_330, aLen_331, aLen_332, aLen_333, aLen_334, aLen_335, aLen_336, aLen_337, aLen_338, aLen_339, aLen_340, aLen_341, aLen_342, aLen_343, aLen_344, aLen_345, aLen_346, aLen_347, aLen_348, aLen_349, aLen_350, aLen_351, aLen_352, aLen_353, aLen_354, aLen_355, aLen_356, aLen_357, aLen_358, aLen_359, aLen_360, aLen_361, aCod_301, nl_4, nl_6, nl_20, nl_24, nl_60, nl_200, nl_240, nl_300, nl_640, nl_2000, zr_hNnw, zr_hNsN]
  refine st b_X12_init_98 _ _ k_X12_init_98 _ _ _ _ _ ?_
  simp only [b_X12_init_98, zr_aload_n0, zr_bipush, zr_newa, zr_put0, zr_put2, zr_nil, zr_cons, ↓reduceIte, Nat.reduceAdd, Nat.reduceEqDiff, Nat.reduceLeDiff, Nat.reduceMul, Nat.reduceSub, Int32.reduceOfInt, Int64.reduceOfInt, Int64.reduceOfNat, true_and, and_true, false_and, and_false, or_false, false_or, true_or, or_true, Int.reduceEq, reduceCtorEq, or_self, and_self, ne_eq, not_false_eq_true, not_true_eq_false, eq_self, Nat.le_refl, Nat.zero_le, zr_eI, zr_eL, zr_eR, zr_pI, zr_pL, zr_pR, zr_pO, zr_pV, zq_pA0, zq_pA, zr_get, zr_put_n, zr_put, zr_rem_n, zr_rem, zr_cat_i, zr_cat_l, zr_cat_q, zr_w_n, zr_w, zr_args_n, zr_args, zr_tl_s, zr_tl_n, zr_hIsI, zr_hLsL, zr_hRsR, zr_hIsL, zr_hIsR, zr_hLsI, zr_hLsR, zr_hRsI, zr_hRsL, zr_hNsI, zr_hNsL, zr_hNsR, zr_hZsI, zr_hZsL, zr_hZsR, b2_01, Classical.not_not, Int32.toInt_toInt64, Int64.reduceToInt, zc_1000, zc_100, zc_10, zc_9, zc_2, ci_f, hz 301 (by decide) (by decide), hz 302 (by decide) (by decide), hz 303 (by decide) (by decide), hz 304 (by decide) (by decide), hz 322 (by decide) (by decide), hz 323 (by decide) (by decide), hz 324 (by decide) (by decide), hz 325 (by decide) (by decide), hz 326 (by decide) (by decide), hz 327 (by decide) (by decide), hz 328 (by decide) (by decide), hz 329 (by decide) (by decide), hz 330 (by decide) (by decide), hz 331 (by decide) (by decide), hz 332 (by decide) (by decide), hz 333 (by decide) (by decide), hz 334 (by decide) (by decide), hz 335 (by decide) (by decide), hz 336 (by decide) (by decide), hz 337 (by decide) (by decide), hz 338 (by decide) (by decide), hz 339 (by decide) (by decide), hz 340 (by decide) (by decide), hz 341 (by decide) (by decide), hz 342 (by decide) (by decide), hz 343 (by decide) (by decide), hz 344 (by decide) (by decide), hz 345 (by decide) (by decide), hz 346 (by decide) (by decide), hz 347 (by decide) (by decide), hz 348 (by decide) (by decide), hz 349 (by decide) (by decide), hz 350 (by decide) (by decide), hz 351 (by decide) (by decide), hz 352 (by decide) (by decide), hz 353 (by decide) (by decide), hz 354 (by decide) (by decide), hz 355 (by decide) (by decide), hz 356 (by decide) (by decide), hz 357 (by decide) (by decide), hz 358 (by decide) (by decide), hz 359 (by decide) (by decide), hz 360 (by decide) (by decide), hz 361 (by decide) (by decide), aLen_301, aLen_302, aLen_303, aLen_304, aLen_322, aLen_323, aLen_324, aLen_325, aLen_326, aLen_327, aLen_328, aLen_329, aLen_330, aLen_331, aLen_332, aLen_333, aLen_334, aLen_335, aLen_336, aLen_337, aLen_338, aLen_339, aLen_340, aLen_341, aLen_342, aLen_343, aLen_344, aLen_345, aLen_346, aLen_347, aLen_348, aLen_349, aLen_350, aLen_351, aLen_352, aLen_353, aLen_354, aLen_355, aLen_356, aLen_357, aLen_358, aLen_359, aLen_360, aLen_361, aCod_301, nl_4, nl_6, nl_20, nl_24, nl_60, nl_200, nl_240, nl_300, nl_640, nl_2000, zr_hNnw, zr_hNsN]
  repeat (with_reducible refine ⟨by omega, ?_⟩)
  repeat (with_reducible refine ⟨by omega, ?_⟩)
  repeat (with_reducible refine ⟨by omega, ?_⟩)
  repeat (with_reducible refine ⟨by omega, ?_⟩)
  repeat (with_reducible refine ⟨by omega, ?_⟩)
  refine st b_X12_init_144 _ _ k_X12_init_144 _ _ _ _ _ ?_
  simp only [b_X12_init_144, zr_aload_n0, zr_bipush, zr_newa, zr_put2, zr_sipush, zr_nil, zr_cons, ↓reduceIte, Nat.reduceAdd, Nat.reduceEqDiff, Nat.reduceLeDiff, Nat.reduceMul, Nat.reduceSub, Int32.reduceOfInt, Int64.reduceOfInt, Int64.reduceOfNat, true_and, and_true, false_and, and_false, or_false, false_or, true_or, or_true, Int.reduceEq, reduceCtorEq, or_self, and_self, ne_eq, not_false_eq_true, not_true_eq_false, eq_self, Nat.le_refl, Nat.zero_le, zr_eI, zr_eL, zr_eR, zr_pI, zr_pL, zr_pR, zr_pO, zr_pV, zq_pA0, zq_pA, zr_get, zr_put_n, zr_put, zr_rem_n, zr_rem, zr_cat_i, zr_cat_l, zr_cat_q, zr_w_n, zr_w, zr_args_n, zr_args, zr_tl_s, zr_tl_n, zr_hIsI, zr_hLsL, zr_hRsR, zr_hIsL, zr_hIsR, zr_hLsI, zr_hLsR, zr_hRsI, zr_hRsL, zr_hNsI, zr_hNsL, zr_hNsR, zr_hZsI, zr_hZsL, zr_hZsR, b2_01, Classical.not_not, Int32.toInt_toInt64, Int64.reduceToInt, zc_1000, zc_100, zc_10, zc_9, zc_2, ci_f, hz 301 (by decide) (by decide), hz 302 (by decide) (by decide), hz 303 (by decide) (by decide), hz 304 (by decide) (by decide), hz 322 (by decide) (by decide), hz 323 (by decide) (by decide), hz 324 (by decide) (by decide), hz 325 (by decide) (by decide), hz 326 (by decide) (by decide), hz 327 (by decide) (by decide), hz 328 (by decide) (by decide), hz 329 (by decide) (by decide), hz 330 (by decide) (by decide), hz 331 (by decide) (by decide), hz 332 (by decide) (by decide), hz 333 (by decide) (by decide), hz 334 (by decide) (by decide), hz 335 (by decide) (by decide), hz 336 (by decide) (by decide), hz 337 (by decide) (by decide), hz 338 (by decide) (by decide), hz 339 (by decide) (by decide), hz 340 (by decide) (by decide), hz 341 (by decide) (by decide), hz 342 (by decide) (by decide), hz 343 (by decide) (by decide), hz 344 (by decide) (by decide), hz 345 (by decide) (by decide), hz 346 (by decide) (by decide), hz 347 (by decide) (by decide), hz 348 (by decide) (by decide), hz 349 (by decide) (by decide), hz 350 (by decide) (by decide), hz 351 (by decide) (by decide), hz 352 (by decide) (by decide), hz 353 (by decide) (by decide), hz 354 (by decide) (by decide), hz 355 (by decide) (by decide), hz 356 (by decide) (by decide), hz 357 (by decide) (by decide), hz 358 (by decide) (by decide), hz 359 (by decide) (by decide), hz 360 (by decide) (by decide), hz 361 (by decide) (by decide), aLen_301, aLen_302, aLen_303, aLen_304, aLen_322, aLen_323, aLen_324, aLen_325, aLen_326, aLen_327, aLen_328, aLen_329, aLen_330, aLen_331, aLen_332, aLen_333, aLen_334, aLen_335, aLen_336, aLen_337, aLen_338, aLen_339, aLen_340, aLen_341, aLen_342, aLen_343, aLen_344, aLen_345, aLen_346, aLen_347, aLen_348, aLen_349, aLen_350, aLen_351, aLen_352, aLen_353, aLen_354, aLen_355, aLen_356, aLen_357, aLen_358, aLen_359, aLen_360, aLen_361, aCod_301, nl_4, nl_6, nl_20, nl_24, nl_60, nl_200, nl_240, nl_300, nl_640, nl_2000, zr_hNnw, zr_hNsN]
  repeat (with_reducible refine ⟨by omega, ?_⟩)
  repeat (with_reducible refine ⟨by omega, ?_⟩)
  repeat (with_reducible refine ⟨by omega, ?_⟩)
  repeat (with_reducible refine ⟨by omega, ?_⟩)
  repeat (with_reducible refine ⟨by omega, ?_⟩)
  repeat (with_reducible refine ⟨by omega, ?_⟩)
  refine st b_X12_init_195 _ _ k_X12_init_195 _ _ _ _ _ ?_
  simp only [b_X12_init_195, zr_aload_n0, zr_newa, zr_put2, zr_sipush, zr_nil, zr_cons, ↓reduceIte, Nat.reduceAdd, Nat.reduceEqDiff, Nat.reduceLeDiff, Nat.reduceMul, Nat.reduceSub, Int32.reduceOfInt, Int64.reduceOfInt, Int64.reduceOfNat, true_and, and_true, false_and, and_false, or_false, false_or, true_or, or_true, Int.reduceEq, reduceCtorEq, or_self, and_self, ne_eq, not_false_eq_true, not_true_eq_false, eq_self, Nat.le_refl, Nat.zero_le, zr_eI, zr_eL, zr_eR, zr_pI, zr_pL, zr_pR, zr_pO, zr_pV, zq_pA0, zq_pA, zr_get, zr_put_n, zr_put, zr_rem_n, zr_rem, zr_cat_i, zr_cat_l, zr_cat_q, zr_w_n, zr_w, zr_args_n, zr_args, zr_tl_s, zr_tl_n, zr_hIsI, zr_hLsL, zr_hRsR, zr_hIsL, zr_hIsR, zr_hLsI, zr_hLsR, zr_hRsI, zr_hRsL, zr_hNsI, zr_hNsL, zr_hNsR, zr_hZsI, zr_hZsL, zr_hZsR, b2_01, Classical.not_not, Int32.toInt_toInt64, Int64.reduceToInt, zc_1000, zc_100, zc_10, zc_9, zc_2, ci_f, hz 301 (by decide) (by decide), hz 302 (by decide) (by decide), hz 303 (by decide) (by decide), hz 304 (by decide) (by decide), hz 322 (by decide) (by decide), hz 323 (by decide) (by decide), hz 324 (by decide) (by decide), hz 325 (by decide) (by decide), hz 326 (by decide) (by decide), hz 327 (by decide) (by decide), hz 328 (by decide) (by decide), hz 329 (by decide) (by decide), hz 330 (by decide) (by decide), hz 331 (by decide) (by decide), hz 332 (by decide) (by decide), hz 333 (by decide) (by decide), hz 334 (by decide) (by decide), hz 335 (by decide) (by decide), hz 336 (by decide) (by decide), hz 337 (by decide) (by decide), hz 338 (by decide) (by decide), hz 339 (by decide) (by decide), hz 340 (by decide) (by decide), hz 341 (by decide) (by decide), hz 342 (by decide) (by decide), hz 343 (by decide) (by decide), hz 344 (by decide) (by decide), hz 345 (by decide) (by decide), hz 346 (by decide) (by decide), hz 347 (by decide) (by decide), hz 348 (by decide) (by decide), hz 349 (by decide) (by decide), hz 350 (by decide) (by decide), hz 351 (by decide) (by decide), hz 352 (by decide) (by decide), hz 353 (by decide) (by decide), hz 354 (by decide) (by decide), hz 355 (by decide) (by decide), hz 356 (by decide) (by decide), hz 357 (by decide) (by decide), hz 358 (by decide) (by decide), hz 359 (by decide) (by decide), hz 360 (by decide) (by decide), hz 361 (by decide) (by decide), aLen_301, aLen_302, aLen_303, aLen_304, aLen_322, aLen_323, aLen_324, aLen_325, aLen_326, aLen_327, aLen_328, aLen_329, aLen_330, aLen_331, aLen_332, aLen_333, aLen_334, aLen_335, aLen_336, aLen_337, aLen_338, aLen_339, aLen_340, aLen_341, aLen_342, aLen_343, aLen_344, aLen_345, aLen_346, aLen_347, aLen_348, aLen_349, aLen_350, aLen_351, aLen_352, aLen_353, aLen_354, aLen_355, aLen_356, aLen_357, aLen_358, aLen_359, aLen_360, aLen_361, aCod_301, nl_4, nl_6, nl_20, nl_24, nl_60, nl_200, nl_240, nl_300, nl_640, nl_2000, zr_hNnw, zr_hNsN]
  repeat (with_reducible refine ⟨by omega, ?_⟩)
  repeat (with_reducible refine ⟨by omega, ?_⟩)
  repeat (with_reducible refine ⟨by omega, ?_⟩)
  repeat (with_reducible refine ⟨by omega, ?_⟩)
  repeat (with_reducible refine ⟨by omega, ?_⟩)
  repeat (with_reducible refine ⟨by omega, ?_⟩)
  refine st b_X12_init_249 _ _ k_X12_init_249 _ _ _ _ _ ?_
  simp only [b_X12_init_249, zr_aload_n0, zr_newa, zr_put2, zr_sipush, zr_nil, zr_cons, ↓reduceIte, Nat.reduceAdd, Nat.reduceEqDiff, Nat.reduceLeDiff, Nat.reduceMul, Nat.reduceSub, Int32.reduceOfInt, Int64.reduceOfInt, Int64.reduceOfNat, true_and, and_true, false_and, and_false, or_false, false_or, true_or, or_true, Int.reduceEq, reduceCtorEq, or_self, and_self, ne_eq, not_false_eq_true, not_true_eq_false, eq_self, Nat.le_refl, Nat.zero_le, zr_eI, zr_eL, zr_eR, zr_pI, zr_pL, zr_pR, zr_pO, zr_pV, zq_pA0, zq_pA, zr_get, zr_put_n, zr_put, zr_rem_n, zr_rem, zr_cat_i, zr_cat_l, zr_cat_q, zr_w_n, zr_w, zr_args_n, zr_args, zr_tl_s, zr_tl_n, zr_hIsI, zr_hLsL, zr_hRsR, zr_hIsL, zr_hIsR, zr_hLsI, zr_hLsR, zr_hRsI, zr_hRsL, zr_hNsI, zr_hNsL, zr_hNsR, zr_hZsI, zr_hZsL, zr_hZsR, b2_01, Classical.not_not, Int32.toInt_toInt64, Int64.reduceToInt, zc_1000, zc_100, zc_10, zc_9, zc_2, ci_f, hz 301 (by decide) (by decide), hz 302 (by decide) (by decide), hz 303 (by decide) (by decide), hz 304 (by decide) (by decide), hz 322 (by decide) (by decide), hz 323 (by decide) (by decide), hz 324 (by decide) (by decide), hz 325 (by decide) (by decide), hz 326 (by decide) (by decide), hz 327 (by decide) (by decide), hz 328 (by decide) (by decide), hz 329 (by decide) (by decide), hz 330 (by decide) (by decide), hz 331 (by decide) (by decide), hz 332 (by decide) (by decide), hz 333 (by decide) (by decide), hz 334 (by decide) (by decide), hz 335 (by decide) (by decide), hz 336 (by decide) (by decide), hz 337 (by decide) (by decide), hz 338 (by decide) (by decide), hz 339 (by decide) (by decide), hz 340 (by decide) (by decide), hz 341 (by decide) (by decide), hz 342 (by decide) (by decide), hz 343 (by decide) (by decide), hz 344 (by decide) (by decide), hz 345 (by decide) (by decide), hz 346 (by decide) (by decide), hz 347 (by decide) (by decide), hz 348 (by decide) (by decide), hz 349 (by decide) (by decide), hz 350 (by decide) (by decide), hz 351 (by decide) (by decide), hz 352 (by decide) (by decide), hz 353 (by decide) (by decide), hz 354 (by decide) (by decide), hz 355 (by decide) (by decide), hz 356 (by decide) (by decide), hz 357 (by decide) (by decide), hz 358 (by decide) (by decide), hz 359 (by decide) (by decide), hz 360 (by decide) (by decide), hz 361 (by decide) (by decide), aLen_301, aLen_302, aLen_303, aLen_304, aLen_322, aLen_323, aLen_324, aLen_325, aLen_326, aLen_327, aLen_328, aLen_329, aLen_330, aLen_331, aLen_332, aLen_333, aLen_334, aLen_335, aLen_336, aLen_337, aLen_338, aLen_339, aLen_340, aLen_341, aLen_342, aLen_343, aLen_344, aLen_345, aLen_346, aLen_347, aLen_348, aLen_349, aLen_350, aLen_351, aLen_352, aLen_353, aLen_354, aLen_355, aLen_356, aLen_357, aLen_358, aLen_359, aLen_360, aLen_361, aCod_301, nl_4, nl_6, nl_20, nl_24, nl_60, nl_200, nl_240, nl_300, nl_640, nl_2000, zr_hNnw, zr_hNsN]
  repeat (with_reducible refine ⟨by omega, ?_⟩)
  repeat (with_reducible refine ⟨by omega, ?_⟩)
  repeat (with_reducible refine ⟨by omega, ?_⟩)
  repeat (with_reducible refine ⟨by omega, ?_⟩)
  repeat (with_reducible refine ⟨by omega, ?_⟩)
  repeat (with_reducible refine ⟨by omega, ?_⟩)
  refine st b_X12_init_303 _ _ k_X12_init_303 _ _ _ _ _ ?_
  simp only [b_X12_init_303, zr_aload_n0, zr_newa, zr_put2, zr_sipush, zr_nil, zr_cons, ↓reduceIte, Nat.reduceAdd, Nat.reduceEqDiff, Nat.reduceLeDiff, Nat.reduceMul, Nat.reduceSub, Int32.reduceOfInt, Int64.reduceOfInt, Int64.reduceOfNat, true_and, and_true, false_and, and_false, or_false, false_or, true_or, or_true, Int.reduceEq, reduceCtorEq, or_self, and_self, ne_eq, not_false_eq_true, not_true_eq_false, eq_self, Nat.le_refl, Nat.zero_le, zr_eI, zr_eL, zr_eR, zr_pI, zr_pL, zr_pR, zr_pO, zr_pV, zq_pA0, zq_pA, zr_get, zr_put_n, zr_put, zr_rem_n, zr_rem, zr_cat_i, zr_cat_l, zr_cat_q, zr_w_n, zr_w, zr_args_n, zr_args, zr_tl_s, zr_tl_n, zr_hIsI, zr_hLsL, zr_hRsR, zr_hIsL, zr_hIsR, zr_hLsI, zr_hLsR, zr_hRsI, zr_hRsL, zr_hNsI, zr_hNsL, zr_hNsR, zr_hZsI, zr_hZsL, zr_hZsR, b2_01, Classical.not_not, Int32.toInt_toInt64, Int64.reduceToInt, zc_1000, zc_100, zc_10, zc_9, zc_2, ci_f, hz 301 (by decide) (by decide), hz 302 (by decide) (by decide), hz 303 (by decide) (by decide), hz 304 (by decide) (by decide), hz 322 (by decide) (by decide), hz 323 (by decide) (by decide), hz 324 (by decide) (by decide), hz 325 (by decide) (by decide), hz 326 (by decide) (by decide), hz 327 (by decide) (by decide), hz 328 (by decide) (by decide), hz 329 (by decide) (by decide), hz 330 (by decide) (by decide), hz 331 (by decide) (by decide), hz 332 (by decide) (by decide), hz 333 (by decide) (by decide), hz 334 (by decide) (by decide), hz 335 (by decide) (by decide), hz 336 (by decide) (by decide), hz 337 (by decide) (by decide), hz 338 (by decide) (by decide), hz 339 (by decide) (by decide), hz 340 (by decide) (by decide), hz 341 (by decide) (by decide), hz 342 (by decide) (by decide), hz 343 (by decide) (by decide), hz 344 (by decide) (by decide), hz 345 (by decide) (by decide), hz 346 (by decide) (by decide), hz 347 (by decide) (by decide), hz 348 (by decide) (by decide), hz 349 (by decide) (by decide), hz 350 (by decide) (by decide), hz 351 (by decide) (by decide), hz 352 (by decide) (by decide), hz 353 (by decide) (by decide), hz 354 (by decide) (by decide), hz 355 (by decide) (by decide), hz 356 (by decide) (by decide), hz 357 (by decide) (by decide), hz 358 (by decide) (by decide), hz 359 (by decide) (by decide), hz 360 (by decide) (by decide), hz 361 (by decide) (by decide), aLen_301, aLen_302, aLen_303, aLen_304, aLen_322, aLen_323, aLen_324, aLen_325, aLen_326, aLen_327, aLen_328, aLen_329, aLen_330, aLen_331, aLen_332, aLen_333, aLen_334, aLen_335, aLen_336, aLen_337, aLen_338, aLen_339, aLen_340, aLen_341, aLen_342, aLen_343, aLen_344, aLen_345, aLen_346, aLen_347, aLen_348, aLen_349, aLen_350, aLen_351, aLen_352, aLen_353, aLen_354, aLen_355, aLen_356, aLen_357, aLen_358, aLen_359, aLen_360, aLen_361, aCod_301, nl_4, nl_6, nl_20, nl_24, nl_60, nl_200, nl_240, nl_300, nl_640, nl_2000, zr_hNnw, zr_hNsN]
  repeat (with_reducible refine ⟨by omega, ?_⟩)
  repeat (with_reducible refine ⟨by omega, ?_⟩)
  repeat (with_reducible refine ⟨by omega, ?_⟩)
  repeat (with_reducible refine ⟨by omega, ?_⟩)
  repeat (with_reducible refine ⟨by omega, ?_⟩)
  repeat (with_reducible refine ⟨by omega, ?_⟩)
  refine st b_X12_init_357 _ _ k_X12_init_357 _ _ _ _ _ ?_
  simp only [b_X12_init_357, zr_aload_n0, zr_newa, zr_put2, zr_sipush, zr_nil, zr_cons, ↓reduceIte, Nat.reduceAdd, Nat.reduceEqDiff, Nat.reduceLeDiff, Nat.reduceMul, Nat.reduceSub, Int32.reduceOfInt, Int64.reduceOfInt, Int64.reduceOfNat, true_and, and_true, false_and, and_false, or_false, false_or, true_or, or_true, Int.reduceEq, reduceCtorEq, or_self, and_self, ne_eq, not_false_eq_true, not_true_eq_false, eq_self, Nat.le_refl, Nat.zero_le, zr_eI, zr_eL, zr_eR, zr_pI, zr_pL, zr_pR, zr_pO, zr_pV, zq_pA0, zq_pA, zr_get, zr_put_n, zr_put, zr_rem_n, zr_rem, zr_cat_i, zr_cat_l, zr_cat_q, zr_w_n, zr_w, zr_args_n, zr_args, zr_tl_s, zr_tl_n, zr_hIsI, zr_hLsL, zr_hRsR, zr_hIsL, zr_hIsR, zr_hLsI, zr_hLsR, zr_hRsI, zr_hRsL, zr_hNsI, zr_hNsL, zr_hNsR, zr_hZsI, zr_hZsL, zr_hZsR, b2_01, Classical.not_not, Int32.toInt_toInt64, Int64.reduceToInt, zc_1000, zc_100, zc_10, zc_9, zc_2, ci_f, hz 301 (by decide) (by decide), hz 302 (by decide) (by decide), hz 303 (by decide) (by decide), hz 304 (by decide) (by decide), hz 322 (by decide) (by decide), hz 323 (by decide) (by decide), hz 324 (by decide) (by decide), hz 325 (by decide) (by decide), hz 326 (by decide) (by decide), hz 327 (by decide) (by decide), hz 328 (by decide) (by decide), hz 329 (by decide) (by decide), hz 330 (by decide) (by decide), hz 331 (by decide) (by decide), hz 332 (by decide) (by decide), hz 333 (by decide) (by decide), hz 334 (by decide) (by decide), hz 335 (by decide) (by decide), hz 336 (by decide) (by decide), hz 337 (by decide) (by decide), hz 338 (by decide) (by decide), hz 339 (by decide) (by decide), hz 340 (by decide) (by decide), hz 341 (by decide) (by decide), hz 342 (by decide) (by decide), hz 343 (by decide) (by decide), hz 344 (by decide) (by decide), hz 345 (by decide) (by decide), hz 346 (by decide) (by decide), hz 347 (by decide) (by decide), hz 348 (by decide) (by decide), hz 349 (by decide) (by decide), hz 350 (by decide) (by decide), hz 351 (by decide) (by decide), hz 352 (by decide) (by decide), hz 353 (by decide) (by decide), hz 354 (by decide) (by decide), hz 355 (by decide) (by decide), hz 356 (by decide) (by decide), hz 357 (by decide) (by decide), hz 358 (by decide) (by decide), hz 359 (by decide) (by decide), hz 360 (by decide) (by decide), hz 361 (by decide) (by decide), aLen_301, aLen_302, aLen_303, aLen_304, aLen_322, aLen_323, aLen_324, aLen_325, aLen_326, aLen_327, aLen_328, aLen_329, aLen_330, aLen_331, aLen_332, aLen_333, aLen_334, aLen_335, aLen_336, aLen_337, aLen_338, aLen_339, aLen_340, aLen_341, aLen_342, aLen_343, aLen_344, aLen_345, aLen_346, aLen_347, aLen_348, aLen_349, aLen_350, aLen_351, aLen_352, aLen_353, aLen_354, aLen_355, aLen_356, aLen_357, aLen_358, aLen_359, aLen_360, aLen_361, aCod_301, nl_4, nl_6, nl_20, nl_24, nl_60, nl_200, nl_240, nl_300, nl_640, nl_2000, zr_hNnw, zr_hNsN]
  repeat (with_reducible refine ⟨by omega, ?_⟩)
  repeat (with_reducible refine ⟨by omega, ?_⟩)
  repeat (with_reducible refine ⟨by omega, ?_⟩)
  repeat (with_reducible refine ⟨by omega, ?_⟩)
  repeat (with_reducible refine ⟨by omega, ?_⟩)
  repeat (with_reducible refine ⟨by omega, ?_⟩)
  refine st b_X12_init_411 _ _ k_X12_init_411 _ _ _ _ _ ?_
  simp only [b_X12_init_411, zr_aload_n0, zr_bipush, zr_iconst, zr_istore_n1, zr_newa, zr_put2, zr_sipush, zr_nil, zr_cons, ↓reduceIte, Nat.reduceAdd, Nat.reduceEqDiff, Nat.reduceLeDiff, Nat.reduceMul, Nat.reduceSub, Int32.reduceOfInt, Int64.reduceOfInt, Int64.reduceOfNat, true_and, and_true, false_and, and_false, or_false, false_or, true_or, or_true, Int.reduceEq, reduceCtorEq, or_self, and_self, ne_eq, not_false_eq_true, not_true_eq_false, eq_self, Nat.le_refl, Nat.zero_le, zr_eI, zr_eL, zr_eR, zr_pI, zr_pL, zr_pR, zr_pO, zr_pV, zq_pA0, zq_pA, zr_get, zr_put_n, zr_put, zr_rem_n, zr_rem, zr_cat_i, zr_cat_l, zr_cat_q, zr_w_n, zr_w, zr_args_n, zr_args, zr_tl_s, zr_tl_n, zr_hIsI, zr_hLsL, zr_hRsR, zr_hIsL, zr_hIsR, zr_hLsI, zr_hLsR, zr_hRsI, zr_hRsL, zr_hNsI, zr_hNsL, zr_hNsR, zr_hZsI, zr_hZsL, zr_hZsR, b2_01, Classical.not_not, Int32.toInt_toInt64, Int64.reduceToInt, zc_1000, zc_100, zc_10, zc_9, zc_2, ci_f, hz 301 (by decide) (by decide), hz 302 (by decide) (by decide), hz 303 (by decide) (by decide), hz 304 (by decide) (by decide), hz 322 (by decide) (by decide), hz 323 (by decide) (by decide), hz 324 (by decide) (by decide), hz 325 (by decide) (by decide), hz 326 (by decide) (by decide), hz 327 (by decide) (by decide), hz 328 (by decide) (by decide), hz 329 (by decide) (by decide), hz 330 (by decide) (by decide), hz 331 (by decide) (by decide), hz 332 (by decide) (by decide), hz 333 (by decide) (by decide), hz 334 (by decide) (by decide), hz 335 (by decide) (by decide), hz 336 (by decide) (by decide), hz 337 (by decide) (by decide), hz 338 (by decide) (by decide), hz 339 (by decide) (by decide), hz 340 (by decide) (by decide), hz 341 (by decide) (by decide), hz 342 (by decide) (by decide), hz 343 (by decide) (by decide), hz 344 (by decide) (by decide), hz 345 (by decide) (by decide), hz 346 (by decide) (by decide), hz 347 (by decide) (by decide), hz 348 (by decide) (by decide), hz 349 (by decide) (by decide), hz 350 (by decide) (by decide), hz 351 (by decide) (by decide), hz 352 (by decide) (by decide), hz 353 (by decide) (by decide), hz 354 (by decide) (by decide), hz 355 (by decide) (by decide), hz 356 (by decide) (by decide), hz 357 (by decide) (by decide), hz 358 (by decide) (by decide), hz 359 (by decide) (by decide), hz 360 (by decide) (by decide), hz 361 (by decide) (by decide), aLen_301, aLen_302, aLen_303, aLen_304, aLen_322, aLen_323, aLen_324, aLen_325, aLen_326, aLen_327, aLen_328, aLen_329, aLen_330, aLen_331, aLen_332, aLen_333, aLen_334, aLen_335, aLen_336, aLen_337, aLen_338, aLen_339, aLen_340, aLen_341, aLen_342, aLen_343, aLen_344, aLen_345, aLen_346, aLen_347, aLen_348, aLen_349, aLen_350, aLen_351, aLen_352, aLen_353, aLen_354, aLen_355, aLen_356, aLen_357, aLen_358, aLen_359, aLen_360, aLen_361, aCod_301, nl_4, nl_6, nl_20, nl_24, nl_60, nl_200, nl_240, nl_300, nl_640, nl_2000, zr_hNnw, zr_hNsN]
  repeat (with_reducible refine ⟨by omega, ?_⟩)
  repeat (with_reducible refine ⟨by omega, ?_⟩)
  repeat (with_reducible refine ⟨by omega, ?_⟩)
  repeat (with_reducible refine ⟨by omega, ?_⟩)
  repeat (with_reducible refine ⟨by omega, ?_⟩)
  have key : ∀ H : z_H, mv H = (uS (uS (uS (uS (uS (uS (uS (uS (uS (uA (uA (uA (uA S_00 1 0 (-1)) 1 1 (-1)) 1 2 (-1)) 1 3 (-1)) 5 1000) 6 5) 7 180) 8 3) 9 10) 10 5) 11 30) 12 60) 13 40) → hR H 14 0 = mR → z_sD h H → A 456 [(0, z_r 14 0), (1, z_i 0)] [] H 44 26090 := by
    intro H e1 hr1 sd1
    refine (show ∀ i, i ≤ 24 → ∀ h' : z_H, mv h' = ((fun q j => if (q = 1 ∧ j < 4) ∨ (q = 28 ∧ j < i) then -1 else 0, fun _ _ => 0, S_0.2.2) : z_M) → hR h' 14 0 = mR → z_sD h h' → A 456 [(0, z_r 14 0), (1, z_i (nI i))] [] h' 44 26090 from z_loop (fun i hi ih => ?_)) 0 (Nat.zero_le _) H ?_ hr1 sd1
    · intro h' e2 hr2 sd2
      have ti := toIntS (show i < 2000000000 by omega)
      have ki := nI_clampS (show i < 2000000000 by omega)
      refine st b_X12_init_456 _ _ k_X12_init_456 _ _ _ _ _ ?_
      simp only [b_X12_init_456, zr_aload_n0, zr_bipush, zr_cP_ge, zr_get2, zr_goto, zr_iast, zr_icmp, zr_iconst, zr_iinc, zr_iload_n1, zr_nil, zr_cons, ↓reduceIte, Nat.reduceAdd, Nat.reduceEqDiff, Nat.reduceLeDiff, Nat.reduceMul, Nat.reduceSub, Int32.reduceOfInt, Int64.reduceOfInt, Int64.reduceOfNat, true_and, and_true, false_and, and_false, or_false, false_or, true_or, or_true, Int.reduceEq, reduceCtorEq, or_self, and_self, ne_eq, not_false_eq_true, not_true_eq_false, eq_self, Nat.le_refl, Nat.zero_le, zr_eI, zr_eL, zr_eR, zr_pI, zr_pL, zr_pR, zr_pO, zr_pV, zq_pA0, zq_pA, zr_get, zr_put_n, zr_put, zr_rem_n, zr_rem, zr_cat_i, zr_cat_l, zr_cat_q, zr_w_n, zr_w, zr_args_n, zr_args, zr_tl_s, zr_tl_n, zr_hIsI, zr_hLsL, zr_hRsR, zr_hIsL, zr_hIsR, zr_hLsI, zr_hLsR, zr_hRsI, zr_hRsL, zr_hNsI, zr_hNsL, zr_hNsR, zr_hZsI, zr_hZsL, zr_hZsR, b2_01, Classical.not_not, Int32.toInt_toInt64, Int64.reduceToInt, zc_1000, zc_100, zc_10, zc_9, zc_2, ci_f, hr2, mR_28, aLen_328, aCod_328, ki]
      refine ⟨fun qc21 => ?_, fun qc21 => ?_⟩
      · try simp only [b2_0, Classical.not_not] at qc21
        try simp only [Int64.le_iff_toInt_le, Int64.lt_iff_toInt_lt, Int32.lt_iff_toInt_lt, Int32.le_iff_toInt_le, Int32.toInt_toInt64, Int64.reduceToInt, Int32.reduceToInt, Int.reduceNeg, Classical.not_not, i32e, l_add] at qc21
        refine st b_X12_init_475 _ _ k_X12_init_475 _ _ _ _ _ ?_
        simp only [b_X12_init_475, zr_T, zr_ret, zr_rt_a, zr_rt_i, zr_rt_l, zr_rt_n, zr_rt_z, zr_nil, zr_cons, ↓reduceIte, Nat.reduceAdd, Nat.reduceEqDiff, Nat.reduceLeDiff, Nat.reduceMul, Nat.reduceSub, Int32.reduceOfInt, Int64.reduceOfInt, Int64.reduceOfNat, true_and, and_true, false_and, and_false, or_false, false_or, true_or, or_true, Int.reduceEq, reduceCtorEq, or_self, and_self, ne_eq, not_false_eq_true, not_true_eq_false, eq_self, Nat.le_refl, Nat.zero_le, zr_eI, zr_eL, zr_eR, zr_pI, zr_pL, zr_pR, zr_pO, zr_pV, zq_pA0, zq_pA, zr_get, zr_put_n, zr_put, zr_rem_n, zr_rem, zr_cat_i, zr_cat_l, zr_cat_q, zr_w_n, zr_w, zr_args_n, zr_args, zr_tl_s, zr_tl_n, zr_hIsI, zr_hLsL, zr_hRsR, zr_hIsL, zr_hIsR, zr_hLsI, zr_hLsR, zr_hRsI, zr_hRsL, zr_hNsI, zr_hNsL, zr_hNsR, zr_hZsI, zr_hZsL, zr_hZsR, b2_01, Classical.not_not, Int32.toInt_toInt64, Int64.reduceToInt, zc_1000, zc_100, zc_10, zc_9, zc_2, ci_f, hr2, mR_28, aLen_328, aCod_328, ki]
        have ei : i = 24 := by omega
        subst ei
        exact ⟨e2, sd2, hr2⟩
      · try simp only [b2_0, Classical.not_not] at qc21
        try simp only [Int64.le_iff_toInt_le, Int64.lt_iff_toInt_lt, Int32.lt_iff_toInt_lt, Int32.le_iff_toInt_le, Int32.toInt_toInt64, Int64.reduceToInt, Int32.reduceToInt, Int.reduceNeg, Classical.not_not, i32e, l_add] at qc21
        refine ⟨by first | exact vpi (by omega) | with_reducible exact vp_in_nI (by omega) (by omega), ?_⟩
        rw [nI_1]
        refine ih (by omega) _ ?_ hr2 (Zs_I sd2 (by decide))
        rw [mx_28, e2]
        refine z_M_ext (fun q j => ?_) (fun q j => rfl) (fun k => rfl) (fun k => rfl)
        rw [mA_uA]
        show (if q = 28 ∧ j = i then (-1 : Int32) else if (q = 1 ∧ j < 4) ∨ (q = 28 ∧ j < i) then -1 else 0) = (if (q = 1 ∧ j < 4) ∨ (q = 28 ∧ j < i + 1) then -1 else 0)
        (repeat' split) <;> first | rfl | (exfalso; omega)
    · rw [e1]
      refine z_M_ext (fun q j => ?_) (fun q j => rfl) (fun k => ?_) (fun k => rfl)
      · simp only [mA_uS, mA_uA]
        show _ = (if (q = 1 ∧ j < 4) ∨ (q = 28 ∧ j < 0) then (-1 : Int32) else 0)
        (repeat' split) <;> first | rfl | (exfalso; omega)
      · rfl
  have gen : ∀ (H : z_H) (S : z_M) (R : Nat → Option (Nat × Nat)), Zs h H S R → S = (uS (uS (uS (uS (uS (uS (uS (uS (uS (uA (uA (uA (uA S_00 1 0 (-1)) 1 1 (-1)) 1 2 (-1)) 1 3 (-1)) 5 1000) 6 5) 7 180) 8 3) 9 10) 10 5) 11 30) 12 60) 13 40) → R = mR → A 456 [(0, z_r 14 0), (1, z_i 0)] [] H 44 26090 := fun H S R a b c => key H (a.1.trans b) (a.2.1.trans c) a.2.2
  have z1 := Zs_nw (K := 301) (k := 1) z0 rfl rfl rfl
  have z2 := Zs_sIa (j := ci 0) (v := -1) z1
  have z3 := Zs_sIa (j := ci 1) (v := -1) z2
  have z4 := Zs_sIa (j := ci 2) (v := -1) z3
  have z5 := Zs_sIa (j := ci 3) (v := -1) z4
  have z6 := Zs_sR (k := 1) (v := some (301, 0)) z5
  have z7 := Zs_nw (K := 302) (k := 2) z6 rfl rfl rfl
  have z8 := Zs_sR (k := 2) (v := some (302, 0)) z7
  have z9 := Zs_nw (K := 303) (k := 3) z8 rfl rfl rfl
  have z10 := Zs_sR (k := 3) (v := some (303, 0)) z9
  have z11 := Zs_nw (K := 304) (k := 4) z10 rfl rfl rfl
  have z12 := Zs_sR (k := 4) (v := some (304, 0)) z11
  have z13 := Zs_sIs (k := 5) (v := 1000) z12 (by decide)
  have z14 := Zs_sIs (k := 6) (v := 5) z13 (by decide)
  have z15 := Zs_sIs (k := 7) (v := 180) z14 (by decide)
  have z16 := Zs_sIs (k := 8) (v := 3) z15 (by decide)
  have z17 := Zs_sIs (k := 9) (v := 10) z16 (by decide)
  have z18 := Zs_sIs (k := 10) (v := 5) z17 (by decide)
  have z19 := Zs_sIs (k := 11) (v := 30) z18 (by decide)
  have z20 := Zs_sIs (k := 12) (v := 60) z19 (by decide)
  have z21 := Zs_sIs (k := 13) (v := 40) z20 (by decide)
  have z22 := Zs_nw (K := 322) (k := 22) z21 rfl rfl rfl
  have z23 := Zs_sR (k := 22) (v := some (322, 0)) z22
  have z24 := Zs_nw (K := 323) (k := 23) z23 rfl rfl rfl
  have z25 := Zs_sR (k := 23) (v := some (323, 0)) z24
  have z26 := Zs_nw (K := 324) (k := 24) z25 rfl rfl rfl
  have z27 := Zs_sR (k := 24) (v := some (324, 0)) z26
  have z28 := Zs_nw (K := 325) (k := 25) z27 rfl rfl rfl
  have z29 := Zs_sR (k := 25) (v := some (325, 0)) z28
  have z30 := Zs_nw (K := 326) (k := 26) z29 rfl rfl rfl
  have z31 := Zs_sR (k := 26) (v := some (326, 0)) z30
  have z32 := Zs_nw (K := 327) (k := 27) z31 rfl rfl rfl
  have z33 := Zs_sR (k := 27) (v := some (327, 0)) z32
  have z34 := Zs_nw (K := 328) (k := 28) z33 rfl rfl rfl
  have z35 := Zs_sR (k := 28) (v := some (328, 0)) z34
  have z36 := Zs_nw (K := 329) (k := 29) z35 rfl rfl rfl
  have z37 := Zs_sR (k := 29) (v := some (329, 0)) z36
  have z38 := Zs_nw (K := 330) (k := 30) z37 rfl rfl rfl
  have z39 := Zs_sR (k := 30) (v := some (330, 0)) z38
  have z40 := Zs_nw (K := 331) (k := 31) z39 rfl rfl rfl
  have z41 := Zs_sR (k := 31) (v := some (331, 0)) z40
  have z42 := Zs_nw (K := 332) (k := 32) z41 rfl rfl rfl
  have z43 := Zs_sR (k := 32) (v := some (332, 0)) z42
  have z44 := Zs_nw (K := 333) (k := 33) z43 rfl rfl rfl
  have z45 := Zs_sR (k := 33) (v := some (333, 0)) z44
  have z46 := Zs_nw (K := 334) (k := 34) z45 rfl rfl rfl
  have z47 := Zs_sR (k := 34) (v := some (334, 0)) z46
  have z48 := Zs_nw (K := 335) (k := 35) z47 rfl rfl rfl
  have z49 := Zs_sR (k := 35) (v := some (335, 0)) z48
  have z50 := Zs_nw (K := 336) (k := 36) z49 rfl rfl rfl
  have z51 := Zs_sR (k := 36) (v := some (336, 0)) z50
  have z52 := Zs_nw (K := 337) (k := 37) z51 rfl rfl rfl
  have z53 := Zs_sR (k := 37) (v := some (337, 0)) z52
  have z54 := Zs_nw (K := 338) (k := 38) z53 rfl rfl rfl
  have z55 := Zs_sR (k := 38) (v := some (338, 0)) z54
  have z56 := Zs_nw (K := 339) (k := 39) z55 rfl rfl rfl
  have z57 := Zs_sR (k := 39) (v := some (339, 0)) z56
  have z58 := Zs_nw (K := 340) (k := 40) z57 rfl rfl rfl
  have z59 := Zs_sR (k := 40) (v := some (340, 0)) z58
  have z60 := Zs_nw (K := 341) (k := 41) z59 rfl rfl rfl
  have z61 := Zs_sR (k := 41) (v := some (341, 0)) z60
  have z62 := Zs_nw (K := 342) (k := 42) z61 rfl rfl rfl
  have z63 := Zs_sR (k := 42) (v := some (342, 0)) z62
  have z64 := Zs_nw (K := 343) (k := 43) z63 rfl rfl rfl
  have z65 := Zs_sR (k := 43) (v := some (343, 0)) z64
  have z66 := Zs_nw (K := 344) (k := 44) z65 rfl rfl rfl
  have z67 := Zs_sR (k := 44) (v := some (344, 0)) z66
  have z68 := Zs_nw (K := 345) (k := 45) z67 rfl rfl rfl
  have z69 := Zs_sR (k := 45) (v := some (345, 0)) z68
  have z70 := Zs_nw (K := 346) (k := 46) z69 rfl rfl rfl
  have z71 := Zs_sR (k := 46) (v := some (346, 0)) z70
  have z72 := Zs_nw (K := 347) (k := 47) z71 rfl rfl rfl
  have z73 := Zs_sR (k := 47) (v := some (347, 0)) z72
  have z74 := Zs_nw (K := 348) (k := 48) z73 rfl rfl rfl
  have z75 := Zs_sR (k := 48) (v := some (348, 0)) z74
  have z76 := Zs_nw (K := 349) (k := 49) z75 rfl rfl rfl
  have z77 := Zs_sR (k := 49) (v := some (349, 0)) z76
  have z78 := Zs_nw (K := 350) (k := 50) z77 rfl rfl rfl
  have z79 := Zs_sR (k := 50) (v := some (350, 0)) z78
  have z80 := Zs_nw (K := 351) (k := 51) z79 rfl rfl rfl
  have z81 := Zs_sR (k := 51) (v := some (351, 0)) z80
  have z82 := Zs_nw (K := 352) (k := 52) z81 rfl rfl rfl
  have z83 := Zs_sR (k := 52) (v := some (352, 0)) z82
  have z84 := Zs_nw (K := 353) (k := 53) z83 rfl rfl rfl
  have z85 := Zs_sR (k := 53) (v := some (353, 0)) z84
  have z86 := Zs_nw (K := 354) (k := 54) z85 rfl rfl rfl
  have z87 := Zs_sR (k := 54) (v := some (354, 0)) z86
  have z88 := Zs_nw (K := 355) (k := 55) z87 rfl rfl rfl
  have z89 := Zs_sR (k := 55) (v := some (355, 0)) z88
  have z90 := Zs_nw (K := 356) (k := 56) z89 rfl rfl rfl
  have z91 := Zs_sR (k := 56) (v := some (356, 0)) z90
  have z92 := Zs_nw (K := 357) (k := 57) z91 rfl rfl rfl
  have z93 := Zs_sR (k := 57) (v := some (357, 0)) z92
  have z94 := Zs_nw (K := 358) (k := 58) z93 rfl rfl rfl
  have z95 := Zs_sR (k := 58) (v := some (358, 0)) z94
  have z96 := Zs_nw (K := 359) (k := 59) z95 rfl rfl rfl
  have z97 := Zs_sR (k := 59) (v := some (359, 0)) z96
  have z98 := Zs_nw (K := 360) (k := 60) z97 rfl rfl rfl
  have z99 := Zs_sR (k := 60) (v := some (360, 0)) z98
  have z100 := Zs_nw (K := 361) (k := 61) z99 rfl rfl rfl
  have z101 := Zs_sR (k := 61) (v := some (361, 0)) z100
  refine gen _ _ _ z101 rfl ?_
  funext k
  by_cases hk : k < 62
  · revert k
    decide
  · have e1 : mR k = none := by
      unfold mR
      rw [if_pos (aLen_big (by omega))]
    rw [e1]
    (repeat rw [if_neg (by omega)])
