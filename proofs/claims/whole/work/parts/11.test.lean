def b_X12_in_0 : List z_E := [(.lload_n 0, 1, 0, 0, 0), (.lload_n 2, 1, 0, 0, 0), (.lcmp, 1, 0, 0, 0), (.ifCond .lt 14, 3, 17, 0, 0), (.lload_n 0, 1, 0, 0, 0), (.lload 4, 2, 0, 0, 0), (.lcmp, 1, 0, 0, 0), (.ifCond .gt 7, 3, 17, 0, 0), (.iconst 1, 1, 0, 0, 0), (.goto 4, 3, 18, 0, 0)]
theorem k_X12_in_0 : z_chk yX12_in cX12_in 6 0 b_X12_in_0 17 = true := by decide +kernel
def b_X12_in_17 : List z_E := [(.iconst 0, 1, 0, 0, 0)]
theorem k_X12_in_17 : z_chk yX12_in cX12_in 6 17 b_X12_in_17 18 = true := by decide +kernel
def b_X12_in_18 : List z_E := [(.ireturn, 1, 0, 0, 0)]
theorem k_X12_in_18 : z_chk yX12_in cX12_in 6 18 b_X12_in_18 19 = true := by decide +kernel
def b_X12_isSlot_0 : List z_E := [(.iload_n 0, 1, 0, 0, 0), (.i2l, 1, 0, 0, 0), (.lconst 0, 1, 0, 0, 0), (.ldc2_w 175, 3, 0, 0, 3), (.invokestatic 177, 3, 3, 0, 0), (.ireturn, 1, 0, 0, 0)]
theorem k_X12_isSlot_0 : z_chk yX12_isSlot cX12_isSlot 1 0 b_X12_isSlot_0 10 = true := by decide +kernel
def b_X12_room_0 : List z_E := [(.sipush 2000, 3, 0, 0, 0), (.aload_n 0, 1, 0, 0, 0), (.getfield 212, 3, 14, 19, 0), (.isub, 1, 0, 0, 0), (.istore_n 1, 1, 0, 0, 0), (.iconst 0, 1, 0, 0, 0), (.istore_n 2, 1, 0, 0, 0)]
theorem k_X12_room_0 : z_chk yX12_room cX12_room 3 0 b_X12_room_0 11 = true := by decide +kernel
def b_X12_room_11 : List z_E := [(.iload_n 2, 1, 0, 0, 0), (.aload_n 0, 1, 0, 0, 0), (.getfield 215, 3, 14, 18, 0), (.if_icmp .ge 26, 3, 42, 0, 0), (.iload_n 1, 1, 0, 0, 0), (.aload_n 0, 1, 0, 0, 0), (.getfield 111, 3, 14, 42, 2), (.iload_n 2, 1, 0, 0, 0), (.iaload, 1, 0, 0, 0), (.ifCond .ne 7, 3, 33, 0, 0), (.iconst 3, 1, 0, 0, 0), (.goto 4, 3, 34, 0, 0)]
theorem k_X12_room_11 : z_chk yX12_room cX12_room 3 11 b_X12_room_11 33 = true := by decide +kernel
def b_X12_room_33 : List z_E := [(.iconst 0, 1, 0, 0, 0)]
theorem k_X12_room_33 : z_chk yX12_room cX12_room 3 33 b_X12_room_33 34 = true := by decide +kernel
def b_X12_room_34 : List z_E := [(.isub, 1, 0, 0, 0), (.istore_n 1, 1, 0, 0, 0), (.iinc 2 1, 3, 0, 0, 0), (.goto (-28), 3, 11, 0, 0)]
theorem k_X12_room_34 : z_chk yX12_room cX12_room 3 34 b_X12_room_34 42 = true := by decide +kernel
def b_X12_room_42 : List z_E := [(.iload_n 1, 1, 0, 0, 0), (.ireturn, 1, 0, 0, 0)]
theorem k_X12_room_42 : z_chk yX12_room cX12_room 3 42 b_X12_room_42 44 = true := by decide +kernel
theorem lk_X12_177 : z_ckB RX12 177 1 yX12_in cX12_in 6 (some .boolean) 3 = true := by decide +kernel

theorem t_in (l : Launch) (G : z_G) (d : Nat) (h : z_H) (v a b : Int64) (Q : Option z_V → z_H → Prop) (hQ : Q (some (z_i (if a ≤ v ∧ v ≤ b then 1 else 0))) h) : z_MT l G d yX12_in cX12_in 6 (some .boolean) [z_l v, z_l a, z_l b] h 0 0 Q := by
  refine z_meth (by decide) (Nat.le_refl 6) (fun A st => ?_)
  refine st b_X12_in_0 _ _ k_X12_in_0 _ _ _ _ _ ?_
  simp only [b_X12_in_0, zr_nil, zr_cons, zr_aconst_null, zr_iconst, zr_bipush, zr_sipush, zr_lconst, zr_ldc, zr_ldc2, zr_iload, zr_iload_n, zr_lload, zr_lload_n, zr_aload, zr_aload_n, zr_istore, zr_istore_n, zr_lstore, zr_lstore_n, zr_astore, zr_astore_n, zr_iinc, zr_dup, zr_pop, zr_dup2, zr_iadd, zr_isub, zr_imul, zr_iand, zr_iushr, zr_ladd, zr_lsub, zr_lmul, zr_land, zr_lor, zr_ldiv, zr_lrem, zr_lshl, zr_lcmp, zr_ineg, zr_lneg, zr_i2l, zr_l2i, zr_i2b, zr_i2s, zr_icmp, zr_ifc, zr_ifnull, zr_ifnonnull, zr_goto, zr_tsw, zr_lsw, zr_get0, zr_get3, zr_get1, zr_get2, zr_put0, zr_put3, zr_put1, zr_put2, zr_new, zr_newl, zr_newa, zr_alen, zr_iald1, zr_iald, zr_bald, zr_lald, zr_iast, zr_bast, zr_last, zr_cast, zr_iret, zr_lret, zr_aret, zr_ret, zr_call0, zr_call1, zr_call2, zr_obj, zr_lsize, zr_lget, zr_lapp, zr_bget, zr_badd, zr_acpy, zr_eI, zr_eL, zr_eR, zr_pI, zr_pL, zr_pR, zr_pO, zr_pV, zr_pA0, zr_pA, zr_get, zr_put_n, zr_put, zr_rem_n, zr_rem, zr_cat_i, zr_cat_l, zr_cat_q, zr_w_n, zr_w, zr_cP_eq, zr_cP_ne, zr_cP_lt, zr_cP_ge, zr_cP_gt, zr_cP_le, zr_args_n, zr_args, zr_T, zr_rt_i, zr_rt_z, zr_rt_l, zr_rt_a, zr_rt_n, zr_tl_s, zr_tl_n, zr_f0, zr_f1, zr_f2, zr_f3, zr_g0, zr_g1, ↓reduceIte, Nat.reduceAdd, Nat.reduceEqDiff, Nat.reduceLeDiff, Nat.reduceMul, Nat.reduceSub, Int32.reduceOfInt, Int64.reduceOfInt, Int64.reduceOfNat, true_and, and_true, false_and, and_false, or_false, false_or, lg_cmp_ge, lg_cmp_le, lg_cmp_gt, lg_cmp_lt, lg_cmp_eq, reduceCtorEq, or_self, and_self, ne_eq, not_false_eq_true, not_true_eq_false, forall_const, eq_self, false_implies, true_implies, implies_true, Nat.le_refl, Nat.zero_le]
  trace_state
  sorry
