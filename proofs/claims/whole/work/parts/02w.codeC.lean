def b_X0_init_0 : List z_E := [(.aload_n 0, 1, 0, 0, 0), (.invokespecial 3, 3, 0, 7, 0), (.aload_n 0, 1, 0, 0, 0), (.iconst (-1), 1, 0, 0, 0), (.putfield 9, 3, 2, 2, 0), (.aload_n 0, 1, 0, 0, 0), (.iconst (-1), 1, 0, 0, 0), (.putfield 15, 3, 2, 5, 0), (.aload_n 0, 1, 0, 0, 0), (.iconst (-1), 1, 0, 0, 0), (.putfield 18, 3, 2, 6, 0), (.aload_n 0, 1, 0, 0, 0), (.iload_n 1, 1, 0, 0, 0), (.putfield 21, 3, 2, 0, 0), (.aload_n 0, 1, 0, 0, 0), (.new 24, 7, 207, 1, 26), (.putfield 27, 3, 2, 1, 2), (.return_, 1, 0, 0, 0)]
theorem k_X0_init_0 : z_chk 2 true cX0_init 2 0 b_X0_init_0 36 = true := by decide +kernel
def b_X0_folioAt_0 : List z_E := [(.iload_n 1, 1, 0, 0, 0), (.ifCond .lt 31, 3, 32, 0, 0), (.iload_n 1, 1, 0, 0, 0), (.aload_n 0, 1, 0, 0, 0), (.getfield 27, 3, 2, 1, 2), (.invokevirtual 31, 3, 0, 1, 0), (.if_icmp .ge 20, 3, 32, 0, 0), (.aload_n 0, 1, 0, 0, 0), (.getfield 27, 3, 2, 1, 2), (.iload_n 1, 1, 0, 0, 0), (.invokevirtual 35, 9, 39, 11, 41), (.goto 4, 3, 33, 0, 0)]
theorem k_X0_folioAt_0 : z_chk 2 false cX0_folioAt 2 0 b_X0_folioAt_0 32 = true := by decide +kernel
def b_X0_folioAt_32 : List z_E := [(.iconst (-1), 1, 0, 0, 0)]
theorem k_X0_folioAt_32 : z_chk 2 false cX0_folioAt 2 32 b_X0_folioAt_32 33 = true := by decide +kernel
def b_X0_folioAt_33 : List z_E := [(.ireturn, 1, 0, 0, 0)]
theorem k_X0_folioAt_33 : z_chk 2 false cX0_folioAt 2 33 b_X0_folioAt_33 34 = true := by decide +kernel
def b_X0_maySign_0 : List z_E := [(.iload_n 1, 1, 0, 0, 0), (.aload_n 0, 1, 0, 0, 0), (.getfield 21, 3, 2, 0, 0), (.if_icmp .eq 19, 3, 24, 0, 0), (.iload_n 1, 1, 0, 0, 0), (.aload_n 0, 1, 0, 0, 0), (.getfield 15, 3, 2, 5, 0), (.if_icmp .ne 15, 3, 28, 0, 0), (.iload_n 2, 1, 0, 0, 0), (.aload_n 0, 1, 0, 0, 0), (.getfield 18, 3, 2, 6, 0), (.if_icmp .gt 7, 3, 28, 0, 0)]
theorem k_X0_maySign_0 : z_chk 2 false cX0_maySign 3 0 b_X0_maySign_0 24 = true := by decide +kernel
def b_X0_maySign_24 : List z_E := [(.iconst 1, 1, 0, 0, 0), (.goto 4, 3, 29, 0, 0)]
theorem k_X0_maySign_24 : z_chk 2 false cX0_maySign 3 24 b_X0_maySign_24 28 = true := by decide +kernel
def b_X0_maySign_28 : List z_E := [(.iconst 0, 1, 0, 0, 0)]
theorem k_X0_maySign_28 : z_chk 2 false cX0_maySign 3 28 b_X0_maySign_28 29 = true := by decide +kernel
def b_X0_maySign_29 : List z_E := [(.ireturn, 1, 0, 0, 0)]
theorem k_X0_maySign_29 : z_chk 2 false cX0_maySign 3 29 b_X0_maySign_29 30 = true := by decide +kernel
def b_X1_init_0 : List z_E := [(.aload_n 0, 1, 0, 0, 0), (.invokespecial 1, 3, 0, 7, 0), (.aload_n 0, 1, 0, 0, 0), (.bipush 40, 2, 0, 0, 0), (.putfield 7, 3, 3, 0, 0), (.return_, 1, 0, 0, 0)]
theorem k_X1_init_0 : z_chk 3 true cX1_init 1 0 b_X1_init_0 11 = true := by decide +kernel
def b_X1_settleAgio_0 : List z_E := [(.aload_n 0, 1, 0, 0, 0), (.getfield 7, 3, 3, 0, 0), (.i2l, 1, 0, 0, 0), (.aload_n 0, 1, 0, 0, 0), (.aload_n 1, 1, 0, 0, 0), (.getfield 13, 3, 11, 4, 0), (.i2l, 1, 0, 0, 0), (.invokevirtual 18, 3, 2, 0, 0), (.aload_n 1, 1, 0, 0, 0), (.getfield 22, 3, 11, 5, 0), (.ineg, 1, 0, 0, 0), (.i2l, 1, 0, 0, 0), (.aload_n 1, 1, 0, 0, 0), (.getfield 22, 3, 11, 5, 0), (.i2l, 1, 0, 0, 0), (.invokestatic 25, 3, 3, 0, 0), (.ladd, 1, 0, 0, 0), (.lstore_n 2, 1, 0, 0, 0), (.aload_n 0, 1, 0, 0, 0), (.lload_n 2, 1, 0, 0, 0), (.ldc2_w 29, 3, 0, 0, (-100)), (.ldc2_w 31, 3, 0, 0, 300), (.invokestatic 25, 3, 3, 0, 0), (.l2i, 1, 0, 0, 0), (.putfield 7, 3, 3, 0, 0), (.aload_n 0, 1, 0, 0, 0), (.getfield 7, 3, 3, 0, 0), (.aload_n 1, 1, 0, 0, 0), (.getfield 33, 3, 11, 7, 0), (.if_icmp .le 33, 3, 86, 0, 0), (.aload_n 0, 1, 0, 0, 0), (.dup, 1, 0, 0, 0), (.getfield 36, 3, 3, 1, 1), (.aload_n 0, 1, 0, 0, 0), (.getfield 7, 3, 3, 0, 0), (.aload_n 1, 1, 0, 0, 0), (.getfield 33, 3, 11, 7, 0), (.isub, 1, 0, 0, 0), (.i2l, 1, 0, 0, 0), (.ladd, 1, 0, 0, 0), (.putfield 36, 3, 3, 1, 1), (.aload_n 0, 1, 0, 0, 0), (.aload_n 1, 1, 0, 0, 0), (.getfield 33, 3, 11, 7, 0), (.putfield 7, 3, 3, 0, 0), (.goto 41, 3, 124, 0, 0)]
theorem k_X1_settleAgio_0 : z_chk 3 false cX1_settleAgio 4 0 b_X1_settleAgio_0 86 = true := by decide +kernel
def b_X1_settleAgio_86 : List z_E := [(.aload_n 0, 1, 0, 0, 0), (.getfield 7, 3, 3, 0, 0), (.aload_n 1, 1, 0, 0, 0), (.getfield 40, 3, 11, 6, 0), (.if_icmp .ge 30, 3, 124, 0, 0), (.aload_n 0, 1, 0, 0, 0), (.dup, 1, 0, 0, 0), (.getfield 43, 3, 3, 2, 1), (.aload_n 1, 1, 0, 0, 0), (.getfield 40, 3, 11, 6, 0), (.aload_n 0, 1, 0, 0, 0), (.getfield 7, 3, 3, 0, 0), (.isub, 1, 0, 0, 0), (.i2l, 1, 0, 0, 0), (.ladd, 1, 0, 0, 0), (.putfield 43, 3, 3, 2, 1), (.aload_n 0, 1, 0, 0, 0), (.aload_n 1, 1, 0, 0, 0), (.getfield 40, 3, 11, 6, 0), (.putfield 7, 3, 3, 0, 0)]
theorem k_X1_settleAgio_86 : z_chk 3 false cX1_settleAgio 4 86 b_X1_settleAgio_86 124 = true := by decide +kernel
def b_X1_settleAgio_124 : List z_E := [(.aload_n 0, 1, 0, 0, 0), (.lconst 0, 1, 0, 0, 0), (.putfield 46, 3, 3, 3, 1), (.aload_n 0, 1, 0, 0, 0), (.lconst 0, 1, 0, 0, 0), (.putfield 49, 3, 3, 4, 1), (.return_, 1, 0, 0, 0)]
theorem k_X1_settleAgio_124 : z_chk 3 false cX1_settleAgio 4 124 b_X1_settleAgio_124 135 = true := by decide +kernel
def b_X1_pulled_0 : List z_E := [(.aload_n 0, 1, 0, 0, 0), (.getfield 46, 3, 3, 3, 1), (.aload_n 0, 1, 0, 0, 0), (.getfield 49, 3, 3, 4, 1), (.ladd, 1, 0, 0, 0), (.ldc2_w 52, 3, 0, 0, 1000), (.ladd, 1, 0, 0, 0), (.lstore_n 3, 1, 0, 0, 0), (.lload_n 3, 1, 0, 0, 0), (.lconst 0, 1, 0, 0, 0), (.lcmp, 1, 0, 0, 0), (.ifCond .le 19, 3, 36, 0, 0), (.lload_n 1, 1, 0, 0, 0), (.aload_n 0, 1, 0, 0, 0), (.getfield 46, 3, 3, 3, 1), (.aload_n 0, 1, 0, 0, 0), (.getfield 49, 3, 3, 4, 1), (.lsub, 1, 0, 0, 0), (.lmul, 1, 0, 0, 0), (.lload_n 3, 1, 0, 0, 0), (.ldiv, 1, 0, 0, 0), (.goto 4, 3, 37, 0, 0)]
theorem k_X1_pulled_0 : z_chk 3 false cX1_pulled 5 0 b_X1_pulled_0 36 = true := by decide +kernel
def b_X1_pulled_36 : List z_E := [(.lconst 0, 1, 0, 0, 0)]
theorem k_X1_pulled_36 : z_chk 3 false cX1_pulled 5 36 b_X1_pulled_36 37 = true := by decide +kernel
def b_X1_pulled_37 : List z_E := [(.lreturn, 1, 0, 0, 0)]
theorem k_X1_pulled_37 : z_chk 3 false cX1_pulled 5 37 b_X1_pulled_37 38 = true := by decide +kernel
def b_X1_clamp_0 : List z_E := [(.lload_n 2, 1, 0, 0, 0), (.lload_n 0, 1, 0, 0, 0), (.lload 4, 2, 0, 0, 0), (.invokestatic 54, 3, 2, 0, 0), (.invokestatic 60, 3, 2, 0, 0), (.lreturn, 1, 0, 0, 0)]
theorem k_X1_clamp_0 : z_chk 3 false cX1_clamp 6 0 b_X1_clamp_0 11 = true := by decide +kernel
def b_X2_init_0 : List z_E := [(.aload_n 0, 1, 0, 0, 0), (.invokespecial 1, 3, 0, 7, 0), (.aload_n 0, 1, 0, 0, 0), (.iload_n 1, 1, 0, 0, 0), (.putfield 7, 3, 4, 0, 0), (.aload_n 0, 1, 0, 0, 0), (.iload_n 2, 1, 0, 0, 0), (.putfield 13, 3, 4, 1, 0), (.aload_n 0, 1, 0, 0, 0), (.iload_n 3, 1, 0, 0, 0), (.putfield 16, 3, 4, 2, 0), (.aload_n 0, 1, 0, 0, 0), (.iload 4, 2, 0, 0, 0), (.putfield 19, 3, 4, 3, 0), (.return_, 1, 0, 0, 0)]
theorem k_X2_init_0 : z_chk 4 true cX2_init 5 0 b_X2_init_0 26 = true := by decide +kernel
def b_X2_takes_0 : List z_E := [(.lload_n 1, 1, 0, 0, 0), (.aload_n 0, 1, 0, 0, 0), (.getfield 16, 3, 4, 2, 0), (.i2l, 1, 0, 0, 0), (.lcmp, 1, 0, 0, 0), (.ifCond .lt 17, 3, 24, 0, 0), (.lload_n 1, 1, 0, 0, 0), (.aload_n 0, 1, 0, 0, 0), (.getfield 13, 3, 4, 1, 0), (.i2l, 1, 0, 0, 0), (.lcmp, 1, 0, 0, 0), (.ifCond .gt 7, 3, 24, 0, 0), (.iconst 1, 1, 0, 0, 0), (.goto 4, 3, 25, 0, 0)]
theorem k_X2_takes_0 : z_chk 4 false cX2_takes 3 0 b_X2_takes_0 24 = true := by decide +kernel
def b_X2_takes_24 : List z_E := [(.iconst 0, 1, 0, 0, 0)]
theorem k_X2_takes_24 : z_chk 4 false cX2_takes 3 24 b_X2_takes_24 25 = true := by decide +kernel
def b_X2_takes_25 : List z_E := [(.ireturn, 1, 0, 0, 0)]
theorem k_X2_takes_25 : z_chk 4 false cX2_takes 3 25 b_X2_takes_25 26 = true := by decide +kernel
def b_X2_bookOf_0 : List z_E := [(.lload_n 1, 1, 0, 0, 0), (.aload_n 0, 1, 0, 0, 0), (.getfield 19, 3, 4, 3, 0), (.i2l, 1, 0, 0, 0), (.lmul, 1, 0, 0, 0), (.ldc2_w 22, 3, 0, 0, 1000), (.ldiv, 1, 0, 0, 0), (.lstore 4, 2, 0, 0, 0), (.lload 4, 2, 0, 0, 0), (.iload_n 3, 1, 0, 0, 0), (.i2l, 1, 0, 0, 0), (.lmul, 1, 0, 0, 0), (.ldc2_w 22, 3, 0, 0, 1000), (.ldiv, 1, 0, 0, 0), (.lreturn, 1, 0, 0, 0)]
theorem k_X2_bookOf_0 : z_chk 4 false cX2_bookOf 6 0 b_X2_bookOf_0 23 = true := by decide +kernel
def b_X3_init_0 : List z_E := [(.aload_n 0, 1, 0, 0, 0), (.invokespecial 3, 3, 0, 7, 0), (.aload_n 0, 1, 0, 0, 0), (.new 9, 7, 206, 1, 11), (.putfield 12, 3, 5, 0, 2), (.aload_n 0, 1, 0, 0, 0), (.sipush 600, 3, 0, 0, 0), (.newarray .int, 2, 101, 0, 0), (.putfield 18, 3, 5, 1, 2), (.aload_n 0, 1, 0, 0, 0), (.sipush 600, 3, 0, 0, 0), (.newarray .int, 2, 102, 0, 0), (.putfield 22, 3, 5, 2, 2), (.return_, 1, 0, 0, 0)]
theorem k_X3_init_0 : z_chk 5 true cX3_init 1 0 b_X3_init_0 34 = true := by decide +kernel
def b_X3_lineAt_0 : List z_E := [(.iload_n 1, 1, 0, 0, 0), (.ifCond .lt 28, 3, 29, 0, 0), (.iload_n 1, 1, 0, 0, 0), (.aload_n 0, 1, 0, 0, 0), (.getfield 12, 3, 5, 0, 2), (.invokevirtual 25, 3, 0, 1, 0), (.if_icmp .ge 17, 3, 29, 0, 0), (.aload_n 0, 1, 0, 0, 0), (.getfield 12, 3, 5, 0, 2), (.iload_n 1, 1, 0, 0, 0), (.invokevirtual 29, 3, 0, 2, 0), (.checkcast 33, 3, 6, 0, 0), (.goto 4, 3, 30, 0, 0)]
theorem k_X3_lineAt_0 : z_chk 5 false cX3_lineAt 2 0 b_X3_lineAt_0 29 = true := by decide +kernel
def b_X3_lineAt_29 : List z_E := [(.aconst_null, 1, 0, 0, 0)]
theorem k_X3_lineAt_29 : z_chk 5 false cX3_lineAt 2 29 b_X3_lineAt_29 30 = true := by decide +kernel
def b_X3_lineAt_30 : List z_E := [(.areturn, 1, 0, 0, 0)]
theorem k_X3_lineAt_30 : z_chk 5 false cX3_lineAt 2 30 b_X3_lineAt_30 31 = true := by decide +kernel
def b_X3_enter_0 : List z_E := [(.lload 4, 2, 0, 0, 0), (.lconst 0, 1, 0, 0, 0), (.lcmp, 1, 0, 0, 0), (.ifCond .ne 5, 3, 9, 0, 0), (.iconst (-1), 1, 0, 0, 0), (.ireturn, 1, 0, 0, 0)]
theorem k_X3_enter_0 : z_chk 5 false cX3_enter 7 0 b_X3_enter_0 9 = true := by decide +kernel
def b_X3_enter_9 : List z_E := [(.aload_n 0, 1, 0, 0, 0), (.getfield 12, 3, 5, 0, 2), (.new 33, 3, 6, 0, 0), (.dup, 1, 0, 0, 0), (.iload_n 1, 1, 0, 0, 0), (.aload_n 2, 1, 0, 0, 0), (.aload_n 0, 1, 0, 0, 0), (.aload_n 2, 1, 0, 0, 0), (.invokevirtual 35, 3, 2, 0, 0), (.iload_n 3, 1, 0, 0, 0), (.lload 4, 2, 0, 0, 0), (.iload 6, 2, 0, 0, 0), (.invokespecial 39, 3, 7, 0, 0), (.invokevirtual 42, 3, 0, 3, 0), (.pop, 1, 0, 0, 0), (.aload_n 0, 1, 0, 0, 0), (.getfield 12, 3, 5, 0, 2), (.invokevirtual 25, 3, 0, 1, 0), (.iconst 1, 1, 0, 0, 0), (.isub, 1, 0, 0, 0), (.ireturn, 1, 0, 0, 0)]
theorem k_X3_enter_9 : z_chk 5 false cX3_enter 7 9 b_X3_enter_9 46 = true := by decide +kernel
def b_X3_folioForLineOf_0 : List z_E := [(.aload_n 1, 1, 0, 0, 0), (.getfield 46, 3, 2, 2, 0), (.iconst (-1), 1, 0, 0, 0), (.if_icmp .eq 12, 3, 17, 0, 0), (.aload_n 1, 1, 0, 0, 0), (.getfield 52, 3, 2, 3, 0), (.bipush 8, 2, 0, 0, 0), (.if_icmp .lt 41, 3, 55, 0, 0)]
theorem k_X3_folioForLineOf_0 : z_chk 5 false cX3_folioForLineOf 2 0 b_X3_folioForLineOf_0 17 = true := by decide +kernel
def b_X3_folioForLineOf_17 : List z_E := [(.aload_n 1, 1, 0, 0, 0), (.aload_n 0, 1, 0, 0, 0), (.getfield 55, 3, 5, 4, 0), (.putfield 46, 3, 2, 2, 0), (.aload_n 1, 1, 0, 0, 0), (.getfield 58, 3, 2, 1, 2), (.aload_n 0, 1, 0, 0, 0), (.getfield 55, 3, 5, 4, 0), (.invokestatic 60, 6, 42, 10, 0), (.pop, 1, 0, 0, 0), (.aload_n 1, 1, 0, 0, 0), (.iconst 0, 1, 0, 0, 0), (.putfield 52, 3, 2, 3, 0), (.aload_n 0, 1, 0, 0, 0), (.dup, 1, 0, 0, 0), (.getfield 55, 3, 5, 4, 0), (.iconst 1, 1, 0, 0, 0), (.iadd, 1, 0, 0, 0), (.putfield 55, 3, 5, 4, 0)]
theorem k_X3_folioForLineOf_17 : z_chk 5 false cX3_folioForLineOf 2 17 b_X3_folioForLineOf_17 55 = true := by decide +kernel
def b_X3_folioForLineOf_55 : List z_E := [(.aload_n 1, 1, 0, 0, 0), (.dup, 1, 0, 0, 0), (.getfield 52, 3, 2, 3, 0), (.iconst 1, 1, 0, 0, 0), (.iadd, 1, 0, 0, 0), (.putfield 52, 3, 2, 3, 0), (.aload_n 1, 1, 0, 0, 0), (.getfield 46, 3, 2, 2, 0), (.ireturn, 1, 0, 0, 0)]
theorem k_X3_folioForLineOf_55 : z_chk 5 false cX3_folioForLineOf 2 55 b_X3_folioForLineOf_55 70 = true := by decide +kernel
def b_X3_creditsLessDebits_0 : List z_E := [(.lconst 0, 1, 0, 0, 0), (.lstore_n 2, 1, 0, 0, 0), (.iconst 0, 1, 0, 0, 0), (.istore 4, 2, 0, 0, 0)]
theorem k_X3_creditsLessDebits_0 : z_chk 5 false cX3_creditsLessDebits 6 0 b_X3_creditsLessDebits_0 5 = true := by decide +kernel
def b_X3_creditsLessDebits_5 : List z_E := [(.iload 4, 2, 0, 0, 0), (.aload_n 0, 1, 0, 0, 0), (.getfield 12, 3, 5, 0, 2), (.invokevirtual 25, 3, 0, 1, 0), (.if_icmp .ge 61, 3, 75, 0, 0), (.aload_n 0, 1, 0, 0, 0), (.getfield 12, 3, 5, 0, 2), (.iload 4, 2, 0, 0, 0), (.invokevirtual 29, 3, 0, 2, 0), (.checkcast 33, 3, 6, 0, 0), (.astore 5, 2, 0, 0, 0), (.aload 5, 2, 0, 0, 0), (.getfield 66, 3, 6, 3, 2), (.getfield 70, 3, 2, 0, 0), (.iload_n 1, 1, 0, 0, 0), (.if_icmp .ne 29, 3, 69, 0, 0), (.lload_n 2, 1, 0, 0, 0), (.aload 5, 2, 0, 0, 0), (.getfield 73, 3, 6, 4, 0), (.iconst 1, 1, 0, 0, 0), (.if_icmp .ne 11, 3, 61, 0, 0), (.aload 5, 2, 0, 0, 0), (.getfield 76, 3, 6, 5, 1), (.goto 9, 3, 67, 0, 0)]
theorem k_X3_creditsLessDebits_5 : z_chk 5 false cX3_creditsLessDebits 6 5 b_X3_creditsLessDebits_5 61 = true := by decide +kernel
def b_X3_creditsLessDebits_61 : List z_E := [(.aload 5, 2, 0, 0, 0), (.getfield 76, 3, 6, 5, 1), (.lneg, 1, 0, 0, 0)]
theorem k_X3_creditsLessDebits_61 : z_chk 5 false cX3_creditsLessDebits 6 61 b_X3_creditsLessDebits_61 67 = true := by decide +kernel
def b_X3_creditsLessDebits_67 : List z_E := [(.ladd, 1, 0, 0, 0), (.lstore_n 2, 1, 0, 0, 0)]
theorem k_X3_creditsLessDebits_67 : z_chk 5 false cX3_creditsLessDebits 6 67 b_X3_creditsLessDebits_67 69 = true := by decide +kernel
def b_X3_creditsLessDebits_69 : List z_E := [(.iinc 4 1, 3, 0, 0, 0), (.goto (-67), 3, 5, 0, 0)]
theorem k_X3_creditsLessDebits_69 : z_chk 5 false cX3_creditsLessDebits 6 69 b_X3_creditsLessDebits_69 75 = true := by decide +kernel
def b_X3_creditsLessDebits_75 : List z_E := [(.lload_n 2, 1, 0, 0, 0), (.lreturn, 1, 0, 0, 0)]
theorem k_X3_creditsLessDebits_75 : z_chk 5 false cX3_creditsLessDebits 6 75 b_X3_creditsLessDebits_75 77 = true := by decide +kernel
def b_X3_debitsLessCredits_0 : List z_E := [(.lconst 0, 1, 0, 0, 0), (.lstore_n 2, 1, 0, 0, 0), (.iconst 0, 1, 0, 0, 0), (.istore 4, 2, 0, 0, 0)]
theorem k_X3_debitsLessCredits_0 : z_chk 5 false cX3_debitsLessCredits 6 0 b_X3_debitsLessCredits_0 5 = true := by decide +kernel
def b_X3_debitsLessCredits_5 : List z_E := [(.iload 4, 2, 0, 0, 0), (.aload_n 0, 1, 0, 0, 0), (.getfield 12, 3, 5, 0, 2), (.invokevirtual 25, 3, 0, 1, 0), (.if_icmp .ge 57, 3, 71, 0, 0), (.aload_n 0, 1, 0, 0, 0), (.getfield 12, 3, 5, 0, 2), (.iload 4, 2, 0, 0, 0), (.invokevirtual 29, 3, 0, 2, 0), (.checkcast 33, 3, 6, 0, 0), (.astore 5, 2, 0, 0, 0), (.aload 5, 2, 0, 0, 0), (.iload_n 1, 1, 0, 0, 0), (.invokevirtual 80, 3, 2, 0, 0), (.ifCond .eq 28, 3, 65, 0, 0), (.lload_n 2, 1, 0, 0, 0), (.aload 5, 2, 0, 0, 0), (.getfield 73, 3, 6, 4, 0), (.ifCond .ne 11, 3, 57, 0, 0), (.aload 5, 2, 0, 0, 0), (.getfield 76, 3, 6, 5, 1), (.goto 9, 3, 63, 0, 0)]
theorem k_X3_debitsLessCredits_5 : z_chk 5 false cX3_debitsLessCredits 6 5 b_X3_debitsLessCredits_5 57 = true := by decide +kernel
def b_X3_debitsLessCredits_57 : List z_E := [(.aload 5, 2, 0, 0, 0), (.getfield 76, 3, 6, 5, 1), (.lneg, 1, 0, 0, 0)]
theorem k_X3_debitsLessCredits_57 : z_chk 5 false cX3_debitsLessCredits 6 57 b_X3_debitsLessCredits_57 63 = true := by decide +kernel
def b_X3_debitsLessCredits_63 : List z_E := [(.ladd, 1, 0, 0, 0), (.lstore_n 2, 1, 0, 0, 0)]
theorem k_X3_debitsLessCredits_63 : z_chk 5 false cX3_debitsLessCredits 6 63 b_X3_debitsLessCredits_63 65 = true := by decide +kernel
def b_X3_debitsLessCredits_65 : List z_E := [(.iinc 4 1, 3, 0, 0, 0), (.goto (-63), 3, 5, 0, 0)]
theorem k_X3_debitsLessCredits_65 : z_chk 5 false cX3_debitsLessCredits 6 65 b_X3_debitsLessCredits_65 71 = true := by decide +kernel
def b_X3_debitsLessCredits_71 : List z_E := [(.lload_n 2, 1, 0, 0, 0), (.lreturn, 1, 0, 0, 0)]
theorem k_X3_debitsLessCredits_71 : z_chk 5 false cX3_debitsLessCredits 6 71 b_X3_debitsLessCredits_71 73 = true := by decide +kernel
def b_X3_findSuspects_0 : List z_E := [(.aload_n 0, 1, 0, 0, 0), (.iconst 0, 1, 0, 0, 0), (.putfield 84, 3, 5, 3, 0), (.aload_n 0, 1, 0, 0, 0), (.iload_n 1, 1, 0, 0, 0), (.invokevirtual 87, 3, 2, 0, 0), (.lstore_n 2, 1, 0, 0, 0), (.lload_n 2, 1, 0, 0, 0), (.lconst 0, 1, 0, 0, 0), (.lcmp, 1, 0, 0, 0), (.ifCond .ne 5, 3, 19, 0, 0), (.iconst (-1), 1, 0, 0, 0), (.ireturn, 1, 0, 0, 0)]
theorem k_X3_findSuspects_0 : z_chk 5 false cX3_findSuspects 7 0 b_X3_findSuspects_0 19 = true := by decide +kernel
def b_X3_findSuspects_19 : List z_E := [(.iconst 0, 1, 0, 0, 0), (.istore 4, 2, 0, 0, 0)]
theorem k_X3_findSuspects_19 : z_chk 5 false cX3_findSuspects 7 19 b_X3_findSuspects_19 22 = true := by decide +kernel
def b_X3_findSuspects_22 : List z_E := [(.iload 4, 2, 0, 0, 0), (.aload_n 0, 1, 0, 0, 0), (.getfield 12, 3, 5, 0, 2), (.invokevirtual 25, 3, 0, 1, 0), (.if_icmp .ge 92, 3, 123, 0, 0), (.aload_n 0, 1, 0, 0, 0), (.getfield 12, 3, 5, 0, 2), (.iload 4, 2, 0, 0, 0), (.invokevirtual 29, 3, 0, 2, 0), (.checkcast 33, 3, 6, 0, 0), (.astore 5, 2, 0, 0, 0), (.aload 5, 2, 0, 0, 0), (.iload_n 1, 1, 0, 0, 0), (.invokevirtual 80, 3, 2, 0, 0), (.ifCond .eq 12, 3, 66, 0, 0), (.aload 5, 2, 0, 0, 0), (.lload_n 2, 1, 0, 0, 0), (.invokestatic 91, 3, 2, 0, 0), (.goto 4, 3, 67, 0, 0)]
theorem k_X3_findSuspects_22 : z_chk 5 false cX3_findSuspects 7 22 b_X3_findSuspects_22 66 = true := by decide +kernel
def b_X3_findSuspects_66 : List z_E := [(.iconst (-1), 1, 0, 0, 0)]
theorem k_X3_findSuspects_66 : z_chk 5 false cX3_findSuspects 7 66 b_X3_findSuspects_66 67 = true := by decide +kernel
def b_X3_findSuspects_67 : List z_E := [(.istore 6, 2, 0, 0, 0), (.iload 6, 2, 0, 0, 0), (.iconst (-1), 1, 0, 0, 0), (.if_icmp .eq 45, 3, 117, 0, 0), (.aload_n 0, 1, 0, 0, 0), (.getfield 84, 3, 5, 3, 0), (.sipush 600, 3, 0, 0, 0), (.if_icmp .ge 35, 3, 117, 0, 0), (.aload_n 0, 1, 0, 0, 0), (.getfield 18, 3, 5, 1, 2), (.aload_n 0, 1, 0, 0, 0), (.getfield 84, 3, 5, 3, 0), (.iload 4, 2, 0, 0, 0), (.iastore, 1, 0, 0, 0), (.aload_n 0, 1, 0, 0, 0), (.getfield 22, 3, 5, 2, 2), (.aload_n 0, 1, 0, 0, 0), (.getfield 84, 3, 5, 3, 0), (.iload 6, 2, 0, 0, 0), (.iastore, 1, 0, 0, 0), (.aload_n 0, 1, 0, 0, 0), (.dup, 1, 0, 0, 0), (.getfield 84, 3, 5, 3, 0), (.iconst 1, 1, 0, 0, 0), (.iadd, 1, 0, 0, 0), (.putfield 84, 3, 5, 3, 0)]
theorem k_X3_findSuspects_67 : z_chk 5 false cX3_findSuspects 7 67 b_X3_findSuspects_67 117 = true := by decide +kernel
def b_X3_findSuspects_117 : List z_E := [(.iinc 4 1, 3, 0, 0, 0), (.goto (-98), 3, 22, 0, 0)]
theorem k_X3_findSuspects_117 : z_chk 5 false cX3_findSuspects 7 117 b_X3_findSuspects_117 123 = true := by decide +kernel
def b_X3_findSuspects_123 : List z_E := [(.aload_n 0, 1, 0, 0, 0), (.getfield 84, 3, 5, 3, 0), (.ireturn, 1, 0, 0, 0)]
theorem k_X3_findSuspects_123 : z_chk 5 false cX3_findSuspects 7 123 b_X3_findSuspects_123 128 = true := by decide +kernel
def b_X3_suspicionOf_0 : List z_E := [(.aload_n 0, 1, 0, 0, 0), (.getfield 73, 3, 6, 4, 0), (.iconst 1, 1, 0, 0, 0), (.if_icmp .ne 40, 3, 45, 0, 0), (.lload_n 1, 1, 0, 0, 0), (.ldc2_w 95, 3, 0, 0, 9), (.lrem, 1, 0, 0, 0), (.lconst 0, 1, 0, 0, 0), (.lcmp, 1, 0, 0, 0), (.ifCond .ne 18, 3, 33, 0, 0), (.aload_n 0, 1, 0, 0, 0), (.getfield 76, 3, 6, 5, 1), (.lload_n 1, 1, 0, 0, 0), (.invokestatic 97, 3, 2, 0, 0), (.ifCond .eq 7, 3, 33, 0, 0), (.iconst 1, 1, 0, 0, 0), (.goto 4, 3, 34, 0, 0)]
theorem k_X3_suspicionOf_0 : z_chk 5 false cX3_suspicionOf 4 0 b_X3_suspicionOf_0 33 = true := by decide +kernel
def b_X3_suspicionOf_33 : List z_E := [(.iconst 0, 1, 0, 0, 0)]
theorem k_X3_suspicionOf_33 : z_chk 5 false cX3_suspicionOf 4 33 b_X3_suspicionOf_33 34 = true := by decide +kernel
def b_X3_suspicionOf_34 : List z_E := [(.istore_n 3, 1, 0, 0, 0), (.iload_n 3, 1, 0, 0, 0), (.ifCond .eq 7, 3, 43, 0, 0), (.iconst 2, 1, 0, 0, 0), (.goto 4, 3, 44, 0, 0)]
theorem k_X3_suspicionOf_34 : z_chk 5 false cX3_suspicionOf 4 34 b_X3_suspicionOf_34 43 = true := by decide +kernel
def b_X3_suspicionOf_43 : List z_E := [(.iconst (-1), 1, 0, 0, 0)]
theorem k_X3_suspicionOf_43 : z_chk 5 false cX3_suspicionOf 4 43 b_X3_suspicionOf_43 44 = true := by decide +kernel
def b_X3_suspicionOf_44 : List z_E := [(.ireturn, 1, 0, 0, 0)]
theorem k_X3_suspicionOf_44 : z_chk 5 false cX3_suspicionOf 4 44 b_X3_suspicionOf_44 45 = true := by decide +kernel
def b_X3_suspicionOf_45 : List z_E := [(.aload_n 0, 1, 0, 0, 0), (.getfield 76, 3, 6, 5, 1), (.lload_n 1, 1, 0, 0, 0), (.lcmp, 1, 0, 0, 0), (.ifCond .ne 5, 3, 56, 0, 0), (.iconst 0, 1, 0, 0, 0), (.ireturn, 1, 0, 0, 0)]
theorem k_X3_suspicionOf_45 : z_chk 5 false cX3_suspicionOf 4 45 b_X3_suspicionOf_45 56 = true := by decide +kernel
def b_X3_suspicionOf_56 : List z_E := [(.lload_n 1, 1, 0, 0, 0), (.ldc2_w 101, 3, 0, 0, 2), (.lrem, 1, 0, 0, 0), (.lconst 0, 1, 0, 0, 0), (.lcmp, 1, 0, 0, 0), (.ifCond .ne 20, 3, 83, 0, 0), (.aload_n 0, 1, 0, 0, 0), (.getfield 76, 3, 6, 5, 1), (.lload_n 1, 1, 0, 0, 0), (.ldc2_w 101, 3, 0, 0, 2), (.ldiv, 1, 0, 0, 0), (.lcmp, 1, 0, 0, 0), (.ifCond .ne 7, 3, 83, 0, 0), (.iconst 1, 1, 0, 0, 0), (.goto 4, 3, 84, 0, 0)]
theorem k_X3_suspicionOf_56 : z_chk 5 false cX3_suspicionOf 4 56 b_X3_suspicionOf_56 83 = true := by decide +kernel
def b_X3_suspicionOf_83 : List z_E := [(.iconst (-1), 1, 0, 0, 0)]
theorem k_X3_suspicionOf_83 : z_chk 5 false cX3_suspicionOf 4 83 b_X3_suspicionOf_83 84 = true := by decide +kernel
def b_X3_suspicionOf_84 : List z_E := [(.ireturn, 1, 0, 0, 0)]
theorem k_X3_suspicionOf_84 : z_chk 5 false cX3_suspicionOf 4 84 b_X3_suspicionOf_84 85 = true := by decide +kernel
def b_X3_someExchangeAdds_0 : List z_E := [(.iconst 0, 1, 0, 0, 0), (.istore 4, 2, 0, 0, 0)]
theorem k_X3_someExchangeAdds_0 : z_chk 5 false cX3_someExchangeAdds 5 0 b_X3_someExchangeAdds_0 3 = true := by decide +kernel
def b_X3_someExchangeAdds_3 : List z_E := [(.iload 4, 2, 0, 0, 0), (.bipush 8, 2, 0, 0, 0), (.if_icmp .gt 24, 3, 31, 0, 0), (.lload_n 0, 1, 0, 0, 0), (.iload 4, 2, 0, 0, 0), (.invokestatic 103, 3, 2, 0, 0), (.lload_n 0, 1, 0, 0, 0), (.lload_n 2, 1, 0, 0, 0), (.ladd, 1, 0, 0, 0), (.lcmp, 1, 0, 0, 0), (.ifCond .ne 5, 3, 25, 0, 0), (.iconst 1, 1, 0, 0, 0), (.ireturn, 1, 0, 0, 0)]
theorem k_X3_someExchangeAdds_3 : z_chk 5 false cX3_someExchangeAdds 5 3 b_X3_someExchangeAdds_3 25 = true := by decide +kernel
def b_X3_someExchangeAdds_25 : List z_E := [(.iinc 4 1, 3, 0, 0, 0), (.goto (-25), 3, 3, 0, 0)]
theorem k_X3_someExchangeAdds_25 : z_chk 5 false cX3_someExchangeAdds 5 25 b_X3_someExchangeAdds_25 31 = true := by decide +kernel
def b_X3_someExchangeAdds_31 : List z_E := [(.iconst 0, 1, 0, 0, 0), (.ireturn, 1, 0, 0, 0)]
theorem k_X3_someExchangeAdds_31 : z_chk 5 false cX3_someExchangeAdds 5 31 b_X3_someExchangeAdds_31 33 = true := by decide +kernel
def b_X3_withDigitsExchanged_0 : List z_E := [(.lconst 1, 1, 0, 0, 0), (.lstore_n 3, 1, 0, 0, 0), (.lload_n 0, 1, 0, 0, 0), (.lstore 5, 2, 0, 0, 0), (.iconst 0, 1, 0, 0, 0), (.istore 7, 2, 0, 0, 0)]
theorem k_X3_withDigitsExchanged_0 : z_chk 5 false cX3_withDigitsExchanged 11 0 b_X3_withDigitsExchanged_0 8 = true := by decide +kernel
def b_X3_withDigitsExchanged_8 : List z_E := [(.iload 7, 2, 0, 0, 0), (.iload_n 2, 1, 0, 0, 0), (.if_icmp .ge 23, 3, 34, 0, 0), (.lload_n 3, 1, 0, 0, 0), (.ldc2_w 107, 3, 0, 0, 10), (.lmul, 1, 0, 0, 0), (.lstore_n 3, 1, 0, 0, 0), (.lload 5, 2, 0, 0, 0), (.ldc2_w 107, 3, 0, 0, 10), (.ldiv, 1, 0, 0, 0), (.lstore 5, 2, 0, 0, 0), (.iinc 7 1, 3, 0, 0, 0), (.goto (-23), 3, 8, 0, 0)]
theorem k_X3_withDigitsExchanged_8 : z_chk 5 false cX3_withDigitsExchanged 11 8 b_X3_withDigitsExchanged_8 34 = true := by decide +kernel
def b_X3_withDigitsExchanged_34 : List z_E := [(.lload 5, 2, 0, 0, 0), (.ldc2_w 107, 3, 0, 0, 10), (.lrem, 1, 0, 0, 0), (.lstore 7, 2, 0, 0, 0), (.lload 5, 2, 0, 0, 0), (.ldc2_w 107, 3, 0, 0, 10), (.ldiv, 1, 0, 0, 0), (.ldc2_w 107, 3, 0, 0, 10), (.lrem, 1, 0, 0, 0), (.lstore 9, 2, 0, 0, 0), (.lload_n 0, 1, 0, 0, 0), (.lload 7, 2, 0, 0, 0), (.lload 9, 2, 0, 0, 0), (.lsub, 1, 0, 0, 0), (.ldc2_w 95, 3, 0, 0, 9), (.lmul, 1, 0, 0, 0), (.lload_n 3, 1, 0, 0, 0), (.lmul, 1, 0, 0, 0), (.ladd, 1, 0, 0, 0), (.lreturn, 1, 0, 0, 0)]
theorem k_X3_withDigitsExchanged_34 : z_chk 5 false cX3_withDigitsExchanged 11 34 b_X3_withDigitsExchanged_34 68 = true := by decide +kernel
def b_X4_init_0 : List z_E := [(.aload_n 0, 1, 0, 0, 0), (.invokespecial 3, 3, 0, 7, 0), (.aload_n 0, 1, 0, 0, 0), (.iload_n 1, 1, 0, 0, 0), (.putfield 9, 3, 6, 0, 0), (.aload_n 0, 1, 0, 0, 0), (.aload_n 2, 1, 0, 0, 0), (.putfield 15, 3, 6, 3, 2), (.aload_n 0, 1, 0, 0, 0), (.iload_n 3, 1, 0, 0, 0), (.putfield 19, 3, 6, 1, 0), (.aload_n 0, 1, 0, 0, 0), (.iload 4, 2, 0, 0, 0), (.putfield 22, 3, 6, 4, 0), (.aload_n 0, 1, 0, 0, 0), (.lload 5, 2, 0, 0, 0), (.putfield 25, 3, 6, 5, 1), (.aload_n 0, 1, 0, 0, 0), (.iload 7, 2, 0, 0, 0), (.putfield 29, 3, 6, 2, 0), (.return_, 1, 0, 0, 0)]
theorem k_X4_init_0 : z_chk 6 true cX4_init 8 0 b_X4_init_0 38 = true := by decide +kernel
def b_X4_isOfBooks_0 : List z_E := [(.aload_n 0, 1, 0, 0, 0), (.getfield 9, 3, 6, 0, 0), (.iload_n 1, 1, 0, 0, 0), (.if_icmp .ne 15, 3, 20, 0, 0), (.aload_n 0, 1, 0, 0, 0), (.getfield 29, 3, 6, 2, 0), (.iconst (-1), 1, 0, 0, 0), (.if_icmp .eq 7, 3, 20, 0, 0), (.iconst 1, 1, 0, 0, 0), (.goto 4, 3, 21, 0, 0)]
theorem k_X4_isOfBooks_0 : z_chk 6 false cX4_isOfBooks 2 0 b_X4_isOfBooks_0 20 = true := by decide +kernel
def b_X4_isOfBooks_20 : List z_E := [(.iconst 0, 1, 0, 0, 0)]
theorem k_X4_isOfBooks_20 : z_chk 6 false cX4_isOfBooks 2 20 b_X4_isOfBooks_20 21 = true := by decide +kernel
def b_X4_isOfBooks_21 : List z_E := [(.ireturn, 1, 0, 0, 0)]
theorem k_X4_isOfBooks_21 : z_chk 6 false cX4_isOfBooks 2 21 b_X4_isOfBooks_21 22 = true := by decide +kernel
def b_X5_init_0 : List z_E := [(.aload_n 0, 1, 0, 0, 0), (.invokespecial 3, 3, 0, 7, 0), (.aload_n 0, 1, 0, 0, 0), (.lload_n 1, 1, 0, 0, 0), (.putfield 9, 3, 7, 0, 1), (.aload_n 0, 1, 0, 0, 0), (.bipush 32, 2, 0, 0, 0), (.newarray .int, 2, 103, 0, 0), (.putfield 15, 3, 7, 1, 2), (.iconst 0, 1, 0, 0, 0), (.istore 5, 2, 0, 0, 0)]
theorem k_X5_init_0 : z_chk 7 true cX5_init 6 0 b_X5_init_0 20 = true := by decide +kernel
def b_X5_init_20 : List z_E := [(.iload 5, 2, 0, 0, 0), (.bipush 32, 2, 0, 0, 0), (.if_icmp .ge 32, 3, 56, 0, 0), (.aload_n 0, 1, 0, 0, 0), (.getfield 15, 3, 7, 1, 2), (.iload 5, 2, 0, 0, 0), (.iload_n 3, 1, 0, 0, 0), (.iload 5, 2, 0, 0, 0), (.iushr, 1, 0, 0, 0), (.iconst 1, 1, 0, 0, 0), (.iand, 1, 0, 0, 0), (.iconst 1, 1, 0, 0, 0), (.if_icmp .ne 8, 3, 48, 0, 0), (.iload 4, 2, 0, 0, 0), (.goto 4, 3, 49, 0, 0)]
theorem k_X5_init_20 : z_chk 7 true cX5_init 6 20 b_X5_init_20 48 = true := by decide +kernel
def b_X5_init_48 : List z_E := [(.iconst (-1), 1, 0, 0, 0)]
theorem k_X5_init_48 : z_chk 7 true cX5_init 6 48 b_X5_init_48 49 = true := by decide +kernel
def b_X5_init_49 : List z_E := [(.iastore, 1, 0, 0, 0), (.iinc 5 1, 3, 0, 0, 0), (.goto (-33), 3, 20, 0, 0)]
theorem k_X5_init_49 : z_chk 7 true cX5_init 6 49 b_X5_init_49 56 = true := by decide +kernel
def b_X5_init_56 : List z_E := [(.return_, 1, 0, 0, 0)]
theorem k_X5_init_56 : z_chk 7 true cX5_init 6 56 b_X5_init_56 57 = true := by decide +kernel
def b_X6_init_0 : List z_E := [(.aload_n 0, 1, 0, 0, 0), (.invokespecial 3, 3, 0, 7, 0), (.aload_n 0, 1, 0, 0, 0), (.iconst 0, 1, 0, 0, 0), (.putfield 9, 3, 8, 6, 0), (.aload_n 0, 1, 0, 0, 0), (.iconst (-1), 1, 0, 0, 0), (.putfield 15, 3, 8, 7, 0), (.aload_n 0, 1, 0, 0, 0), (.iconst (-1), 1, 0, 0, 0), (.putfield 18, 3, 8, 9, 0), (.aload_n 0, 1, 0, 0, 0), (.iconst (-1), 1, 0, 0, 0), (.putfield 21, 3, 8, 10, 0), (.aload_n 0, 1, 0, 0, 0), (.aload_n 1, 1, 0, 0, 0), (.putfield 24, 3, 8, 0, 2), (.aload_n 0, 1, 0, 0, 0), (.aload_n 2, 1, 0, 0, 0), (.putfield 28, 3, 8, 1, 2), (.aload_n 0, 1, 0, 0, 0), (.lload_n 3, 1, 0, 0, 0), (.putfield 31, 3, 8, 2, 1), (.aload_n 0, 1, 0, 0, 0), (.iload 5, 2, 0, 0, 0), (.putfield 35, 3, 8, 3, 0), (.aload_n 0, 1, 0, 0, 0), (.iload 6, 2, 0, 0, 0), (.putfield 38, 3, 8, 4, 0), (.aload_n 0, 1, 0, 0, 0), (.iload 7, 2, 0, 0, 0), (.putfield 41, 3, 8, 5, 0), (.return_, 1, 0, 0, 0)]
theorem k_X6_init_0 : z_chk 8 true cX6_init 8 0 b_X6_init_0 58 = true := by decide +kernel
def b_X7_init_0 : List z_E := [(.aload_n 0, 1, 0, 0, 0), (.invokespecial 3, 3, 0, 7, 0), (.aload_n 0, 1, 0, 0, 0), (.iconst 0, 1, 0, 0, 0), (.putfield 9, 3, 9, 6, 0), (.aload_n 0, 1, 0, 0, 0), (.aload_n 1, 1, 0, 0, 0), (.putfield 15, 3, 9, 4, 2), (.aload_n 0, 1, 0, 0, 0), (.aload_n 2, 1, 0, 0, 0), (.putfield 19, 3, 9, 0, 2), (.aload_n 0, 1, 0, 0, 0), (.iload_n 3, 1, 0, 0, 0), (.putfield 23, 3, 9, 1, 0), (.aload_n 0, 1, 0, 0, 0), (.iload 4, 2, 0, 0, 0), (.putfield 26, 3, 9, 2, 0), (.aload_n 0, 1, 0, 0, 0), (.lload 5, 2, 0, 0, 0), (.putfield 29, 3, 9, 3, 1), (.aload_n 0, 1, 0, 0, 0), (.iload 7, 2, 0, 0, 0), (.putfield 33, 3, 9, 5, 0), (.return_, 1, 0, 0, 0)]
theorem k_X7_init_0 : z_chk 9 true cX7_init 8 0 b_X7_init_0 43 = true := by decide +kernel
def b_X8_init_0 : List z_E := [(.aload_n 0, 1, 0, 0, 0), (.invokespecial 3, 3, 0, 7, 0), (.aload_n 0, 1, 0, 0, 0), (.bipush 60, 2, 0, 0, 0), (.newarray .long, 2, 100, 0, 0), (.putfield 9, 3, 10, 0, 2), (.return_, 1, 0, 0, 0)]
theorem k_X8_init_0 : z_chk 10 true cX8_init 1 0 b_X8_init_0 13 = true := by decide +kernel
def b_X8_begin_0 : List z_E := [(.iconst 0, 1, 0, 0, 0), (.istore_n 3, 1, 0, 0, 0)]
theorem k_X8_begin_0 : z_chk 10 false cX8_begin 4 0 b_X8_begin_0 2 = true := by decide +kernel
def b_X8_begin_2 : List z_E := [(.iload_n 3, 1, 0, 0, 0), (.bipush 60, 2, 0, 0, 0), (.if_icmp .ge 16, 3, 21, 0, 0), (.aload_n 0, 1, 0, 0, 0), (.getfield 9, 3, 10, 0, 2), (.iload_n 3, 1, 0, 0, 0), (.lconst 0, 1, 0, 0, 0), (.lastore, 1, 0, 0, 0), (.iinc 3 1, 3, 0, 0, 0), (.goto (-16), 3, 2, 0, 0)]
theorem k_X8_begin_2 : z_chk 10 false cX8_begin 4 2 b_X8_begin_2 21 = true := by decide +kernel
def b_X8_begin_21 : List z_E := [(.aload_n 0, 1, 0, 0, 0), (.iconst 1, 1, 0, 0, 0), (.putfield 15, 3, 10, 1, 3), (.aload_n 0, 1, 0, 0, 0), (.iload_n 1, 1, 0, 0, 0), (.putfield 19, 3, 10, 2, 0), (.aload_n 0, 1, 0, 0, 0), (.iload_n 2, 1, 0, 0, 0), (.putfield 23, 3, 10, 3, 0), (.return_, 1, 0, 0, 0)]
theorem k_X8_begin_21 : z_chk 10 false cX8_begin 4 21 b_X8_begin_21 37 = true := by decide +kernel
def b_X8_cutToWidth_0 : List z_E := [(.aload_n 0, 1, 0, 0, 0), (.getfield 19, 3, 10, 2, 0), (.tableswitch 42 0 2 #[28, 33, 38], 28, 4, 0, 0)]
theorem k_X8_cutToWidth_0 : z_chk 10 false cX8_cutToWidth 3 0 b_X8_cutToWidth_0 32 = true := by decide +kernel
def b_X8_cutToWidth_32 : List z_E := [(.lload_n 1, 1, 0, 0, 0), (.l2i, 1, 0, 0, 0), (.i2b, 1, 0, 0, 0), (.i2l, 1, 0, 0, 0), (.lreturn, 1, 0, 0, 0)]
theorem k_X8_cutToWidth_32 : z_chk 10 false cX8_cutToWidth 3 32 b_X8_cutToWidth_32 37 = true := by decide +kernel
def b_X8_cutToWidth_37 : List z_E := [(.lload_n 1, 1, 0, 0, 0), (.l2i, 1, 0, 0, 0), (.i2s, 1, 0, 0, 0), (.i2l, 1, 0, 0, 0), (.lreturn, 1, 0, 0, 0)]
theorem k_X8_cutToWidth_37 : z_chk 10 false cX8_cutToWidth 3 37 b_X8_cutToWidth_37 42 = true := by decide +kernel
def b_X8_cutToWidth_42 : List z_E := [(.lload_n 1, 1, 0, 0, 0), (.l2i, 1, 0, 0, 0), (.i2l, 1, 0, 0, 0), (.lreturn, 1, 0, 0, 0)]
theorem k_X8_cutToWidth_42 : z_chk 10 false cX8_cutToWidth 3 42 b_X8_cutToWidth_42 46 = true := by decide +kernel
def b_X8_cutToWidth_46 : List z_E := [(.lload_n 1, 1, 0, 0, 0), (.lreturn, 1, 0, 0, 0)]
theorem k_X8_cutToWidth_46 : z_chk 10 false cX8_cutToWidth 3 46 b_X8_cutToWidth_46 48 = true := by decide +kernel
def b_X8_hasStretch_0 : List z_E := [(.iload_n 1, 1, 0, 0, 0), (.ifCond .lt 21, 3, 22, 0, 0), (.iload_n 2, 1, 0, 0, 0), (.ifCond .lt 17, 3, 22, 0, 0), (.iload_n 1, 1, 0, 0, 0), (.aload_n 0, 1, 0, 0, 0), (.getfield 23, 3, 10, 3, 0), (.iload_n 2, 1, 0, 0, 0), (.isub, 1, 0, 0, 0), (.if_icmp .gt 7, 3, 22, 0, 0), (.iconst 1, 1, 0, 0, 0), (.goto 4, 3, 23, 0, 0)]
theorem k_X8_hasStretch_0 : z_chk 10 false cX8_hasStretch 3 0 b_X8_hasStretch_0 22 = true := by decide +kernel
def b_X8_hasStretch_22 : List z_E := [(.iconst 0, 1, 0, 0, 0)]
theorem k_X8_hasStretch_22 : z_chk 10 false cX8_hasStretch 3 22 b_X8_hasStretch_22 23 = true := by decide +kernel
def b_X8_hasStretch_23 : List z_E := [(.ireturn, 1, 0, 0, 0)]
theorem k_X8_hasStretch_23 : z_chk 10 false cX8_hasStretch 3 23 b_X8_hasStretch_23 24 = true := by decide +kernel
def b_X9_init_0 : List z_E := [(.aload_n 0, 1, 0, 0, 0), (.invokespecial 1, 3, 0, 7, 0), (.aload_n 0, 1, 0, 0, 0), (.sipush 1000, 3, 0, 0, 0), (.putfield 7, 3, 11, 0, 0), (.aload_n 0, 1, 0, 0, 0), (.iconst 5, 1, 0, 0, 0), (.putfield 13, 3, 11, 1, 0), (.aload_n 0, 1, 0, 0, 0), (.sipush 180, 3, 0, 0, 0), (.putfield 16, 3, 11, 2, 0), (.aload_n 0, 1, 0, 0, 0), (.iconst 3, 1, 0, 0, 0), (.putfield 19, 3, 11, 3, 0), (.aload_n 0, 1, 0, 0, 0), (.bipush 10, 2, 0, 0, 0), (.putfield 22, 3, 11, 4, 0), (.aload_n 0, 1, 0, 0, 0), (.iconst 5, 1, 0, 0, 0), (.putfield 25, 3, 11, 5, 0), (.aload_n 0, 1, 0, 0, 0), (.bipush 30, 2, 0, 0, 0), (.putfield 28, 3, 11, 6, 0), (.aload_n 0, 1, 0, 0, 0), (.bipush 60, 2, 0, 0, 0), (.putfield 31, 3, 11, 7, 0), (.return_, 1, 0, 0, 0)]
theorem k_X9_init_0 : z_chk 11 true cX9_init 1 0 b_X9_init_0 52 = true := by decide +kernel
def b_X10_init_0 : List z_E := [(.aload_n 0, 1, 0, 0, 0), (.invokespecial 3, 3, 0, 7, 0), (.return_, 1, 0, 0, 0)]
theorem k_X10_init_0 : z_chk 12 true cX10_init 1 0 b_X10_init_0 5 = true := by decide +kernel
def b_X10_weigh_0 : List z_E := [(.aload_n 0, 1, 0, 0, 0), (.iconst 0, 1, 0, 0, 0), (.putfield 9, 3, 12, 0, 0), (.aload_n 0, 1, 0, 0, 0), (.iconst 0, 1, 0, 0, 0), (.putfield 15, 3, 12, 1, 0), (.iconst 0, 1, 0, 0, 0), (.istore_n 3, 1, 0, 0, 0)]
theorem k_X10_weigh_0 : z_chk 12 false cX10_weigh 6 0 b_X10_weigh_0 12 = true := by decide +kernel
def b_X10_weigh_12 : List z_E := [(.iload_n 3, 1, 0, 0, 0), (.aload_n 1, 1, 0, 0, 0), (.getfield 18, 3, 10, 3, 0), (.if_icmp .ge 104, 3, 121, 0, 0), (.iload_n 3, 1, 0, 0, 0), (.bipush 60, 2, 0, 0, 0), (.if_icmp .ge 98, 3, 121, 0, 0), (.aload_n 1, 1, 0, 0, 0), (.getfield 23, 3, 10, 0, 2), (.iload_n 3, 1, 0, 0, 0), (.laload, 1, 0, 0, 0), (.lstore 4, 2, 0, 0, 0), (.aload_n 2, 1, 0, 0, 0), (.lload 4, 2, 0, 0, 0), (.invokevirtual 27, 3, 2, 0, 0), (.ifCond .eq 75, 3, 115, 0, 0), (.aload_n 0, 1, 0, 0, 0), (.aload_n 0, 1, 0, 0, 0), (.getfield 9, 3, 12, 0, 0), (.ifCond .ne 8, 3, 56, 0, 0), (.lload 4, 2, 0, 0, 0), (.goto 12, 3, 65, 0, 0)]
theorem k_X10_weigh_12 : z_chk 12 false cX10_weigh 6 12 b_X10_weigh_12 56 = true := by decide +kernel
def b_X10_weigh_56 : List z_E := [(.aload_n 0, 1, 0, 0, 0), (.getfield 33, 3, 12, 2, 1), (.lload 4, 2, 0, 0, 0), (.invokestatic 37, 3, 2, 0, 0)]
theorem k_X10_weigh_56 : z_chk 12 false cX10_weigh 6 56 b_X10_weigh_56 65 = true := by decide +kernel
def b_X10_weigh_65 : List z_E := [(.putfield 33, 3, 12, 2, 1), (.aload_n 0, 1, 0, 0, 0), (.aload_n 0, 1, 0, 0, 0), (.getfield 9, 3, 12, 0, 0), (.ifCond .ne 8, 3, 81, 0, 0), (.lload 4, 2, 0, 0, 0), (.goto 12, 3, 90, 0, 0)]
theorem k_X10_weigh_65 : z_chk 12 false cX10_weigh 6 65 b_X10_weigh_65 81 = true := by decide +kernel
def b_X10_weigh_81 : List z_E := [(.aload_n 0, 1, 0, 0, 0), (.getfield 43, 3, 12, 3, 1), (.lload 4, 2, 0, 0, 0), (.invokestatic 46, 3, 2, 0, 0)]
theorem k_X10_weigh_81 : z_chk 12 false cX10_weigh 6 81 b_X10_weigh_81 90 = true := by decide +kernel
def b_X10_weigh_90 : List z_E := [(.putfield 43, 3, 12, 3, 1), (.aload_n 0, 1, 0, 0, 0), (.dup, 1, 0, 0, 0), (.getfield 9, 3, 12, 0, 0), (.iconst 1, 1, 0, 0, 0), (.iadd, 1, 0, 0, 0), (.putfield 9, 3, 12, 0, 0), (.aload_n 0, 1, 0, 0, 0), (.dup, 1, 0, 0, 0), (.getfield 15, 3, 12, 1, 0), (.lload 4, 2, 0, 0, 0), (.l2i, 1, 0, 0, 0), (.iadd, 1, 0, 0, 0), (.putfield 15, 3, 12, 1, 0)]
theorem k_X10_weigh_90 : z_chk 12 false cX10_weigh 6 90 b_X10_weigh_90 115 = true := by decide +kernel
def b_X10_weigh_115 : List z_E := [(.iinc 3 1, 3, 0, 0, 0), (.goto (-106), 3, 12, 0, 0)]
theorem k_X10_weigh_115 : z_chk 12 false cX10_weigh 6 115 b_X10_weigh_115 121 = true := by decide +kernel
def b_X10_weigh_121 : List z_E := [(.return_, 1, 0, 0, 0)]
theorem k_X10_weigh_121 : z_chk 12 false cX10_weigh 6 121 b_X10_weigh_121 122 = true := by decide +kernel
def b_X11_init_0 : List z_E := [(.aload_n 0, 1, 0, 0, 0), (.invokespecial 1, 3, 0, 7, 0), (.aload_n 0, 1, 0, 0, 0), (.new 7, 3, 11, 0, 0), (.dup, 1, 0, 0, 0), (.invokespecial 9, 3, 1, 0, 0), (.putfield 10, 3, 13, 0, 2), (.aload_n 0, 1, 0, 0, 0), (.new 16, 7, 200, 1, 18), (.putfield 19, 3, 13, 1, 2), (.aload_n 0, 1, 0, 0, 0), (.new 16, 7, 201, 1, 18), (.putfield 23, 3, 13, 2, 2), (.aload_n 0, 1, 0, 0, 0), (.new 16, 7, 202, 1, 18), (.putfield 26, 3, 13, 3, 2), (.aload_n 0, 1, 0, 0, 0), (.new 16, 7, 203, 1, 18), (.putfield 29, 3, 13, 4, 2), (.aload_n 0, 1, 0, 0, 0), (.new 16, 7, 204, 1, 18), (.putfield 32, 3, 13, 5, 2), (.aload_n 0, 1, 0, 0, 0), (.new 16, 7, 205, 1, 18), (.putfield 35, 3, 13, 6, 2), (.iconst 0, 1, 0, 0, 0), (.istore_n 1, 1, 0, 0, 0)]
theorem k_X11_init_0 : z_chk 13 true cX11_init 2 0 b_X11_init_0 83 = true := by decide +kernel
def b_X11_init_83 : List z_E := [(.iload_n 1, 1, 0, 0, 0), (.iconst 4, 1, 0, 0, 0), (.if_icmp .ge 24, 3, 109, 0, 0), (.aload_n 0, 1, 0, 0, 0), (.getfield 35, 3, 13, 6, 2), (.new 38, 3, 10, 0, 0), (.dup, 1, 0, 0, 0), (.invokespecial 40, 3, 1, 0, 0), (.invokevirtual 41, 3, 0, 3, 0), (.pop, 1, 0, 0, 0), (.iinc 1 1, 3, 0, 0, 0), (.goto (-23), 3, 83, 0, 0)]
theorem k_X11_init_83 : z_chk 13 true cX11_init 2 83 b_X11_init_83 109 = true := by decide +kernel
def b_X11_init_109 : List z_E := [(.aload_n 0, 1, 0, 0, 0), (.new 45, 3, 5, 0, 0), (.dup, 1, 0, 0, 0), (.invokespecial 47, 3, 1, 0, 0), (.putfield 48, 3, 13, 7, 2), (.aload_n 0, 1, 0, 0, 0), (.new 52, 3, 3, 0, 0), (.dup, 1, 0, 0, 0), (.invokespecial 54, 3, 1, 0, 0), (.putfield 55, 3, 13, 8, 2), (.aload_n 0, 1, 0, 0, 0), (.new 59, 3, 12, 0, 0), (.dup, 1, 0, 0, 0), (.invokespecial 61, 3, 1, 0, 0), (.putfield 62, 3, 13, 9, 2), (.return_, 1, 0, 0, 0)]
theorem k_X11_init_109 : z_chk 13 true cX11_init 2 109 b_X11_init_109 143 = true := by decide +kernel
def b_X11_terms_0 : List z_E := [(.iload_n 1, 1, 0, 0, 0), (.i2l, 1, 0, 0, 0), (.lconst 1, 1, 0, 0, 0), (.ldc2_w 66, 3, 0, 0, 100000), (.invokestatic 68, 3, 3, 0, 0), (.ifCond .eq 100, 3, 109, 0, 0), (.iload_n 2, 1, 0, 0, 0), (.i2l, 1, 0, 0, 0), (.lconst 0, 1, 0, 0, 0), (.ldc2_w 72, 3, 0, 0, 100), (.invokestatic 68, 3, 3, 0, 0), (.ifCond .eq 88, 3, 109, 0, 0), (.iload_n 3, 1, 0, 0, 0), (.i2l, 1, 0, 0, 0), (.lconst 1, 1, 0, 0, 0), (.ldc2_w 74, 3, 0, 0, 1000), (.invokestatic 68, 3, 3, 0, 0), (.ifCond .eq 76, 3, 109, 0, 0), (.iload 4, 2, 0, 0, 0), (.i2l, 1, 0, 0, 0), (.lconst 0, 1, 0, 0, 0), (.ldc2_w 72, 3, 0, 0, 100), (.invokestatic 68, 3, 3, 0, 0), (.ifCond .eq 63, 3, 109, 0, 0), (.iload 5, 2, 0, 0, 0), (.i2l, 1, 0, 0, 0), (.lconst 0, 1, 0, 0, 0), (.ldc2_w 74, 3, 0, 0, 1000), (.invokestatic 68, 3, 3, 0, 0), (.ifCond .eq 50, 3, 109, 0, 0), (.iload 6, 2, 0, 0, 0), (.i2l, 1, 0, 0, 0), (.lconst 0, 1, 0, 0, 0), (.ldc2_w 72, 3, 0, 0, 100), (.invokestatic 68, 3, 3, 0, 0), (.ifCond .eq 37, 3, 109, 0, 0), (.iload 7, 2, 0, 0, 0), (.i2l, 1, 0, 0, 0), (.ldc2_w 76, 3, 0, 0, (-100)), (.iload 8, 2, 0, 0, 0), (.i2l, 1, 0, 0, 0), (.invokestatic 68, 3, 3, 0, 0), (.ifCond .eq 22, 3, 109, 0, 0), (.iload 8, 2, 0, 0, 0), (.i2l, 1, 0, 0, 0), (.iload 7, 2, 0, 0, 0), (.i2l, 1, 0, 0, 0), (.ldc2_w 78, 3, 0, 0, 300), (.invokestatic 68, 3, 3, 0, 0), (.ifCond .eq 7, 3, 109, 0, 0), (.iconst 1, 1, 0, 0, 0), (.goto 4, 3, 110, 0, 0)]
theorem k_X11_terms_0 : z_chk 13 false cX11_terms 10 0 b_X11_terms_0 109 = true := by decide +kernel
def b_X11_terms_109 : List z_E := [(.iconst 0, 1, 0, 0, 0)]
theorem k_X11_terms_109 : z_chk 13 false cX11_terms 10 109 b_X11_terms_109 110 = true := by decide +kernel
def b_X11_terms_110 : List z_E := [(.istore 9, 2, 0, 0, 0), (.iload 9, 2, 0, 0, 0), (.ifCond .ne 6, 3, 120, 0, 0), (.bipush (-2), 2, 0, 0, 0), (.ireturn, 1, 0, 0, 0)]
theorem k_X11_terms_110 : z_chk 13 false cX11_terms 10 110 b_X11_terms_110 120 = true := by decide +kernel
def b_X11_terms_120 : List z_E := [(.aload_n 0, 1, 0, 0, 0), (.getfield 10, 3, 13, 0, 2), (.iload_n 1, 1, 0, 0, 0), (.putfield 80, 3, 11, 0, 0), (.aload_n 0, 1, 0, 0, 0), (.getfield 10, 3, 13, 0, 2), (.iload_n 2, 1, 0, 0, 0), (.putfield 84, 3, 11, 1, 0), (.aload_n 0, 1, 0, 0, 0), (.getfield 10, 3, 13, 0, 2), (.iload_n 3, 1, 0, 0, 0), (.putfield 87, 3, 11, 2, 0), (.aload_n 0, 1, 0, 0, 0), (.getfield 10, 3, 13, 0, 2), (.iload 4, 2, 0, 0, 0), (.putfield 90, 3, 11, 3, 0), (.aload_n 0, 1, 0, 0, 0), (.getfield 10, 3, 13, 0, 2), (.iload 5, 2, 0, 0, 0), (.putfield 93, 3, 11, 4, 0), (.aload_n 0, 1, 0, 0, 0), (.getfield 10, 3, 13, 0, 2), (.iload 6, 2, 0, 0, 0), (.putfield 96, 3, 11, 5, 0), (.aload_n 0, 1, 0, 0, 0), (.getfield 10, 3, 13, 0, 2), (.iload 7, 2, 0, 0, 0), (.putfield 99, 3, 11, 6, 0), (.aload_n 0, 1, 0, 0, 0), (.getfield 10, 3, 13, 0, 2), (.iload 8, 2, 0, 0, 0), (.putfield 102, 3, 11, 7, 0), (.iconst 0, 1, 0, 0, 0), (.ireturn, 1, 0, 0, 0)]
theorem k_X11_terms_120 : z_chk 13 false cX11_terms 10 120 b_X11_terms_120 191 = true := by decide +kernel
def b_X11_kind_0 : List z_E := [(.iload_n 1, 1, 0, 0, 0), (.i2l, 1, 0, 0, 0), (.lconst 1, 1, 0, 0, 0), (.ldc2_w 66, 3, 0, 0, 100000), (.invokestatic 68, 3, 3, 0, 0), (.ifCond .eq 26, 3, 35, 0, 0), (.iload_n 2, 1, 0, 0, 0), (.i2l, 1, 0, 0, 0), (.lconst 1, 1, 0, 0, 0), (.iload_n 1, 1, 0, 0, 0), (.i2l, 1, 0, 0, 0), (.invokestatic 68, 3, 3, 0, 0), (.ifCond .eq 15, 3, 35, 0, 0), (.iload_n 3, 1, 0, 0, 0), (.i2l, 1, 0, 0, 0), (.lconst 1, 1, 0, 0, 0), (.ldc2_w 74, 3, 0, 0, 1000), (.invokestatic 68, 3, 3, 0, 0), (.ifCond .ne 6, 3, 38, 0, 0)]
theorem k_X11_kind_0 : z_chk 13 false cX11_kind 4 0 b_X11_kind_0 35 = true := by decide +kernel
def b_X11_kind_35 : List z_E := [(.bipush (-2), 2, 0, 0, 0), (.ireturn, 1, 0, 0, 0)]
theorem k_X11_kind_35 : z_chk 13 false cX11_kind 4 35 b_X11_kind_35 38 = true := by decide +kernel
def b_X11_kind_38 : List z_E := [(.aload_n 0, 1, 0, 0, 0), (.getfield 19, 3, 13, 1, 2), (.invokevirtual 105, 3, 0, 1, 0), (.bipush 6, 2, 0, 0, 0), (.if_icmp .lt 6, 3, 53, 0, 0), (.bipush (-3), 2, 0, 0, 0), (.ireturn, 1, 0, 0, 0)]
theorem k_X11_kind_38 : z_chk 13 false cX11_kind 4 38 b_X11_kind_38 53 = true := by decide +kernel
def b_X11_kind_53 : List z_E := [(.aload_n 0, 1, 0, 0, 0), (.getfield 19, 3, 13, 1, 2), (.new 109, 3, 4, 0, 0), (.dup, 1, 0, 0, 0), (.aload_n 0, 1, 0, 0, 0), (.getfield 19, 3, 13, 1, 2), (.invokevirtual 105, 3, 0, 1, 0), (.iload_n 1, 1, 0, 0, 0), (.iload_n 2, 1, 0, 0, 0), (.iload_n 3, 1, 0, 0, 0), (.invokespecial 111, 3, 5, 0, 0), (.invokevirtual 41, 3, 0, 3, 0), (.pop, 1, 0, 0, 0), (.aload_n 0, 1, 0, 0, 0), (.getfield 19, 3, 13, 1, 2), (.invokevirtual 105, 3, 0, 1, 0), (.iconst 1, 1, 0, 0, 0), (.isub, 1, 0, 0, 0), (.ireturn, 1, 0, 0, 0)]
theorem k_X11_kind_53 : z_chk 13 false cX11_kind 4 53 b_X11_kind_53 88 = true := by decide +kernel
def b_X11_account_0 : List z_E := [(.aload_n 0, 1, 0, 0, 0), (.getfield 23, 3, 13, 2, 2), (.invokevirtual 105, 3, 0, 1, 0), (.bipush 24, 2, 0, 0, 0), (.if_icmp .lt 6, 3, 15, 0, 0), (.bipush (-3), 2, 0, 0, 0), (.ireturn, 1, 0, 0, 0)]
theorem k_X11_account_0 : z_chk 13 false cX11_account 1 0 b_X11_account_0 15 = true := by decide +kernel
def b_X11_account_15 : List z_E := [(.aload_n 0, 1, 0, 0, 0), (.getfield 23, 3, 13, 2, 2), (.new 114, 3, 2, 0, 0), (.dup, 1, 0, 0, 0), (.aload_n 0, 1, 0, 0, 0), (.getfield 23, 3, 13, 2, 2), (.invokevirtual 105, 3, 0, 1, 0), (.invokespecial 116, 3, 2, 0, 0), (.invokevirtual 41, 3, 0, 3, 0), (.pop, 1, 0, 0, 0), (.aload_n 0, 1, 0, 0, 0), (.getfield 23, 3, 13, 2, 2), (.invokevirtual 105, 3, 0, 1, 0), (.iconst 1, 1, 0, 0, 0), (.isub, 1, 0, 0, 0), (.ireturn, 1, 0, 0, 0)]
theorem k_X11_account_15 : z_chk 13 false cX11_account 1 15 b_X11_account_15 47 = true := by decide +kernel
def b_X11_attorney_0 : List z_E := [(.aload_n 0, 1, 0, 0, 0), (.iload_n 1, 1, 0, 0, 0), (.invokevirtual 119, 3, 2, 0, 0), (.astore 4, 2, 0, 0, 0), (.aload 4, 2, 0, 0, 0), (.ifnull 27, 3, 36, 0, 0), (.iload_n 2, 1, 0, 0, 0), (.i2l, 1, 0, 0, 0), (.lconst 0, 1, 0, 0, 0), (.ldc2_w 123, 3, 0, 0, 99), (.invokestatic 68, 3, 3, 0, 0), (.ifCond .eq 15, 3, 36, 0, 0), (.iload_n 3, 1, 0, 0, 0), (.i2l, 1, 0, 0, 0), (.lconst 0, 1, 0, 0, 0), (.ldc2_w 125, 3, 0, 0, 5000), (.invokestatic 68, 3, 3, 0, 0), (.ifCond .ne 6, 3, 39, 0, 0)]
theorem k_X11_attorney_0 : z_chk 13 false cX11_attorney 5 0 b_X11_attorney_0 36 = true := by decide +kernel
def b_X11_attorney_36 : List z_E := [(.bipush (-2), 2, 0, 0, 0), (.ireturn, 1, 0, 0, 0)]
theorem k_X11_attorney_36 : z_chk 13 false cX11_attorney 5 36 b_X11_attorney_36 39 = true := by decide +kernel
def b_X11_attorney_39 : List z_E := [(.aload 4, 2, 0, 0, 0), (.iload_n 2, 1, 0, 0, 0), (.putfield 127, 3, 2, 5, 0), (.aload 4, 2, 0, 0, 0), (.iload_n 3, 1, 0, 0, 0), (.putfield 130, 3, 2, 6, 0), (.iconst 0, 1, 0, 0, 0), (.ireturn, 1, 0, 0, 0)]
theorem k_X11_attorney_39 : z_chk 13 false cX11_attorney 5 39 b_X11_attorney_39 53 = true := by decide +kernel
def b_X11_take_0 : List z_E := [(.aload_n 0, 1, 0, 0, 0), (.iload_n 1, 1, 0, 0, 0), (.invokevirtual 119, 3, 2, 0, 0), (.astore 4, 2, 0, 0, 0), (.aload_n 0, 1, 0, 0, 0), (.iload_n 2, 1, 0, 0, 0), (.invokevirtual 133, 3, 2, 0, 0), (.astore 5, 2, 0, 0, 0), (.aload_n 0, 1, 0, 0, 0), (.iload_n 3, 1, 0, 0, 0), (.invokevirtual 137, 3, 2, 0, 0), (.astore 6, 2, 0, 0, 0), (.aload 4, 2, 0, 0, 0), (.ifnull 13, 3, 36, 0, 0), (.aload 5, 2, 0, 0, 0), (.ifnull 8, 3, 36, 0, 0), (.aload 6, 2, 0, 0, 0), (.ifnonnull 6, 3, 39, 0, 0)]
theorem k_X11_take_0 : z_chk 13 false cX11_take 7 0 b_X11_take_0 36 = true := by decide +kernel
def b_X11_take_36 : List z_E := [(.bipush (-2), 2, 0, 0, 0), (.ireturn, 1, 0, 0, 0)]
theorem k_X11_take_36 : z_chk 13 false cX11_take 7 36 b_X11_take_36 39 = true := by decide +kernel
def b_X11_take_39 : List z_E := [(.aload 6, 2, 0, 0, 0), (.getfield 141, 3, 10, 1, 3), (.ifCond .ne 6, 3, 50, 0, 0), (.bipush (-5), 2, 0, 0, 0), (.ireturn, 1, 0, 0, 0)]
theorem k_X11_take_39 : z_chk 13 false cX11_take 7 39 b_X11_take_39 50 = true := by decide +kernel
def b_X11_take_50 : List z_E := [(.aload_n 0, 1, 0, 0, 0), (.getfield 26, 3, 13, 3, 2), (.invokevirtual 105, 3, 0, 1, 0), (.sipush 200, 3, 0, 0, 0), (.if_icmp .ge 11, 3, 71, 0, 0), (.aload_n 0, 1, 0, 0, 0), (.invokevirtual 145, 3, 1, 0, 0), (.iconst 1, 1, 0, 0, 0), (.if_icmp .ge 6, 3, 74, 0, 0)]
theorem k_X11_take_50 : z_chk 13 false cX11_take 7 50 b_X11_take_50 71 = true := by decide +kernel
def b_X11_take_71 : List z_E := [(.bipush (-3), 2, 0, 0, 0), (.ireturn, 1, 0, 0, 0)]
theorem k_X11_take_71 : z_chk 13 false cX11_take 7 71 b_X11_take_71 74 = true := by decide +kernel
def b_X11_take_74 : List z_E := [(.aload_n 0, 1, 0, 0, 0), (.getfield 62, 3, 13, 9, 2), (.aload 6, 2, 0, 0, 0), (.aload 5, 2, 0, 0, 0), (.invokevirtual 148, 3, 3, 0, 0), (.aload_n 0, 1, 0, 0, 0), (.getfield 62, 3, 13, 9, 2), (.getfield 152, 3, 12, 0, 0), (.ifCond .le 25, 3, 117, 0, 0), (.aload_n 0, 1, 0, 0, 0), (.aload 4, 2, 0, 0, 0), (.aload 5, 2, 0, 0, 0), (.aload_n 0, 1, 0, 0, 0), (.getfield 62, 3, 13, 9, 2), (.getfield 152, 3, 12, 0, 0), (.aload_n 0, 1, 0, 0, 0), (.getfield 62, 3, 13, 9, 2), (.getfield 155, 3, 12, 1, 0), (.invokevirtual 158, 3, 5, 0, 0)]
theorem k_X11_take_74 : z_chk 13 false cX11_take 7 74 b_X11_take_74 117 = true := by decide +kernel
def b_X11_take_117 : List z_E := [(.aload_n 0, 1, 0, 0, 0), (.getfield 62, 3, 13, 9, 2), (.getfield 152, 3, 12, 0, 0), (.ireturn, 1, 0, 0, 0)]
theorem k_X11_take_117 : z_chk 13 false cX11_take 7 117 b_X11_take_117 125 = true := by decide +kernel
def b_X11_redeem_0 : List z_E := [(.aload_n 0, 1, 0, 0, 0), (.iload_n 1, 1, 0, 0, 0), (.invokevirtual 162, 3, 2, 0, 0), (.astore_n 2, 1, 0, 0, 0), (.aload_n 2, 1, 0, 0, 0), (.ifnonnull 7, 3, 14, 0, 0), (.ldc2_w 166, 3, 0, 0, (-2)), (.lreturn, 1, 0, 0, 0)]
theorem k_X11_redeem_0 : z_chk 13 false cX11_redeem 8 0 b_X11_redeem_0 14 = true := by decide +kernel
def b_X11_redeem_14 : List z_E := [(.aload_n 2, 1, 0, 0, 0), (.getfield 168, 3, 9, 0, 2), (.astore_n 3, 1, 0, 0, 0), (.aload_n 0, 1, 0, 0, 0), (.aload_n 2, 1, 0, 0, 0), (.invokevirtual 174, 3, 2, 0, 0), (.lstore 4, 2, 0, 0, 0), (.aload_n 2, 1, 0, 0, 0), (.getfield 178, 3, 9, 3, 1), (.lload 4, 2, 0, 0, 0), (.ladd, 1, 0, 0, 0), (.lstore 6, 2, 0, 0, 0), (.aload_n 2, 1, 0, 0, 0), (.getfield 182, 3, 9, 4, 2), (.getfield 186, 3, 2, 4, 1), (.lload 6, 2, 0, 0, 0), (.lcmp, 1, 0, 0, 0), (.ifCond .ge 7, 3, 52, 0, 0), (.ldc2_w 189, 3, 0, 0, (-7)), (.lreturn, 1, 0, 0, 0)]
theorem k_X11_redeem_14 : z_chk 13 false cX11_redeem 8 14 b_X11_redeem_14 52 = true := by decide +kernel
def b_X11_redeem_52 : List z_E := [(.aload_n 0, 1, 0, 0, 0), (.invokevirtual 145, 3, 1, 0, 0), (.iconst 1, 1, 0, 0, 0), (.if_icmp .ge 7, 3, 64, 0, 0), (.ldc2_w 191, 3, 0, 0, (-3)), (.lreturn, 1, 0, 0, 0)]
theorem k_X11_redeem_52 : z_chk 13 false cX11_redeem 8 52 b_X11_redeem_52 64 = true := by decide +kernel
def b_X11_redeem_64 : List z_E := [(.aload_n 3, 1, 0, 0, 0), (.getfield 193, 3, 4, 4, 0), (.aload_n 2, 1, 0, 0, 0), (.getfield 194, 3, 9, 1, 0), (.if_icmp .lt 16, 3, 88, 0, 0), (.aload_n 3, 1, 0, 0, 0), (.getfield 195, 3, 4, 5, 1), (.aload_n 2, 1, 0, 0, 0), (.getfield 197, 3, 9, 2, 0), (.i2l, 1, 0, 0, 0), (.lcmp, 1, 0, 0, 0), (.ifCond .ge 7, 3, 92, 0, 0)]
theorem k_X11_redeem_64 : z_chk 13 false cX11_redeem 8 64 b_X11_redeem_64 88 = true := by decide +kernel
def b_X11_redeem_88 : List z_E := [(.ldc2_w 198, 3, 0, 0, (-8)), (.lreturn, 1, 0, 0, 0)]
theorem k_X11_redeem_88 : z_chk 13 false cX11_redeem 8 88 b_X11_redeem_88 92 = true := by decide +kernel
def b_X11_redeem_92 : List z_E := [(.aload_n 3, 1, 0, 0, 0), (.dup, 1, 0, 0, 0), (.getfield 193, 3, 4, 4, 0), (.aload_n 2, 1, 0, 0, 0), (.getfield 194, 3, 9, 1, 0), (.isub, 1, 0, 0, 0), (.putfield 193, 3, 4, 4, 0), (.aload_n 3, 1, 0, 0, 0), (.dup, 1, 0, 0, 0), (.getfield 195, 3, 4, 5, 1), (.aload_n 2, 1, 0, 0, 0), (.getfield 197, 3, 9, 2, 0), (.i2l, 1, 0, 0, 0), (.lsub, 1, 0, 0, 0), (.putfield 195, 3, 4, 5, 1), (.aload_n 2, 1, 0, 0, 0), (.iconst 1, 1, 0, 0, 0), (.putfield 200, 3, 9, 6, 0), (.aload_n 0, 1, 0, 0, 0), (.aload_n 2, 1, 0, 0, 0), (.getfield 182, 3, 9, 4, 2), (.lload 6, 2, 0, 0, 0), (.invokevirtual 203, 3, 3, 0, 0), (.aload_n 0, 1, 0, 0, 0), (.dup, 1, 0, 0, 0), (.getfield 207, 3, 13, 12, 1), (.lload 4, 2, 0, 0, 0), (.ladd, 1, 0, 0, 0), (.putfield 207, 3, 13, 12, 1), (.lload 6, 2, 0, 0, 0), (.lreturn, 1, 0, 0, 0)]
theorem k_X11_redeem_92 : z_chk 13 false cX11_redeem 8 92 b_X11_redeem_92 148 = true := by decide +kernel
def b_X11_prolong_0 : List z_E := [(.aload_n 0, 1, 0, 0, 0), (.iload_n 1, 1, 0, 0, 0), (.invokevirtual 162, 3, 2, 0, 0), (.astore_n 2, 1, 0, 0, 0), (.aload_n 2, 1, 0, 0, 0), (.ifnonnull 7, 3, 14, 0, 0), (.ldc2_w 166, 3, 0, 0, (-2)), (.lreturn, 1, 0, 0, 0)]
theorem k_X11_prolong_0 : z_chk 13 false cX11_prolong 5 0 b_X11_prolong_0 14 = true := by decide +kernel
def b_X11_prolong_14 : List z_E := [(.aload_n 0, 1, 0, 0, 0), (.aload_n 2, 1, 0, 0, 0), (.invokevirtual 174, 3, 2, 0, 0), (.lstore_n 3, 1, 0, 0, 0), (.aload_n 2, 1, 0, 0, 0), (.getfield 182, 3, 9, 4, 2), (.getfield 186, 3, 2, 4, 1), (.lload_n 3, 1, 0, 0, 0), (.lcmp, 1, 0, 0, 0), (.ifCond .ge 7, 3, 36, 0, 0), (.ldc2_w 189, 3, 0, 0, (-7)), (.lreturn, 1, 0, 0, 0)]
theorem k_X11_prolong_14 : z_chk 13 false cX11_prolong 5 14 b_X11_prolong_14 36 = true := by decide +kernel
def b_X11_prolong_36 : List z_E := [(.aload_n 0, 1, 0, 0, 0), (.invokevirtual 145, 3, 1, 0, 0), (.iconst 1, 1, 0, 0, 0), (.if_icmp .ge 7, 3, 48, 0, 0), (.ldc2_w 191, 3, 0, 0, (-3)), (.lreturn, 1, 0, 0, 0)]
theorem k_X11_prolong_36 : z_chk 13 false cX11_prolong 5 36 b_X11_prolong_36 48 = true := by decide +kernel
def b_X11_prolong_48 : List z_E := [(.aload_n 2, 1, 0, 0, 0), (.dup, 1, 0, 0, 0), (.getfield 210, 3, 9, 5, 0), (.aload_n 0, 1, 0, 0, 0), (.getfield 10, 3, 13, 0, 2), (.getfield 87, 3, 11, 2, 0), (.iadd, 1, 0, 0, 0), (.putfield 210, 3, 9, 5, 0), (.aload_n 0, 1, 0, 0, 0), (.aload_n 2, 1, 0, 0, 0), (.getfield 182, 3, 9, 4, 2), (.lload_n 3, 1, 0, 0, 0), (.invokevirtual 203, 3, 3, 0, 0), (.aload_n 0, 1, 0, 0, 0), (.dup, 1, 0, 0, 0), (.getfield 207, 3, 13, 12, 1), (.lload_n 3, 1, 0, 0, 0), (.ladd, 1, 0, 0, 0), (.putfield 207, 3, 13, 12, 1), (.lload_n 3, 1, 0, 0, 0), (.lreturn, 1, 0, 0, 0)]
theorem k_X11_prolong_48 : z_chk 13 false cX11_prolong 5 48 b_X11_prolong_48 85 = true := by decide +kernel
def b_X11_give_0 : List z_E := [(.aload_n 0, 1, 0, 0, 0), (.iload_n 1, 1, 0, 0, 0), (.invokevirtual 162, 3, 2, 0, 0), (.astore_n 3, 1, 0, 0, 0), (.aload_n 0, 1, 0, 0, 0), (.iload_n 2, 1, 0, 0, 0), (.invokevirtual 119, 3, 2, 0, 0), (.astore 4, 2, 0, 0, 0), (.aload_n 3, 1, 0, 0, 0), (.ifnull 8, 3, 22, 0, 0), (.aload 4, 2, 0, 0, 0), (.ifnonnull 6, 3, 25, 0, 0)]
theorem k_X11_give_0 : z_chk 13 false cX11_give 5 0 b_X11_give_0 22 = true := by decide +kernel
def b_X11_give_22 : List z_E := [(.bipush (-2), 2, 0, 0, 0), (.ireturn, 1, 0, 0, 0)]
theorem k_X11_give_22 : z_chk 13 false cX11_give 5 22 b_X11_give_22 25 = true := by decide +kernel
def b_X11_give_25 : List z_E := [(.aload_n 3, 1, 0, 0, 0), (.aload 4, 2, 0, 0, 0), (.putfield 182, 3, 9, 4, 2), (.iconst 0, 1, 0, 0, 0), (.ireturn, 1, 0, 0, 0)]
theorem k_X11_give_25 : z_chk 13 false cX11_give 5 25 b_X11_give_25 33 = true := by decide +kernel
def b_X11_order_0 : List z_E := [(.iload 5, 2, 0, 0, 0), (.i2l, 1, 0, 0, 0), (.lconst 0, 1, 0, 0, 0), (.ldc2_w 213, 3, 0, 0, 23), (.invokestatic 68, 3, 3, 0, 0), (.ifCond .eq 16, 3, 26, 0, 0), (.iload 6, 2, 0, 0, 0), (.i2l, 1, 0, 0, 0), (.lconst 0, 1, 0, 0, 0), (.ldc2_w 123, 3, 0, 0, 99), (.invokestatic 68, 3, 3, 0, 0), (.ifCond .ne 6, 3, 29, 0, 0)]
theorem k_X11_order_0 : z_chk 13 false cX11_order 8 0 b_X11_order_0 26 = true := by decide +kernel
def b_X11_order_26 : List z_E := [(.bipush (-2), 2, 0, 0, 0), (.ireturn, 1, 0, 0, 0)]
theorem k_X11_order_26 : z_chk 13 false cX11_order 8 26 b_X11_order_26 29 = true := by decide +kernel
def b_X11_order_29 : List z_E := [(.iload 5, 2, 0, 0, 0), (.bipush 11, 2, 0, 0, 0), (.if_icmp .ge 10, 3, 43, 0, 0), (.aload_n 0, 1, 0, 0, 0), (.getfield 215, 3, 13, 10, 0), (.goto 9, 3, 49, 0, 0)]
theorem k_X11_order_29 : z_chk 13 false cX11_order 8 29 b_X11_order_29 43 = true := by decide +kernel
def b_X11_order_43 : List z_E := [(.aload_n 0, 1, 0, 0, 0), (.getfield 215, 3, 13, 10, 0), (.iconst 1, 1, 0, 0, 0), (.iadd, 1, 0, 0, 0)]
theorem k_X11_order_43 : z_chk 13 false cX11_order 8 43 b_X11_order_43 49 = true := by decide +kernel
def b_X11_order_49 : List z_E := [(.istore 7, 2, 0, 0, 0), (.aload_n 0, 1, 0, 0, 0), (.iload_n 1, 1, 0, 0, 0), (.iload_n 2, 1, 0, 0, 0), (.lload_n 3, 1, 0, 0, 0), (.iload 7, 2, 0, 0, 0), (.iload 5, 2, 0, 0, 0), (.iload 6, 2, 0, 0, 0), (.invokevirtual 218, 3, 7, 0, 0), (.ireturn, 1, 0, 0, 0)]
theorem k_X11_order_49 : z_chk 13 false cX11_order 8 49 b_X11_order_49 65 = true := by decide +kernel
def b_X11_bill_0 : List z_E := [(.iload 5, 2, 0, 0, 0), (.i2l, 1, 0, 0, 0), (.lconst 0, 1, 0, 0, 0), (.ldc2_w 74, 3, 0, 0, 1000), (.invokestatic 68, 3, 3, 0, 0), (.ifCond .ne 6, 3, 16, 0, 0), (.bipush (-2), 2, 0, 0, 0), (.ireturn, 1, 0, 0, 0)]
theorem k_X11_bill_0 : z_chk 13 false cX11_bill 6 0 b_X11_bill_0 16 = true := by decide +kernel
def b_X11_bill_16 : List z_E := [(.aload_n 0, 1, 0, 0, 0), (.iload_n 1, 1, 0, 0, 0), (.iload_n 2, 1, 0, 0, 0), (.lload_n 3, 1, 0, 0, 0), (.aload_n 0, 1, 0, 0, 0), (.getfield 215, 3, 13, 10, 0), (.iload 5, 2, 0, 0, 0), (.iadd, 1, 0, 0, 0), (.bipush 9, 2, 0, 0, 0), (.iload_n 1, 1, 0, 0, 0), (.invokevirtual 218, 3, 7, 0, 0), (.ireturn, 1, 0, 0, 0)]
theorem k_X11_bill_16 : z_chk 13 false cX11_bill 6 16 b_X11_bill_16 34 = true := by decide +kernel
def b_X11_slip_0 : List z_E := [(.aload_n 0, 1, 0, 0, 0), (.iload_n 1, 1, 0, 0, 0), (.invokevirtual 222, 3, 2, 0, 0), (.astore 4, 2, 0, 0, 0), (.aload 4, 2, 0, 0, 0), (.ifnull 22, 3, 31, 0, 0), (.aload 4, 2, 0, 0, 0), (.getfield 226, 3, 8, 6, 0), (.ifCond .ne 14, 3, 31, 0, 0), (.aload_n 0, 1, 0, 0, 0), (.aload 4, 2, 0, 0, 0), (.iload_n 2, 1, 0, 0, 0), (.iload_n 3, 1, 0, 0, 0), (.invokevirtual 229, 3, 4, 0, 0), (.ifCond .ne 6, 3, 34, 0, 0)]
theorem k_X11_slip_0 : z_chk 13 false cX11_slip 5 0 b_X11_slip_0 31 = true := by decide +kernel
def b_X11_slip_31 : List z_E := [(.bipush (-2), 2, 0, 0, 0), (.ireturn, 1, 0, 0, 0)]
theorem k_X11_slip_31 : z_chk 13 false cX11_slip 5 31 b_X11_slip_31 34 = true := by decide +kernel
def b_X11_slip_34 : List z_E := [(.aload 4, 2, 0, 0, 0), (.iload_n 2, 1, 0, 0, 0), (.putfield 233, 3, 8, 7, 0), (.aload 4, 2, 0, 0, 0), (.iload_n 3, 1, 0, 0, 0), (.putfield 236, 3, 8, 8, 0), (.iconst 0, 1, 0, 0, 0), (.ireturn, 1, 0, 0, 0)]
theorem k_X11_slip_34 : z_chk 13 false cX11_slip 5 34 b_X11_slip_34 48 = true := by decide +kernel
def b_X11_close_0 : List z_E := [(.aload_n 0, 1, 0, 0, 0), (.getfield 215, 3, 13, 10, 0), (.sipush 5000, 3, 0, 0, 0), (.if_icmp .lt 6, 3, 13, 0, 0), (.bipush (-9), 2, 0, 0, 0), (.ireturn, 1, 0, 0, 0)]
theorem k_X11_close_0 : z_chk 13 false cX11_close 2 0 b_X11_close_0 13 = true := by decide +kernel
def b_X11_close_13 : List z_E := [(.aload_n 0, 1, 0, 0, 0), (.invokevirtual 239, 3, 1, 0, 0), (.istore_n 1, 1, 0, 0, 0), (.aload_n 0, 1, 0, 0, 0), (.invokevirtual 242, 3, 1, 0, 0), (.aload_n 0, 1, 0, 0, 0), (.getfield 55, 3, 13, 8, 2), (.aload_n 0, 1, 0, 0, 0), (.getfield 10, 3, 13, 0, 2), (.invokevirtual 245, 3, 2, 0, 0), (.aload_n 0, 1, 0, 0, 0), (.dup, 1, 0, 0, 0), (.getfield 215, 3, 13, 10, 0), (.iconst 1, 1, 0, 0, 0), (.iadd, 1, 0, 0, 0), (.putfield 215, 3, 13, 10, 0), (.iload_n 1, 1, 0, 0, 0), (.ireturn, 1, 0, 0, 0)]
theorem k_X11_close_13 : z_chk 13 false cX11_close 2 13 b_X11_close_13 45 = true := by decide +kernel
def b_X11_suspects_0 : List z_E := [(.iload_n 1, 1, 0, 0, 0), (.ifCond .lt 11, 3, 12, 0, 0), (.iload_n 1, 1, 0, 0, 0), (.aload_n 0, 1, 0, 0, 0), (.getfield 215, 3, 13, 10, 0), (.if_icmp .lt 6, 3, 15, 0, 0)]
theorem k_X11_suspects_0 : z_chk 13 false cX11_suspects 2 0 b_X11_suspects_0 12 = true := by decide +kernel
def b_X11_suspects_12 : List z_E := [(.bipush (-2), 2, 0, 0, 0), (.ireturn, 1, 0, 0, 0)]
theorem k_X11_suspects_12 : z_chk 13 false cX11_suspects 2 12 b_X11_suspects_12 15 = true := by decide +kernel
def b_X11_suspects_15 : List z_E := [(.aload_n 0, 1, 0, 0, 0), (.getfield 48, 3, 13, 7, 2), (.iload_n 1, 1, 0, 0, 0), (.invokevirtual 249, 3, 2, 0, 0), (.ireturn, 1, 0, 0, 0)]
theorem k_X11_suspects_15 : z_chk 13 false cX11_suspects 2 15 b_X11_suspects_15 24 = true := by decide +kernel
def b_X11_suspect_0 : List z_E := [(.iload_n 1, 1, 0, 0, 0), (.ifCond .lt 14, 3, 15, 0, 0), (.iload_n 1, 1, 0, 0, 0), (.aload_n 0, 1, 0, 0, 0), (.getfield 48, 3, 13, 7, 2), (.getfield 253, 3, 5, 3, 0), (.if_icmp .lt 5, 3, 17, 0, 0)]
theorem k_X11_suspect_0 : z_chk 13 false cX11_suspect 3 0 b_X11_suspect_0 15 = true := by decide +kernel
def b_X11_suspect_15 : List z_E := [(.iconst (-1), 1, 0, 0, 0), (.ireturn, 1, 0, 0, 0)]
theorem k_X11_suspect_15 : z_chk 13 false cX11_suspect 3 15 b_X11_suspect_15 17 = true := by decide +kernel
def b_X11_suspect_17 : List z_E := [(.iload_n 2, 1, 0, 0, 0), (.lookupswitch 46 #[(0, 26), (1, 36)], 26, 18, 0, 0)]
theorem k_X11_suspect_17 : z_chk 13 false cX11_suspect 3 17 b_X11_suspect_17 44 = true := by decide +kernel
def b_X11_suspect_44 : List z_E := [(.aload_n 0, 1, 0, 0, 0), (.getfield 48, 3, 13, 7, 2), (.getfield 256, 3, 5, 1, 2), (.iload_n 1, 1, 0, 0, 0), (.iaload, 1, 0, 0, 0), (.ireturn, 1, 0, 0, 0)]
theorem k_X11_suspect_44 : z_chk 13 false cX11_suspect 3 44 b_X11_suspect_44 54 = true := by decide +kernel
def b_X11_suspect_54 : List z_E := [(.aload_n 0, 1, 0, 0, 0), (.getfield 48, 3, 13, 7, 2), (.getfield 260, 3, 5, 2, 2), (.iload_n 1, 1, 0, 0, 0), (.iaload, 1, 0, 0, 0), (.ireturn, 1, 0, 0, 0)]
theorem k_X11_suspect_54 : z_chk 13 false cX11_suspect 3 54 b_X11_suspect_54 64 = true := by decide +kernel
def b_X11_suspect_64 : List z_E := [(.iconst (-1), 1, 0, 0, 0), (.ireturn, 1, 0, 0, 0)]
theorem k_X11_suspect_64 : z_chk 13 false cX11_suspect 3 64 b_X11_suspect_64 66 = true := by decide +kernel
def b_X11_mend_0 : List z_E := [(.aload_n 0, 1, 0, 0, 0), (.iload_n 1, 1, 0, 0, 0), (.invokevirtual 222, 3, 2, 0, 0), (.astore_n 2, 1, 0, 0, 0), (.aload_n 2, 1, 0, 0, 0), (.ifnull 26, 3, 33, 0, 0), (.aload_n 2, 1, 0, 0, 0), (.getfield 226, 3, 8, 6, 0), (.iconst 1, 1, 0, 0, 0), (.if_icmp .ne 18, 3, 33, 0, 0), (.aload_n 2, 1, 0, 0, 0), (.getfield 233, 3, 8, 7, 0), (.iconst (-1), 1, 0, 0, 0), (.if_icmp .eq 10, 3, 33, 0, 0), (.aload_n 2, 1, 0, 0, 0), (.getfield 263, 3, 8, 11, 3), (.ifCond .eq 5, 3, 35, 0, 0)]
theorem k_X11_mend_0 : z_chk 13 false cX11_mend 4 0 b_X11_mend_0 33 = true := by decide +kernel
def b_X11_mend_33 : List z_E := [(.iconst 0, 1, 0, 0, 0), (.ireturn, 1, 0, 0, 0)]
theorem k_X11_mend_33 : z_chk 13 false cX11_mend 4 33 b_X11_mend_33 35 = true := by decide +kernel
def b_X11_mend_35 : List z_E := [(.aload_n 0, 1, 0, 0, 0), (.getfield 48, 3, 13, 7, 2), (.aload_n 2, 1, 0, 0, 0), (.getfield 266, 3, 8, 10, 0), (.invokevirtual 269, 3, 2, 0, 0), (.astore_n 3, 1, 0, 0, 0), (.aload_n 3, 1, 0, 0, 0), (.ifnonnull 41, 3, 89, 0, 0), (.aload_n 0, 1, 0, 0, 0), (.invokevirtual 145, 3, 1, 0, 0), (.iconst 1, 1, 0, 0, 0), (.if_icmp .ge 5, 3, 61, 0, 0), (.iconst 0, 1, 0, 0, 0), (.ireturn, 1, 0, 0, 0)]
theorem k_X11_mend_35 : z_chk 13 false cX11_mend 4 35 b_X11_mend_35 61 = true := by decide +kernel
def b_X11_mend_61 : List z_E := [(.aload_n 2, 1, 0, 0, 0), (.aload_n 0, 1, 0, 0, 0), (.getfield 48, 3, 13, 7, 2), (.aload_n 2, 1, 0, 0, 0), (.getfield 273, 3, 8, 9, 0), (.aload_n 2, 1, 0, 0, 0), (.getfield 276, 3, 8, 1, 2), (.iconst 1, 1, 0, 0, 0), (.aload_n 2, 1, 0, 0, 0), (.getfield 279, 3, 8, 2, 1), (.iload_n 1, 1, 0, 0, 0), (.invokevirtual 282, 3, 6, 0, 0), (.putfield 266, 3, 8, 10, 0), (.goto 24, 3, 110, 0, 0)]
theorem k_X11_mend_61 : z_chk 13 false cX11_mend 4 61 b_X11_mend_61 89 = true := by decide +kernel
def b_X11_mend_89 : List z_E := [(.aload_n 3, 1, 0, 0, 0), (.aload_n 2, 1, 0, 0, 0), (.getfield 276, 3, 8, 1, 2), (.putfield 286, 3, 6, 3, 2), (.aload_n 3, 1, 0, 0, 0), (.iconst 1, 1, 0, 0, 0), (.putfield 291, 3, 6, 4, 0), (.aload_n 3, 1, 0, 0, 0), (.aload_n 2, 1, 0, 0, 0), (.getfield 279, 3, 8, 2, 1), (.putfield 294, 3, 6, 5, 1)]
theorem k_X11_mend_89 : z_chk 13 false cX11_mend 4 89 b_X11_mend_89 110 = true := by decide +kernel
def b_X11_mend_110 : List z_E := [(.aload_n 2, 1, 0, 0, 0), (.iconst 1, 1, 0, 0, 0), (.putfield 263, 3, 8, 11, 3), (.iconst 1, 1, 0, 0, 0), (.ireturn, 1, 0, 0, 0)]
theorem k_X11_mend_110 : z_chk 13 false cX11_mend 4 110 b_X11_mend_110 117 = true := by decide +kernel
def b_X11_weighed_0 : List z_E := [(.aload_n 0, 1, 0, 0, 0), (.iload_n 1, 1, 0, 0, 0), (.invokevirtual 133, 3, 2, 0, 0), (.astore 4, 2, 0, 0, 0), (.aload_n 0, 1, 0, 0, 0), (.iload_n 2, 1, 0, 0, 0), (.invokevirtual 137, 3, 2, 0, 0), (.astore 5, 2, 0, 0, 0), (.aload 4, 2, 0, 0, 0), (.ifnull 20, 3, 36, 0, 0), (.aload 5, 2, 0, 0, 0), (.ifnull 15, 3, 36, 0, 0), (.iload_n 3, 1, 0, 0, 0), (.i2l, 1, 0, 0, 0), (.lconst 0, 1, 0, 0, 0), (.ldc2_w 295, 3, 0, 0, 4), (.invokestatic 68, 3, 3, 0, 0), (.ifCond .ne 7, 3, 40, 0, 0)]
theorem k_X11_weighed_0 : z_chk 13 false cX11_weighed 6 0 b_X11_weighed_0 36 = true := by decide +kernel
def b_X11_weighed_36 : List z_E := [(.ldc2_w 166, 3, 0, 0, (-2)), (.lreturn, 1, 0, 0, 0)]
theorem k_X11_weighed_36 : z_chk 13 false cX11_weighed 6 36 b_X11_weighed_36 40 = true := by decide +kernel
def b_X11_weighed_40 : List z_E := [(.aload 5, 2, 0, 0, 0), (.getfield 141, 3, 10, 1, 3), (.ifCond .ne 7, 3, 52, 0, 0), (.ldc2_w 297, 3, 0, 0, (-5)), (.lreturn, 1, 0, 0, 0)]
theorem k_X11_weighed_40 : z_chk 13 false cX11_weighed 6 40 b_X11_weighed_40 52 = true := by decide +kernel
def b_X11_weighed_52 : List z_E := [(.aload_n 0, 1, 0, 0, 0), (.getfield 62, 3, 13, 9, 2), (.aload 5, 2, 0, 0, 0), (.aload 4, 2, 0, 0, 0), (.invokevirtual 148, 3, 3, 0, 0), (.iload_n 3, 1, 0, 0, 0), (.tableswitch 98 0 3 #[32, 56, 80, 89], 32, 64, 0, 0)]
theorem k_X11_weighed_52 : z_chk 13 false cX11_weighed 6 52 b_X11_weighed_52 96 = true := by decide +kernel
def b_X11_weighed_96 : List z_E := [(.aload_n 0, 1, 0, 0, 0), (.getfield 62, 3, 13, 9, 2), (.getfield 152, 3, 12, 0, 0), (.ifCond .le 13, 3, 116, 0, 0), (.aload_n 0, 1, 0, 0, 0), (.getfield 62, 3, 13, 9, 2), (.getfield 299, 3, 12, 2, 1), (.goto 6, 3, 119, 0, 0)]
theorem k_X11_weighed_96 : z_chk 13 false cX11_weighed 6 96 b_X11_weighed_96 116 = true := by decide +kernel
def b_X11_weighed_116 : List z_E := [(.ldc2_w 198, 3, 0, 0, (-8))]
theorem k_X11_weighed_116 : z_chk 13 false cX11_weighed 6 116 b_X11_weighed_116 119 = true := by decide +kernel
def b_X11_weighed_119 : List z_E := [(.lreturn, 1, 0, 0, 0)]
theorem k_X11_weighed_119 : z_chk 13 false cX11_weighed 6 119 b_X11_weighed_119 120 = true := by decide +kernel
def b_X11_weighed_120 : List z_E := [(.aload_n 0, 1, 0, 0, 0), (.getfield 62, 3, 13, 9, 2), (.getfield 152, 3, 12, 0, 0), (.ifCond .le 13, 3, 140, 0, 0), (.aload_n 0, 1, 0, 0, 0), (.getfield 62, 3, 13, 9, 2), (.getfield 302, 3, 12, 3, 1), (.goto 6, 3, 143, 0, 0)]
theorem k_X11_weighed_120 : z_chk 13 false cX11_weighed 6 120 b_X11_weighed_120 140 = true := by decide +kernel
def b_X11_weighed_140 : List z_E := [(.ldc2_w 198, 3, 0, 0, (-8))]
theorem k_X11_weighed_140 : z_chk 13 false cX11_weighed 6 140 b_X11_weighed_140 143 = true := by decide +kernel
def b_X11_weighed_143 : List z_E := [(.lreturn, 1, 0, 0, 0)]
theorem k_X11_weighed_143 : z_chk 13 false cX11_weighed 6 143 b_X11_weighed_143 144 = true := by decide +kernel
def b_X11_weighed_144 : List z_E := [(.aload_n 0, 1, 0, 0, 0), (.getfield 62, 3, 13, 9, 2), (.getfield 152, 3, 12, 0, 0), (.i2l, 1, 0, 0, 0), (.lreturn, 1, 0, 0, 0)]
theorem k_X11_weighed_144 : z_chk 13 false cX11_weighed 6 144 b_X11_weighed_144 153 = true := by decide +kernel
def b_X11_weighed_153 : List z_E := [(.aload_n 0, 1, 0, 0, 0), (.getfield 62, 3, 13, 9, 2), (.getfield 155, 3, 12, 1, 0), (.i2l, 1, 0, 0, 0), (.lreturn, 1, 0, 0, 0)]
theorem k_X11_weighed_153 : z_chk 13 false cX11_weighed 6 153 b_X11_weighed_153 162 = true := by decide +kernel
def b_X11_weighed_162 : List z_E := [(.aload 4, 2, 0, 0, 0), (.aload_n 0, 1, 0, 0, 0), (.getfield 62, 3, 13, 9, 2), (.getfield 155, 3, 12, 1, 0), (.i2l, 1, 0, 0, 0), (.aload_n 0, 1, 0, 0, 0), (.getfield 10, 3, 13, 0, 2), (.getfield 80, 3, 11, 0, 0), (.invokevirtual 305, 3, 3, 0, 0), (.lreturn, 1, 0, 0, 0)]
theorem k_X11_weighed_162 : z_chk 13 false cX11_weighed 6 162 b_X11_weighed_162 183 = true := by decide +kernel
def b_X11_loan_0 : List z_E := [(.aload_n 0, 1, 0, 0, 0), (.iload_n 1, 1, 0, 0, 0), (.invokevirtual 133, 3, 2, 0, 0), (.astore 4, 2, 0, 0, 0), (.aload 4, 2, 0, 0, 0), (.ifnull 8, 3, 17, 0, 0), (.iload_n 2, 1, 0, 0, 0), (.iconst 1, 1, 0, 0, 0), (.if_icmp .ge 6, 3, 20, 0, 0)]
theorem k_X11_loan_0 : z_chk 13 false cX11_loan 7 0 b_X11_loan_0 17 = true := by decide +kernel
def b_X11_loan_17 : List z_E := [(.bipush (-2), 2, 0, 0, 0), (.ireturn, 1, 0, 0, 0)]
theorem k_X11_loan_17 : z_chk 13 false cX11_loan 7 17 b_X11_loan_17 20 = true := by decide +kernel
def b_X11_loan_20 : List z_E := [(.aload 4, 2, 0, 0, 0), (.getfield 193, 3, 4, 4, 0), (.iload_n 2, 1, 0, 0, 0), (.if_icmp .ge 6, 3, 32, 0, 0), (.bipush (-8), 2, 0, 0, 0), (.ireturn, 1, 0, 0, 0)]
theorem k_X11_loan_20 : z_chk 13 false cX11_loan 7 20 b_X11_loan_20 32 = true := by decide +kernel
def b_X11_loan_32 : List z_E := [(.aload_n 0, 1, 0, 0, 0), (.getfield 32, 3, 13, 5, 2), (.invokevirtual 105, 3, 0, 1, 0), (.bipush 20, 2, 0, 0, 0), (.if_icmp .lt 6, 3, 47, 0, 0), (.bipush (-3), 2, 0, 0, 0), (.ireturn, 1, 0, 0, 0)]
theorem k_X11_loan_32 : z_chk 13 false cX11_loan 7 32 b_X11_loan_32 47 = true := by decide +kernel
def b_X11_loan_47 : List z_E := [(.aload 4, 2, 0, 0, 0), (.getfield 195, 3, 4, 5, 1), (.iload_n 2, 1, 0, 0, 0), (.i2l, 1, 0, 0, 0), (.lmul, 1, 0, 0, 0), (.aload 4, 2, 0, 0, 0), (.getfield 193, 3, 4, 4, 0), (.i2l, 1, 0, 0, 0), (.ldiv, 1, 0, 0, 0), (.lstore 5, 2, 0, 0, 0), (.aload 4, 2, 0, 0, 0), (.dup, 1, 0, 0, 0), (.getfield 193, 3, 4, 4, 0), (.iload_n 2, 1, 0, 0, 0), (.isub, 1, 0, 0, 0), (.putfield 193, 3, 4, 4, 0), (.aload 4, 2, 0, 0, 0), (.dup, 1, 0, 0, 0), (.getfield 195, 3, 4, 5, 1), (.lload 5, 2, 0, 0, 0), (.lsub, 1, 0, 0, 0), (.putfield 195, 3, 4, 5, 1), (.aload_n 0, 1, 0, 0, 0), (.getfield 32, 3, 13, 5, 2), (.new 309, 3, 7, 0, 0), (.dup, 1, 0, 0, 0), (.aload 4, 2, 0, 0, 0), (.lload 5, 2, 0, 0, 0), (.aload_n 0, 1, 0, 0, 0), (.getfield 10, 3, 13, 0, 2), (.getfield 80, 3, 11, 0, 0), (.invokevirtual 305, 3, 3, 0, 0), (.iload_n 3, 1, 0, 0, 0), (.aload_n 0, 1, 0, 0, 0), (.getfield 215, 3, 13, 10, 0), (.invokespecial 311, 3, 4, 0, 0), (.invokevirtual 41, 3, 0, 3, 0), (.pop, 1, 0, 0, 0), (.aload_n 0, 1, 0, 0, 0), (.getfield 32, 3, 13, 5, 2), (.invokevirtual 105, 3, 0, 1, 0), (.iconst 1, 1, 0, 0, 0), (.isub, 1, 0, 0, 0), (.ireturn, 1, 0, 0, 0)]
theorem k_X11_loan_47 : z_chk 13 false cX11_loan 7 47 b_X11_loan_47 131 = true := by decide +kernel
def b_X11_tell_0 : List z_E := [(.aload_n 0, 1, 0, 0, 0), (.iload_n 1, 1, 0, 0, 0), (.invokevirtual 314, 3, 2, 0, 0), (.astore_n 3, 1, 0, 0, 0), (.aload_n 3, 1, 0, 0, 0), (.ifnull 25, 3, 32, 0, 0), (.iload_n 2, 1, 0, 0, 0), (.i2l, 1, 0, 0, 0), (.lconst 0, 1, 0, 0, 0), (.ldc2_w 318, 3, 0, 0, 31), (.invokestatic 68, 3, 3, 0, 0), (.ifCond .eq 13, 3, 32, 0, 0), (.aload_n 3, 1, 0, 0, 0), (.getfield 320, 3, 7, 1, 2), (.iload_n 2, 1, 0, 0, 0), (.iaload, 1, 0, 0, 0), (.iconst (-1), 1, 0, 0, 0), (.if_icmp .eq 5, 3, 34, 0, 0)]
theorem k_X11_tell_0 : z_chk 13 false cX11_tell 4 0 b_X11_tell_0 32 = true := by decide +kernel
def b_X11_tell_32 : List z_E := [(.iconst 0, 1, 0, 0, 0), (.ireturn, 1, 0, 0, 0)]
theorem k_X11_tell_32 : z_chk 13 false cX11_tell 4 32 b_X11_tell_32 34 = true := by decide +kernel
def b_X11_tell_34 : List z_E := [(.aload_n 3, 1, 0, 0, 0), (.getfield 320, 3, 7, 1, 2), (.iload_n 2, 1, 0, 0, 0), (.aload_n 0, 1, 0, 0, 0), (.getfield 215, 3, 13, 10, 0), (.iastore, 1, 0, 0, 0), (.iconst 1, 1, 0, 0, 0), (.ireturn, 1, 0, 0, 0)]
theorem k_X11_tell_34 : z_chk 13 false cX11_tell 4 34 b_X11_tell_34 46 = true := by decide +kernel
def b_X11_gap_0 : List z_E := [(.iload_n 1, 1, 0, 0, 0), (.i2l, 1, 0, 0, 0), (.lconst 0, 1, 0, 0, 0), (.ldc2_w 318, 3, 0, 0, 31), (.invokestatic 68, 3, 3, 0, 0), (.ifCond .eq 17, 3, 26, 0, 0), (.iload_n 2, 1, 0, 0, 0), (.i2l, 1, 0, 0, 0), (.lconst 0, 1, 0, 0, 0), (.aload_n 0, 1, 0, 0, 0), (.getfield 215, 3, 13, 10, 0), (.i2l, 1, 0, 0, 0), (.invokestatic 68, 3, 3, 0, 0), (.ifCond .ne 7, 3, 30, 0, 0)]
theorem k_X11_gap_0 : z_chk 13 false cX11_gap 8 0 b_X11_gap_0 26 = true := by decide +kernel
def b_X11_gap_26 : List z_E := [(.ldc2_w 323, 3, 0, 0, (-1)), (.lreturn, 1, 0, 0, 0)]
theorem k_X11_gap_26 : z_chk 13 false cX11_gap 8 26 b_X11_gap_26 30 = true := by decide +kernel
def b_X11_gap_30 : List z_E := [(.lconst 0, 1, 0, 0, 0), (.lstore_n 3, 1, 0, 0, 0), (.iconst 0, 1, 0, 0, 0), (.istore 5, 2, 0, 0, 0)]
theorem k_X11_gap_30 : z_chk 13 false cX11_gap 8 30 b_X11_gap_30 35 = true := by decide +kernel
def b_X11_gap_35 : List z_E := [(.iload 5, 2, 0, 0, 0), (.aload_n 0, 1, 0, 0, 0), (.getfield 32, 3, 13, 5, 2), (.invokevirtual 105, 3, 0, 1, 0), (.if_icmp .ge 52, 3, 96, 0, 0), (.aload_n 0, 1, 0, 0, 0), (.getfield 32, 3, 13, 5, 2), (.iload 5, 2, 0, 0, 0), (.invokevirtual 325, 3, 0, 2, 0), (.checkcast 309, 3, 7, 0, 0), (.astore 6, 2, 0, 0, 0), (.aload 6, 2, 0, 0, 0), (.getfield 320, 3, 7, 1, 2), (.iload_n 1, 1, 0, 0, 0), (.iaload, 1, 0, 0, 0), (.istore 7, 2, 0, 0, 0), (.iload 7, 2, 0, 0, 0), (.iconst (-1), 1, 0, 0, 0), (.if_icmp .eq 17, 3, 90, 0, 0), (.iload 7, 2, 0, 0, 0), (.iload_n 2, 1, 0, 0, 0), (.if_icmp .gt 11, 3, 90, 0, 0), (.lload_n 3, 1, 0, 0, 0), (.aload 6, 2, 0, 0, 0), (.getfield 329, 3, 7, 0, 1), (.ladd, 1, 0, 0, 0), (.lstore_n 3, 1, 0, 0, 0)]
theorem k_X11_gap_35 : z_chk 13 false cX11_gap 8 35 b_X11_gap_35 90 = true := by decide +kernel
def b_X11_gap_90 : List z_E := [(.iinc 5 1, 3, 0, 0, 0), (.goto (-58), 3, 35, 0, 0)]
theorem k_X11_gap_90 : z_chk 13 false cX11_gap 8 90 b_X11_gap_90 96 = true := by decide +kernel
def b_X11_gap_96 : List z_E := [(.lload_n 3, 1, 0, 0, 0), (.lreturn, 1, 0, 0, 0)]
theorem k_X11_gap_96 : z_chk 13 false cX11_gap 8 96 b_X11_gap_96 98 = true := by decide +kernel
def b_X11_run_0 : List z_E := [(.lload_n 1, 1, 0, 0, 0), (.lconst 1, 1, 0, 0, 0), (.ldc2_w 330, 3, 0, 0, 1000000000), (.invokestatic 68, 3, 3, 0, 0), (.ifCond .ne 7, 3, 15, 0, 0), (.ldc2_w 166, 3, 0, 0, (-2)), (.lreturn, 1, 0, 0, 0)]
theorem k_X11_run_0 : z_chk 13 false cX11_run 5 0 b_X11_run_0 15 = true := by decide +kernel
def b_X11_run_15 : List z_E := [(.aload_n 0, 1, 0, 0, 0), (.invokevirtual 332, 3, 1, 0, 0), (.lstore_n 3, 1, 0, 0, 0), (.lload_n 3, 1, 0, 0, 0), (.aload_n 0, 1, 0, 0, 0), (.invokevirtual 336, 3, 1, 0, 0), (.lcmp, 1, 0, 0, 0), (.ifCond .lt 7, 3, 33, 0, 0), (.ldc2_w 323, 3, 0, 0, (-1)), (.lreturn, 1, 0, 0, 0)]
theorem k_X11_run_15 : z_chk 13 false cX11_run 5 15 b_X11_run_15 33 = true := by decide +kernel
def b_X11_run_33 : List z_E := [(.lload_n 3, 1, 0, 0, 0), (.lload_n 1, 1, 0, 0, 0), (.ladd, 1, 0, 0, 0), (.lconst 1, 1, 0, 0, 0), (.lsub, 1, 0, 0, 0), (.lload_n 1, 1, 0, 0, 0), (.ldiv, 1, 0, 0, 0), (.lreturn, 1, 0, 0, 0)]
theorem k_X11_run_33 : z_chk 13 false cX11_run 5 33 b_X11_run_33 41 = true := by decide +kernel
def b_X11_accountOf_0 : List z_E := [(.aload_n 0, 1, 0, 0, 0), (.iload_n 1, 1, 0, 0, 0), (.invokevirtual 119, 3, 2, 0, 0), (.astore_n 3, 1, 0, 0, 0), (.aload_n 3, 1, 0, 0, 0), (.ifnonnull 6, 3, 13, 0, 0), (.bipush (-2), 2, 0, 0, 0), (.ireturn, 1, 0, 0, 0)]
theorem k_X11_accountOf_0 : z_chk 13 false cX11_accountOf 4 0 b_X11_accountOf_0 13 = true := by decide +kernel
def b_X11_accountOf_13 : List z_E := [(.iload_n 2, 1, 0, 0, 0), (.tableswitch 53 0 3 #[30, 35, 43, 48], 30, 14, 0, 0)]
theorem k_X11_accountOf_13 : z_chk 13 false cX11_accountOf 4 13 b_X11_accountOf_13 44 = true := by decide +kernel
def b_X11_accountOf_44 : List z_E := [(.aload_n 3, 1, 0, 0, 0), (.getfield 339, 3, 2, 2, 0), (.ireturn, 1, 0, 0, 0)]
theorem k_X11_accountOf_44 : z_chk 13 false cX11_accountOf 4 44 b_X11_accountOf_44 49 = true := by decide +kernel
def b_X11_accountOf_49 : List z_E := [(.aload_n 3, 1, 0, 0, 0), (.getfield 342, 3, 2, 1, 2), (.invokevirtual 105, 3, 0, 1, 0), (.ireturn, 1, 0, 0, 0)]
theorem k_X11_accountOf_49 : z_chk 13 false cX11_accountOf 4 49 b_X11_accountOf_49 57 = true := by decide +kernel
def b_X11_accountOf_57 : List z_E := [(.aload_n 3, 1, 0, 0, 0), (.getfield 127, 3, 2, 5, 0), (.ireturn, 1, 0, 0, 0)]
theorem k_X11_accountOf_57 : z_chk 13 false cX11_accountOf 4 57 b_X11_accountOf_57 62 = true := by decide +kernel
def b_X11_accountOf_62 : List z_E := [(.aload_n 3, 1, 0, 0, 0), (.getfield 130, 3, 2, 6, 0), (.ireturn, 1, 0, 0, 0)]
theorem k_X11_accountOf_62 : z_chk 13 false cX11_accountOf 4 62 b_X11_accountOf_62 67 = true := by decide +kernel
def b_X11_accountOf_67 : List z_E := [(.bipush (-2), 2, 0, 0, 0), (.ireturn, 1, 0, 0, 0)]
theorem k_X11_accountOf_67 : z_chk 13 false cX11_accountOf 4 67 b_X11_accountOf_67 70 = true := by decide +kernel
def b_X11_folio_0 : List z_E := [(.aload_n 0, 1, 0, 0, 0), (.iload_n 1, 1, 0, 0, 0), (.invokevirtual 119, 3, 2, 0, 0), (.astore_n 3, 1, 0, 0, 0), (.aload_n 3, 1, 0, 0, 0), (.ifnonnull 7, 3, 14, 0, 0), (.iconst (-1), 1, 0, 0, 0), (.goto 8, 3, 19, 0, 0)]
theorem k_X11_folio_0 : z_chk 13 false cX11_folio 4 0 b_X11_folio_0 14 = true := by decide +kernel
def b_X11_folio_14 : List z_E := [(.aload_n 3, 1, 0, 0, 0), (.iload_n 2, 1, 0, 0, 0), (.invokevirtual 345, 3, 2, 0, 0)]
theorem k_X11_folio_14 : z_chk 13 false cX11_folio 4 14 b_X11_folio_14 19 = true := by decide +kernel
def b_X11_folio_19 : List z_E := [(.ireturn, 1, 0, 0, 0)]
theorem k_X11_folio_19 : z_chk 13 false cX11_folio 4 19 b_X11_folio_19 20 = true := by decide +kernel
def b_X11_balance_0 : List z_E := [(.aload_n 0, 1, 0, 0, 0), (.iload_n 1, 1, 0, 0, 0), (.invokevirtual 119, 3, 2, 0, 0), (.astore_n 2, 1, 0, 0, 0), (.aload_n 2, 1, 0, 0, 0), (.ifnonnull 7, 3, 14, 0, 0), (.lconst 0, 1, 0, 0, 0), (.goto 7, 3, 18, 0, 0)]
theorem k_X11_balance_0 : z_chk 13 false cX11_balance 3 0 b_X11_balance_0 14 = true := by decide +kernel
def b_X11_balance_14 : List z_E := [(.aload_n 2, 1, 0, 0, 0), (.getfield 186, 3, 2, 4, 1)]
theorem k_X11_balance_14 : z_chk 13 false cX11_balance 3 14 b_X11_balance_14 18 = true := by decide +kernel
def b_X11_balance_18 : List z_E := [(.lreturn, 1, 0, 0, 0)]
theorem k_X11_balance_18 : z_chk 13 false cX11_balance 3 18 b_X11_balance_18 19 = true := by decide +kernel
def b_X11_written_0 : List z_E := [(.aload_n 0, 1, 0, 0, 0), (.iload_n 1, 1, 0, 0, 0), (.invokevirtual 119, 3, 2, 0, 0), (.astore_n 2, 1, 0, 0, 0), (.aload_n 2, 1, 0, 0, 0), (.ifnonnull 7, 3, 14, 0, 0), (.lconst 0, 1, 0, 0, 0), (.goto 11, 3, 22, 0, 0)]
theorem k_X11_written_0 : z_chk 13 false cX11_written 3 0 b_X11_written_0 14 = true := by decide +kernel
def b_X11_written_14 : List z_E := [(.aload_n 0, 1, 0, 0, 0), (.getfield 48, 3, 13, 7, 2), (.iload_n 1, 1, 0, 0, 0), (.invokevirtual 348, 3, 2, 0, 0)]
theorem k_X11_written_14 : z_chk 13 false cX11_written 3 14 b_X11_written_14 22 = true := by decide +kernel
def b_X11_written_22 : List z_E := [(.lreturn, 1, 0, 0, 0)]
theorem k_X11_written_22 : z_chk 13 false cX11_written 3 22 b_X11_written_22 23 = true := by decide +kernel
def b_X11_line_0 : List z_E := [(.aload_n 0, 1, 0, 0, 0), (.getfield 48, 3, 13, 7, 2), (.iload_n 1, 1, 0, 0, 0), (.invokevirtual 269, 3, 2, 0, 0), (.astore_n 3, 1, 0, 0, 0), (.aload_n 3, 1, 0, 0, 0), (.ifnonnull 6, 3, 16, 0, 0), (.bipush (-2), 2, 0, 0, 0), (.ireturn, 1, 0, 0, 0)]
theorem k_X11_line_0 : z_chk 13 false cX11_line 4 0 b_X11_line_0 16 = true := by decide +kernel
def b_X11_line_16 : List z_E := [(.iload_n 2, 1, 0, 0, 0), (.tableswitch 63 0 4 #[35, 40, 48, 53, 58], 35, 17, 0, 0)]
theorem k_X11_line_16 : z_chk 13 false cX11_line 4 16 b_X11_line_16 52 = true := by decide +kernel
def b_X11_line_52 : List z_E := [(.aload_n 3, 1, 0, 0, 0), (.getfield 352, 3, 6, 0, 0), (.ireturn, 1, 0, 0, 0)]
theorem k_X11_line_52 : z_chk 13 false cX11_line 4 52 b_X11_line_52 57 = true := by decide +kernel
def b_X11_line_57 : List z_E := [(.aload_n 3, 1, 0, 0, 0), (.getfield 286, 3, 6, 3, 2), (.getfield 353, 3, 2, 0, 0), (.ireturn, 1, 0, 0, 0)]
theorem k_X11_line_57 : z_chk 13 false cX11_line 4 57 b_X11_line_57 65 = true := by decide +kernel
def b_X11_line_65 : List z_E := [(.aload_n 3, 1, 0, 0, 0), (.getfield 356, 3, 6, 1, 0), (.ireturn, 1, 0, 0, 0)]
theorem k_X11_line_65 : z_chk 13 false cX11_line 4 65 b_X11_line_65 70 = true := by decide +kernel
def b_X11_line_70 : List z_E := [(.aload_n 3, 1, 0, 0, 0), (.getfield 291, 3, 6, 4, 0), (.ireturn, 1, 0, 0, 0)]
theorem k_X11_line_70 : z_chk 13 false cX11_line 4 70 b_X11_line_70 75 = true := by decide +kernel
def b_X11_line_75 : List z_E := [(.aload_n 3, 1, 0, 0, 0), (.getfield 357, 3, 6, 2, 0), (.ireturn, 1, 0, 0, 0)]
theorem k_X11_line_75 : z_chk 13 false cX11_line 4 75 b_X11_line_75 80 = true := by decide +kernel
def b_X11_line_80 : List z_E := [(.bipush (-2), 2, 0, 0, 0), (.ireturn, 1, 0, 0, 0)]
theorem k_X11_line_80 : z_chk 13 false cX11_line 4 80 b_X11_line_80 83 = true := by decide +kernel
def b_X11_lineSum_0 : List z_E := [(.aload_n 0, 1, 0, 0, 0), (.getfield 48, 3, 13, 7, 2), (.iload_n 1, 1, 0, 0, 0), (.invokevirtual 269, 3, 2, 0, 0), (.astore_n 2, 1, 0, 0, 0), (.aload_n 2, 1, 0, 0, 0), (.ifnonnull 7, 3, 17, 0, 0), (.lconst 0, 1, 0, 0, 0), (.goto 7, 3, 21, 0, 0)]
theorem k_X11_lineSum_0 : z_chk 13 false cX11_lineSum 3 0 b_X11_lineSum_0 17 = true := by decide +kernel
def b_X11_lineSum_17 : List z_E := [(.aload_n 2, 1, 0, 0, 0), (.getfield 294, 3, 6, 5, 1)]
theorem k_X11_lineSum_17 : z_chk 13 false cX11_lineSum 3 17 b_X11_lineSum_17 21 = true := by decide +kernel
def b_X11_lineSum_21 : List z_E := [(.lreturn, 1, 0, 0, 0)]
theorem k_X11_lineSum_21 : z_chk 13 false cX11_lineSum 3 21 b_X11_lineSum_21 22 = true := by decide +kernel
def b_X11_orderOf_0 : List z_E := [(.aload_n 0, 1, 0, 0, 0), (.iload_n 1, 1, 0, 0, 0), (.invokevirtual 222, 3, 2, 0, 0), (.astore_n 3, 1, 0, 0, 0), (.aload_n 3, 1, 0, 0, 0), (.ifnonnull 6, 3, 13, 0, 0), (.bipush (-2), 2, 0, 0, 0), (.ireturn, 1, 0, 0, 0)]
theorem k_X11_orderOf_0 : z_chk 13 false cX11_orderOf 4 0 b_X11_orderOf_0 13 = true := by decide +kernel
def b_X11_orderOf_13 : List z_E := [(.iload_n 2, 1, 0, 0, 0), (.tableswitch 91 0 6 #[42, 50, 58, 63, 68, 73, 78], 42, 14, 0, 0)]
theorem k_X11_orderOf_13 : z_chk 13 false cX11_orderOf 4 13 b_X11_orderOf_13 56 = true := by decide +kernel
def b_X11_orderOf_56 : List z_E := [(.aload_n 3, 1, 0, 0, 0), (.getfield 360, 3, 8, 0, 2), (.getfield 353, 3, 2, 0, 0), (.ireturn, 1, 0, 0, 0)]
theorem k_X11_orderOf_56 : z_chk 13 false cX11_orderOf 4 56 b_X11_orderOf_56 64 = true := by decide +kernel
def b_X11_orderOf_64 : List z_E := [(.aload_n 3, 1, 0, 0, 0), (.getfield 276, 3, 8, 1, 2), (.getfield 353, 3, 2, 0, 0), (.ireturn, 1, 0, 0, 0)]
theorem k_X11_orderOf_64 : z_chk 13 false cX11_orderOf 4 64 b_X11_orderOf_64 72 = true := by decide +kernel
def b_X11_orderOf_72 : List z_E := [(.aload_n 3, 1, 0, 0, 0), (.getfield 363, 3, 8, 3, 0), (.ireturn, 1, 0, 0, 0)]
theorem k_X11_orderOf_72 : z_chk 13 false cX11_orderOf 4 72 b_X11_orderOf_72 77 = true := by decide +kernel
def b_X11_orderOf_77 : List z_E := [(.aload_n 3, 1, 0, 0, 0), (.getfield 364, 3, 8, 4, 0), (.ireturn, 1, 0, 0, 0)]
theorem k_X11_orderOf_77 : z_chk 13 false cX11_orderOf 4 77 b_X11_orderOf_77 82 = true := by decide +kernel
def b_X11_orderOf_82 : List z_E := [(.aload_n 3, 1, 0, 0, 0), (.getfield 226, 3, 8, 6, 0), (.ireturn, 1, 0, 0, 0)]
theorem k_X11_orderOf_82 : z_chk 13 false cX11_orderOf 4 82 b_X11_orderOf_82 87 = true := by decide +kernel
def b_X11_orderOf_87 : List z_E := [(.aload_n 3, 1, 0, 0, 0), (.getfield 233, 3, 8, 7, 0), (.ireturn, 1, 0, 0, 0)]
theorem k_X11_orderOf_87 : z_chk 13 false cX11_orderOf 4 87 b_X11_orderOf_87 92 = true := by decide +kernel
def b_X11_orderOf_92 : List z_E := [(.aload_n 3, 1, 0, 0, 0), (.getfield 263, 3, 8, 11, 3), (.ifCond .eq 7, 3, 103, 0, 0), (.iconst 1, 1, 0, 0, 0), (.goto 4, 3, 104, 0, 0)]
theorem k_X11_orderOf_92 : z_chk 13 false cX11_orderOf 4 92 b_X11_orderOf_92 103 = true := by decide +kernel
def b_X11_orderOf_103 : List z_E := [(.iconst 0, 1, 0, 0, 0)]
theorem k_X11_orderOf_103 : z_chk 13 false cX11_orderOf 4 103 b_X11_orderOf_103 104 = true := by decide +kernel
def b_X11_orderOf_104 : List z_E := [(.ireturn, 1, 0, 0, 0)]
theorem k_X11_orderOf_104 : z_chk 13 false cX11_orderOf 4 104 b_X11_orderOf_104 105 = true := by decide +kernel
def b_X11_orderOf_105 : List z_E := [(.bipush (-2), 2, 0, 0, 0), (.ireturn, 1, 0, 0, 0)]
theorem k_X11_orderOf_105 : z_chk 13 false cX11_orderOf 4 105 b_X11_orderOf_105 108 = true := by decide +kernel
def b_X11_receipt_0 : List z_E := [(.aload_n 0, 1, 0, 0, 0), (.iload_n 1, 1, 0, 0, 0), (.invokevirtual 367, 3, 2, 0, 0), (.astore_n 3, 1, 0, 0, 0), (.aload_n 3, 1, 0, 0, 0), (.ifnonnull 6, 3, 13, 0, 0), (.bipush (-2), 2, 0, 0, 0), (.ireturn, 1, 0, 0, 0)]
theorem k_X11_receipt_0 : z_chk 13 false cX11_receipt 4 0 b_X11_receipt_0 13 = true := by decide +kernel
def b_X11_receipt_13 : List z_E := [(.iload_n 2, 1, 0, 0, 0), (.tableswitch 74 0 5 #[38, 46, 54, 59, 64, 69], 38, 14, 0, 0)]
theorem k_X11_receipt_13 : z_chk 13 false cX11_receipt 4 13 b_X11_receipt_13 52 = true := by decide +kernel
def b_X11_receipt_52 : List z_E := [(.aload_n 3, 1, 0, 0, 0), (.getfield 182, 3, 9, 4, 2), (.getfield 353, 3, 2, 0, 0), (.ireturn, 1, 0, 0, 0)]
theorem k_X11_receipt_52 : z_chk 13 false cX11_receipt 4 52 b_X11_receipt_52 60 = true := by decide +kernel
def b_X11_receipt_60 : List z_E := [(.aload_n 3, 1, 0, 0, 0), (.getfield 168, 3, 9, 0, 2), (.getfield 370, 3, 4, 0, 0), (.ireturn, 1, 0, 0, 0)]
theorem k_X11_receipt_60 : z_chk 13 false cX11_receipt 4 60 b_X11_receipt_60 68 = true := by decide +kernel
def b_X11_receipt_68 : List z_E := [(.aload_n 3, 1, 0, 0, 0), (.getfield 194, 3, 9, 1, 0), (.ireturn, 1, 0, 0, 0)]
theorem k_X11_receipt_68 : z_chk 13 false cX11_receipt 4 68 b_X11_receipt_68 73 = true := by decide +kernel
def b_X11_receipt_73 : List z_E := [(.aload_n 3, 1, 0, 0, 0), (.getfield 197, 3, 9, 2, 0), (.ireturn, 1, 0, 0, 0)]
theorem k_X11_receipt_73 : z_chk 13 false cX11_receipt 4 73 b_X11_receipt_73 78 = true := by decide +kernel
def b_X11_receipt_78 : List z_E := [(.aload_n 3, 1, 0, 0, 0), (.getfield 210, 3, 9, 5, 0), (.ireturn, 1, 0, 0, 0)]
theorem k_X11_receipt_78 : z_chk 13 false cX11_receipt 4 78 b_X11_receipt_78 83 = true := by decide +kernel
def b_X11_receipt_83 : List z_E := [(.aload_n 3, 1, 0, 0, 0), (.getfield 200, 3, 9, 6, 0), (.ireturn, 1, 0, 0, 0)]
theorem k_X11_receipt_83 : z_chk 13 false cX11_receipt 4 83 b_X11_receipt_83 88 = true := by decide +kernel
def b_X11_receipt_88 : List z_E := [(.bipush (-2), 2, 0, 0, 0), (.ireturn, 1, 0, 0, 0)]
theorem k_X11_receipt_88 : z_chk 13 false cX11_receipt 4 88 b_X11_receipt_88 91 = true := by decide +kernel
def b_X11_book_0 : List z_E := [(.aload_n 0, 1, 0, 0, 0), (.iload_n 1, 1, 0, 0, 0), (.invokevirtual 367, 3, 2, 0, 0), (.astore_n 2, 1, 0, 0, 0), (.aload_n 2, 1, 0, 0, 0), (.ifnonnull 7, 3, 14, 0, 0), (.lconst 0, 1, 0, 0, 0), (.goto 7, 3, 18, 0, 0)]
theorem k_X11_book_0 : z_chk 13 false cX11_book 3 0 b_X11_book_0 14 = true := by decide +kernel
def b_X11_book_14 : List z_E := [(.aload_n 2, 1, 0, 0, 0), (.getfield 178, 3, 9, 3, 1)]
theorem k_X11_book_14 : z_chk 13 false cX11_book 3 14 b_X11_book_14 18 = true := by decide +kernel
def b_X11_book_18 : List z_E := [(.lreturn, 1, 0, 0, 0)]
theorem k_X11_book_18 : z_chk 13 false cX11_book 3 18 b_X11_book_18 19 = true := by decide +kernel
def b_X11_vault_0 : List z_E := [(.aload_n 0, 1, 0, 0, 0), (.iload_n 1, 1, 0, 0, 0), (.invokevirtual 133, 3, 2, 0, 0), (.astore_n 3, 1, 0, 0, 0), (.aload_n 3, 1, 0, 0, 0), (.ifnonnull 7, 3, 14, 0, 0), (.ldc2_w 323, 3, 0, 0, (-1)), (.lreturn, 1, 0, 0, 0)]
theorem k_X11_vault_0 : z_chk 13 false cX11_vault 4 0 b_X11_vault_0 14 = true := by decide +kernel
def b_X11_vault_14 : List z_E := [(.iload_n 2, 1, 0, 0, 0), (.tableswitch 52 0 2 #[25, 31, 36], 25, 15, 0, 0)]
theorem k_X11_vault_14 : z_chk 13 false cX11_vault 4 14 b_X11_vault_14 40 = true := by decide +kernel
def b_X11_vault_40 : List z_E := [(.aload_n 3, 1, 0, 0, 0), (.getfield 193, 3, 4, 4, 0), (.i2l, 1, 0, 0, 0), (.lreturn, 1, 0, 0, 0)]
theorem k_X11_vault_40 : z_chk 13 false cX11_vault 4 40 b_X11_vault_40 46 = true := by decide +kernel
def b_X11_vault_46 : List z_E := [(.aload_n 3, 1, 0, 0, 0), (.getfield 195, 3, 4, 5, 1), (.lreturn, 1, 0, 0, 0)]
theorem k_X11_vault_46 : z_chk 13 false cX11_vault 4 46 b_X11_vault_46 51 = true := by decide +kernel
def b_X11_vault_51 : List z_E := [(.aload_n 3, 1, 0, 0, 0), (.aload_n 3, 1, 0, 0, 0), (.getfield 195, 3, 4, 5, 1), (.aload_n 0, 1, 0, 0, 0), (.getfield 10, 3, 13, 0, 2), (.getfield 80, 3, 11, 0, 0), (.invokevirtual 305, 3, 3, 0, 0), (.lreturn, 1, 0, 0, 0)]
theorem k_X11_vault_51 : z_chk 13 false cX11_vault 4 51 b_X11_vault_51 67 = true := by decide +kernel
def b_X11_vault_67 : List z_E := [(.ldc2_w 323, 3, 0, 0, (-1)), (.lreturn, 1, 0, 0, 0)]
theorem k_X11_vault_67 : z_chk 13 false cX11_vault 4 67 b_X11_vault_67 71 = true := by decide +kernel
def b_X11_count_0 : List z_E := [(.iload_n 1, 1, 0, 0, 0), (.tableswitch 141 0 10 #[59, 64, 72, 80, 88, 93, 101, 112, 120, 128, 136], 59, 1, 0, 0)]
theorem k_X11_count_0 : z_chk 13 false cX11_count 2 0 b_X11_count_0 60 = true := by decide +kernel
def b_X11_count_60 : List z_E := [(.aload_n 0, 1, 0, 0, 0), (.getfield 215, 3, 13, 10, 0), (.ireturn, 1, 0, 0, 0)]
theorem k_X11_count_60 : z_chk 13 false cX11_count 2 60 b_X11_count_60 65 = true := by decide +kernel
def b_X11_count_65 : List z_E := [(.aload_n 0, 1, 0, 0, 0), (.getfield 19, 3, 13, 1, 2), (.invokevirtual 105, 3, 0, 1, 0), (.ireturn, 1, 0, 0, 0)]
theorem k_X11_count_65 : z_chk 13 false cX11_count 2 65 b_X11_count_65 73 = true := by decide +kernel
def b_X11_count_73 : List z_E := [(.aload_n 0, 1, 0, 0, 0), (.getfield 23, 3, 13, 2, 2), (.invokevirtual 105, 3, 0, 1, 0), (.ireturn, 1, 0, 0, 0)]
theorem k_X11_count_73 : z_chk 13 false cX11_count 2 73 b_X11_count_73 81 = true := by decide +kernel
def b_X11_count_81 : List z_E := [(.aload_n 0, 1, 0, 0, 0), (.getfield 29, 3, 13, 4, 2), (.invokevirtual 105, 3, 0, 1, 0), (.ireturn, 1, 0, 0, 0)]
theorem k_X11_count_81 : z_chk 13 false cX11_count 2 81 b_X11_count_81 89 = true := by decide +kernel
def b_X11_count_89 : List z_E := [(.aload_n 0, 1, 0, 0, 0), (.getfield 371, 3, 13, 11, 0), (.ireturn, 1, 0, 0, 0)]
theorem k_X11_count_89 : z_chk 13 false cX11_count 2 89 b_X11_count_89 94 = true := by decide +kernel
def b_X11_count_94 : List z_E := [(.aload_n 0, 1, 0, 0, 0), (.getfield 26, 3, 13, 3, 2), (.invokevirtual 105, 3, 0, 1, 0), (.ireturn, 1, 0, 0, 0)]
theorem k_X11_count_94 : z_chk 13 false cX11_count 2 94 b_X11_count_94 102 = true := by decide +kernel
def b_X11_count_102 : List z_E := [(.aload_n 0, 1, 0, 0, 0), (.getfield 48, 3, 13, 7, 2), (.getfield 374, 3, 5, 0, 2), (.invokevirtual 105, 3, 0, 1, 0), (.ireturn, 1, 0, 0, 0)]
theorem k_X11_count_102 : z_chk 13 false cX11_count 2 102 b_X11_count_102 113 = true := by decide +kernel
def b_X11_count_113 : List z_E := [(.aload_n 0, 1, 0, 0, 0), (.getfield 48, 3, 13, 7, 2), (.getfield 377, 3, 5, 4, 0), (.ireturn, 1, 0, 0, 0)]
theorem k_X11_count_113 : z_chk 13 false cX11_count 2 113 b_X11_count_113 121 = true := by decide +kernel
def b_X11_count_121 : List z_E := [(.aload_n 0, 1, 0, 0, 0), (.getfield 55, 3, 13, 8, 2), (.getfield 379, 3, 3, 0, 0), (.ireturn, 1, 0, 0, 0)]
theorem k_X11_count_121 : z_chk 13 false cX11_count 2 121 b_X11_count_121 129 = true := by decide +kernel
def b_X11_count_129 : List z_E := [(.aload_n 0, 1, 0, 0, 0), (.getfield 32, 3, 13, 5, 2), (.invokevirtual 105, 3, 0, 1, 0), (.ireturn, 1, 0, 0, 0)]
theorem k_X11_count_129 : z_chk 13 false cX11_count 2 129 b_X11_count_129 137 = true := by decide +kernel
def b_X11_count_137 : List z_E := [(.aload_n 0, 1, 0, 0, 0), (.invokevirtual 382, 3, 1, 0, 0), (.ireturn, 1, 0, 0, 0)]
theorem k_X11_count_137 : z_chk 13 false cX11_count 2 137 b_X11_count_137 142 = true := by decide +kernel
def b_X11_count_142 : List z_E := [(.iconst (-1), 1, 0, 0, 0), (.ireturn, 1, 0, 0, 0)]
theorem k_X11_count_142 : z_chk 13 false cX11_count 2 142 b_X11_count_142 144 = true := by decide +kernel
def b_X11_sum_0 : List z_E := [(.iload_n 1, 1, 0, 0, 0), (.tableswitch 66 0 4 #[35, 40, 45, 50, 58], 35, 1, 0, 0)]
theorem k_X11_sum_0 : z_chk 13 false cX11_sum 2 0 b_X11_sum_0 36 = true := by decide +kernel
def b_X11_sum_36 : List z_E := [(.aload_n 0, 1, 0, 0, 0), (.invokevirtual 336, 3, 1, 0, 0), (.lreturn, 1, 0, 0, 0)]
theorem k_X11_sum_36 : z_chk 13 false cX11_sum 2 36 b_X11_sum_36 41 = true := by decide +kernel
def b_X11_sum_41 : List z_E := [(.aload_n 0, 1, 0, 0, 0), (.invokevirtual 332, 3, 1, 0, 0), (.lreturn, 1, 0, 0, 0)]
theorem k_X11_sum_41 : z_chk 13 false cX11_sum 2 41 b_X11_sum_41 46 = true := by decide +kernel
def b_X11_sum_46 : List z_E := [(.aload_n 0, 1, 0, 0, 0), (.getfield 207, 3, 13, 12, 1), (.lreturn, 1, 0, 0, 0)]
theorem k_X11_sum_46 : z_chk 13 false cX11_sum 2 46 b_X11_sum_46 51 = true := by decide +kernel
def b_X11_sum_51 : List z_E := [(.aload_n 0, 1, 0, 0, 0), (.getfield 55, 3, 13, 8, 2), (.getfield 385, 3, 3, 1, 1), (.lreturn, 1, 0, 0, 0)]
theorem k_X11_sum_51 : z_chk 13 false cX11_sum 2 51 b_X11_sum_51 59 = true := by decide +kernel
def b_X11_sum_59 : List z_E := [(.aload_n 0, 1, 0, 0, 0), (.getfield 55, 3, 13, 8, 2), (.getfield 388, 3, 3, 2, 1), (.lreturn, 1, 0, 0, 0)]
theorem k_X11_sum_59 : z_chk 13 false cX11_sum 2 59 b_X11_sum_59 67 = true := by decide +kernel
def b_X11_sum_67 : List z_E := [(.lconst 0, 1, 0, 0, 0), (.lreturn, 1, 0, 0, 0)]
theorem k_X11_sum_67 : z_chk 13 false cX11_sum 2 67 b_X11_sum_67 69 = true := by decide +kernel
def b_X11_row_0 : List z_E := [(.aload_n 0, 1, 0, 0, 0), (.iload_n 1, 1, 0, 0, 0), (.invokevirtual 137, 3, 2, 0, 0), (.astore 4, 2, 0, 0, 0), (.aload 4, 2, 0, 0, 0), (.ifnull 21, 3, 30, 0, 0), (.iload_n 2, 1, 0, 0, 0), (.i2l, 1, 0, 0, 0), (.lconst 0, 1, 0, 0, 0), (.ldc2_w 391, 3, 0, 0, 3), (.invokestatic 68, 3, 3, 0, 0), (.ifCond .eq 9, 3, 30, 0, 0), (.iload_n 3, 1, 0, 0, 0), (.bipush 60, 2, 0, 0, 0), (.if_icmp .le 6, 3, 33, 0, 0)]
theorem k_X11_row_0 : z_chk 13 false cX11_row 5 0 b_X11_row_0 30 = true := by decide +kernel
def b_X11_row_30 : List z_E := [(.bipush (-2), 2, 0, 0, 0), (.ireturn, 1, 0, 0, 0)]
theorem k_X11_row_30 : z_chk 13 false cX11_row 5 30 b_X11_row_30 33 = true := by decide +kernel
def b_X11_row_33 : List z_E := [(.iload_n 3, 1, 0, 0, 0), (.ifCond .ge 6, 3, 40, 0, 0), (.bipush (-3), 2, 0, 0, 0), (.ireturn, 1, 0, 0, 0)]
theorem k_X11_row_33 : z_chk 13 false cX11_row 5 33 b_X11_row_33 40 = true := by decide +kernel
def b_X11_row_40 : List z_E := [(.aload 4, 2, 0, 0, 0), (.iload_n 2, 1, 0, 0, 0), (.iload_n 3, 1, 0, 0, 0), (.invokevirtual 393, 3, 3, 0, 0), (.iconst 0, 1, 0, 0, 0), (.ireturn, 1, 0, 0, 0)]
theorem k_X11_row_40 : z_chk 13 false cX11_row 5 40 b_X11_row_40 49 = true := by decide +kernel
def b_X11_tear_0 : List z_E := [(.aload_n 0, 1, 0, 0, 0), (.iload_n 1, 1, 0, 0, 0), (.invokevirtual 137, 3, 2, 0, 0), (.astore_n 2, 1, 0, 0, 0), (.aload_n 2, 1, 0, 0, 0), (.ifnull 10, 3, 17, 0, 0), (.aload_n 2, 1, 0, 0, 0), (.getfield 141, 3, 10, 1, 3), (.ifCond .ne 5, 3, 19, 0, 0)]
theorem k_X11_tear_0 : z_chk 13 false cX11_tear 3 0 b_X11_tear_0 17 = true := by decide +kernel
def b_X11_tear_17 : List z_E := [(.iconst 0, 1, 0, 0, 0), (.ireturn, 1, 0, 0, 0)]
theorem k_X11_tear_17 : z_chk 13 false cX11_tear 3 17 b_X11_tear_17 19 = true := by decide +kernel
def b_X11_tear_19 : List z_E := [(.aload_n 2, 1, 0, 0, 0), (.iconst 0, 1, 0, 0, 0), (.putfield 141, 3, 10, 1, 3), (.iconst 1, 1, 0, 0, 0), (.ireturn, 1, 0, 0, 0)]
theorem k_X11_tear_19 : z_chk 13 false cX11_tear 3 19 b_X11_tear_19 26 = true := by decide +kernel
def b_X11_write_0 : List z_E := [(.aload_n 0, 1, 0, 0, 0), (.iload_n 1, 1, 0, 0, 0), (.invokevirtual 137, 3, 2, 0, 0), (.astore 5, 2, 0, 0, 0), (.aload 5, 2, 0, 0, 0), (.ifnonnull 6, 3, 15, 0, 0), (.bipush (-2), 2, 0, 0, 0), (.ireturn, 1, 0, 0, 0)]
theorem k_X11_write_0 : z_chk 13 false cX11_write 6 0 b_X11_write_0 15 = true := by decide +kernel
def b_X11_write_15 : List z_E := [(.aload 5, 2, 0, 0, 0), (.getfield 141, 3, 10, 1, 3), (.ifCond .ne 6, 3, 26, 0, 0), (.bipush (-5), 2, 0, 0, 0), (.ireturn, 1, 0, 0, 0)]
theorem k_X11_write_15 : z_chk 13 false cX11_write 6 15 b_X11_write_15 26 = true := by decide +kernel
def b_X11_write_26 : List z_E := [(.iload_n 2, 1, 0, 0, 0), (.ifCond .lt 12, 3, 39, 0, 0), (.iload_n 2, 1, 0, 0, 0), (.aload 5, 2, 0, 0, 0), (.getfield 397, 3, 10, 3, 0), (.if_icmp .lt 6, 3, 42, 0, 0)]
theorem k_X11_write_26 : z_chk 13 false cX11_write 6 26 b_X11_write_26 39 = true := by decide +kernel
def b_X11_write_39 : List z_E := [(.bipush (-6), 2, 0, 0, 0), (.ireturn, 1, 0, 0, 0)]
theorem k_X11_write_39 : z_chk 13 false cX11_write 6 39 b_X11_write_39 42 = true := by decide +kernel
def b_X11_write_42 : List z_E := [(.aload 5, 2, 0, 0, 0), (.getfield 399, 3, 10, 0, 2), (.iload_n 2, 1, 0, 0, 0), (.aload 5, 2, 0, 0, 0), (.lload_n 3, 1, 0, 0, 0), (.invokevirtual 403, 3, 2, 0, 0), (.lastore, 1, 0, 0, 0), (.iconst 0, 1, 0, 0, 0), (.ireturn, 1, 0, 0, 0)]
theorem k_X11_write_42 : z_chk 13 false cX11_write 6 42 b_X11_write_42 57 = true := by decide +kernel
def b_X11_paste_0 : List z_E := [(.aload_n 0, 1, 0, 0, 0), (.iload_n 1, 1, 0, 0, 0), (.invokevirtual 137, 3, 2, 0, 0), (.astore 6, 2, 0, 0, 0), (.aload_n 0, 1, 0, 0, 0), (.iload_n 3, 1, 0, 0, 0), (.invokevirtual 137, 3, 2, 0, 0), (.astore 7, 2, 0, 0, 0), (.aload 6, 2, 0, 0, 0), (.ifnull 8, 3, 24, 0, 0), (.aload 7, 2, 0, 0, 0), (.ifnonnull 6, 3, 27, 0, 0)]
theorem k_X11_paste_0 : z_chk 13 false cX11_paste 8 0 b_X11_paste_0 24 = true := by decide +kernel
def b_X11_paste_24 : List z_E := [(.bipush (-2), 2, 0, 0, 0), (.ireturn, 1, 0, 0, 0)]
theorem k_X11_paste_24 : z_chk 13 false cX11_paste 8 24 b_X11_paste_24 27 = true := by decide +kernel
def b_X11_paste_27 : List z_E := [(.aload 6, 2, 0, 0, 0), (.getfield 141, 3, 10, 1, 3), (.ifCond .eq 11, 3, 43, 0, 0), (.aload 7, 2, 0, 0, 0), (.getfield 141, 3, 10, 1, 3), (.ifCond .ne 6, 3, 46, 0, 0)]
theorem k_X11_paste_27 : z_chk 13 false cX11_paste 8 27 b_X11_paste_27 43 = true := by decide +kernel
def b_X11_paste_43 : List z_E := [(.bipush (-5), 2, 0, 0, 0), (.ireturn, 1, 0, 0, 0)]
theorem k_X11_paste_43 : z_chk 13 false cX11_paste 8 43 b_X11_paste_43 46 = true := by decide +kernel
def b_X11_paste_46 : List z_E := [(.aload 6, 2, 0, 0, 0), (.getfield 407, 3, 10, 2, 0), (.aload 7, 2, 0, 0, 0), (.getfield 407, 3, 10, 2, 0), (.if_icmp .eq 6, 3, 62, 0, 0), (.bipush (-7), 2, 0, 0, 0), (.ireturn, 1, 0, 0, 0)]
theorem k_X11_paste_46 : z_chk 13 false cX11_paste 8 46 b_X11_paste_46 62 = true := by decide +kernel
def b_X11_paste_62 : List z_E := [(.aload 6, 2, 0, 0, 0), (.iload_n 2, 1, 0, 0, 0), (.iload 5, 2, 0, 0, 0), (.invokevirtual 410, 3, 3, 0, 0), (.ifCond .eq 15, 3, 85, 0, 0), (.aload 7, 2, 0, 0, 0), (.iload 4, 2, 0, 0, 0), (.iload 5, 2, 0, 0, 0), (.invokevirtual 410, 3, 3, 0, 0), (.ifCond .ne 6, 3, 88, 0, 0)]
theorem k_X11_paste_62 : z_chk 13 false cX11_paste 8 62 b_X11_paste_62 85 = true := by decide +kernel
def b_X11_paste_85 : List z_E := [(.bipush (-6), 2, 0, 0, 0), (.ireturn, 1, 0, 0, 0)]
theorem k_X11_paste_85 : z_chk 13 false cX11_paste 8 85 b_X11_paste_85 88 = true := by decide +kernel
def b_X11_paste_88 : List z_E := [(.aload 6, 2, 0, 0, 0), (.getfield 399, 3, 10, 0, 2), (.iload_n 2, 1, 0, 0, 0), (.aload 7, 2, 0, 0, 0), (.getfield 399, 3, 10, 0, 2), (.iload 4, 2, 0, 0, 0), (.iload 5, 2, 0, 0, 0), (.invokestatic 414, 3, 0, 6, 0), (.iconst 0, 1, 0, 0, 0), (.ireturn, 1, 0, 0, 0)]
theorem k_X11_paste_88 : z_chk 13 false cX11_paste 8 88 b_X11_paste_88 108 = true := by decide +kernel
def b_X11_within_0 : List z_E := [(.lload_n 0, 1, 0, 0, 0), (.lload_n 2, 1, 0, 0, 0), (.lcmp, 1, 0, 0, 0), (.ifCond .lt 14, 3, 17, 0, 0), (.lload_n 0, 1, 0, 0, 0), (.lload 4, 2, 0, 0, 0), (.lcmp, 1, 0, 0, 0), (.ifCond .gt 7, 3, 17, 0, 0), (.iconst 1, 1, 0, 0, 0), (.goto 4, 3, 18, 0, 0)]
theorem k_X11_within_0 : z_chk 13 false cX11_within 6 0 b_X11_within_0 17 = true := by decide +kernel
def b_X11_within_17 : List z_E := [(.iconst 0, 1, 0, 0, 0)]
theorem k_X11_within_17 : z_chk 13 false cX11_within 6 17 b_X11_within_17 18 = true := by decide +kernel
def b_X11_within_18 : List z_E := [(.ireturn, 1, 0, 0, 0)]
theorem k_X11_within_18 : z_chk 13 false cX11_within 6 18 b_X11_within_18 19 = true := by decide +kernel
def b_X11_kindAt_0 : List z_E := [(.iload_n 1, 1, 0, 0, 0), (.ifCond .lt 28, 3, 29, 0, 0), (.iload_n 1, 1, 0, 0, 0), (.aload_n 0, 1, 0, 0, 0), (.getfield 19, 3, 13, 1, 2), (.invokevirtual 105, 3, 0, 1, 0), (.if_icmp .ge 17, 3, 29, 0, 0), (.aload_n 0, 1, 0, 0, 0), (.getfield 19, 3, 13, 1, 2), (.iload_n 1, 1, 0, 0, 0), (.invokevirtual 325, 3, 0, 2, 0), (.checkcast 109, 3, 4, 0, 0), (.goto 4, 3, 30, 0, 0)]
theorem k_X11_kindAt_0 : z_chk 13 false cX11_kindAt 2 0 b_X11_kindAt_0 29 = true := by decide +kernel
def b_X11_kindAt_29 : List z_E := [(.aconst_null, 1, 0, 0, 0)]
theorem k_X11_kindAt_29 : z_chk 13 false cX11_kindAt 2 29 b_X11_kindAt_29 30 = true := by decide +kernel
def b_X11_kindAt_30 : List z_E := [(.areturn, 1, 0, 0, 0)]
theorem k_X11_kindAt_30 : z_chk 13 false cX11_kindAt 2 30 b_X11_kindAt_30 31 = true := by decide +kernel
def b_X11_accountAt_0 : List z_E := [(.iload_n 1, 1, 0, 0, 0), (.ifCond .lt 28, 3, 29, 0, 0), (.iload_n 1, 1, 0, 0, 0), (.aload_n 0, 1, 0, 0, 0), (.getfield 23, 3, 13, 2, 2), (.invokevirtual 105, 3, 0, 1, 0), (.if_icmp .ge 17, 3, 29, 0, 0), (.aload_n 0, 1, 0, 0, 0), (.getfield 23, 3, 13, 2, 2), (.iload_n 1, 1, 0, 0, 0), (.invokevirtual 325, 3, 0, 2, 0), (.checkcast 114, 3, 2, 0, 0), (.goto 4, 3, 30, 0, 0)]
theorem k_X11_accountAt_0 : z_chk 13 false cX11_accountAt 2 0 b_X11_accountAt_0 29 = true := by decide +kernel
def b_X11_accountAt_29 : List z_E := [(.aconst_null, 1, 0, 0, 0)]
theorem k_X11_accountAt_29 : z_chk 13 false cX11_accountAt 2 29 b_X11_accountAt_29 30 = true := by decide +kernel
def b_X11_accountAt_30 : List z_E := [(.areturn, 1, 0, 0, 0)]
theorem k_X11_accountAt_30 : z_chk 13 false cX11_accountAt 2 30 b_X11_accountAt_30 31 = true := by decide +kernel
def b_X11_receiptAt_0 : List z_E := [(.iload_n 1, 1, 0, 0, 0), (.ifCond .lt 28, 3, 29, 0, 0), (.iload_n 1, 1, 0, 0, 0), (.aload_n 0, 1, 0, 0, 0), (.getfield 26, 3, 13, 3, 2), (.invokevirtual 105, 3, 0, 1, 0), (.if_icmp .ge 17, 3, 29, 0, 0), (.aload_n 0, 1, 0, 0, 0), (.getfield 26, 3, 13, 3, 2), (.iload_n 1, 1, 0, 0, 0), (.invokevirtual 325, 3, 0, 2, 0), (.checkcast 169, 3, 9, 0, 0), (.goto 4, 3, 30, 0, 0)]
theorem k_X11_receiptAt_0 : z_chk 13 false cX11_receiptAt 2 0 b_X11_receiptAt_0 29 = true := by decide +kernel
def b_X11_receiptAt_29 : List z_E := [(.aconst_null, 1, 0, 0, 0)]
theorem k_X11_receiptAt_29 : z_chk 13 false cX11_receiptAt 2 29 b_X11_receiptAt_29 30 = true := by decide +kernel
def b_X11_receiptAt_30 : List z_E := [(.areturn, 1, 0, 0, 0)]
theorem k_X11_receiptAt_30 : z_chk 13 false cX11_receiptAt 2 30 b_X11_receiptAt_30 31 = true := by decide +kernel
def b_X11_openReceiptAt_0 : List z_E := [(.aload_n 0, 1, 0, 0, 0), (.iload_n 1, 1, 0, 0, 0), (.invokevirtual 367, 3, 2, 0, 0), (.astore_n 2, 1, 0, 0, 0), (.aload_n 2, 1, 0, 0, 0), (.ifnull 14, 3, 21, 0, 0), (.aload_n 2, 1, 0, 0, 0), (.getfield 200, 3, 9, 6, 0), (.ifCond .ne 7, 3, 21, 0, 0), (.aload_n 2, 1, 0, 0, 0), (.goto 4, 3, 22, 0, 0)]
theorem k_X11_openReceiptAt_0 : z_chk 13 false cX11_openReceiptAt 3 0 b_X11_openReceiptAt_0 21 = true := by decide +kernel
def b_X11_openReceiptAt_21 : List z_E := [(.aconst_null, 1, 0, 0, 0)]
theorem k_X11_openReceiptAt_21 : z_chk 13 false cX11_openReceiptAt 3 21 b_X11_openReceiptAt_21 22 = true := by decide +kernel
def b_X11_openReceiptAt_22 : List z_E := [(.areturn, 1, 0, 0, 0)]
theorem k_X11_openReceiptAt_22 : z_chk 13 false cX11_openReceiptAt 3 22 b_X11_openReceiptAt_22 23 = true := by decide +kernel
def b_X11_orderAt_0 : List z_E := [(.iload_n 1, 1, 0, 0, 0), (.ifCond .lt 28, 3, 29, 0, 0), (.iload_n 1, 1, 0, 0, 0), (.aload_n 0, 1, 0, 0, 0), (.getfield 29, 3, 13, 4, 2), (.invokevirtual 105, 3, 0, 1, 0), (.if_icmp .ge 17, 3, 29, 0, 0), (.aload_n 0, 1, 0, 0, 0), (.getfield 29, 3, 13, 4, 2), (.iload_n 1, 1, 0, 0, 0), (.invokevirtual 325, 3, 0, 2, 0), (.checkcast 227, 3, 8, 0, 0), (.goto 4, 3, 30, 0, 0)]
theorem k_X11_orderAt_0 : z_chk 13 false cX11_orderAt 2 0 b_X11_orderAt_0 29 = true := by decide +kernel
def b_X11_orderAt_29 : List z_E := [(.aconst_null, 1, 0, 0, 0)]
theorem k_X11_orderAt_29 : z_chk 13 false cX11_orderAt 2 29 b_X11_orderAt_29 30 = true := by decide +kernel
def b_X11_orderAt_30 : List z_E := [(.areturn, 1, 0, 0, 0)]
theorem k_X11_orderAt_30 : z_chk 13 false cX11_orderAt 2 30 b_X11_orderAt_30 31 = true := by decide +kernel
def b_X11_loanAt_0 : List z_E := [(.iload_n 1, 1, 0, 0, 0), (.ifCond .lt 28, 3, 29, 0, 0), (.iload_n 1, 1, 0, 0, 0), (.aload_n 0, 1, 0, 0, 0), (.getfield 32, 3, 13, 5, 2), (.invokevirtual 105, 3, 0, 1, 0), (.if_icmp .ge 17, 3, 29, 0, 0), (.aload_n 0, 1, 0, 0, 0), (.getfield 32, 3, 13, 5, 2), (.iload_n 1, 1, 0, 0, 0), (.invokevirtual 325, 3, 0, 2, 0), (.checkcast 309, 3, 7, 0, 0), (.goto 4, 3, 30, 0, 0)]
theorem k_X11_loanAt_0 : z_chk 13 false cX11_loanAt 2 0 b_X11_loanAt_0 29 = true := by decide +kernel
def b_X11_loanAt_29 : List z_E := [(.aconst_null, 1, 0, 0, 0)]
theorem k_X11_loanAt_29 : z_chk 13 false cX11_loanAt 2 29 b_X11_loanAt_29 30 = true := by decide +kernel
def b_X11_loanAt_30 : List z_E := [(.areturn, 1, 0, 0, 0)]
theorem k_X11_loanAt_30 : z_chk 13 false cX11_loanAt 2 30 b_X11_loanAt_30 31 = true := by decide +kernel
def b_X11_slotAt_0 : List z_E := [(.iload_n 1, 1, 0, 0, 0), (.ifCond .lt 28, 3, 29, 0, 0), (.iload_n 1, 1, 0, 0, 0), (.aload_n 0, 1, 0, 0, 0), (.getfield 35, 3, 13, 6, 2), (.invokevirtual 105, 3, 0, 1, 0), (.if_icmp .ge 17, 3, 29, 0, 0), (.aload_n 0, 1, 0, 0, 0), (.getfield 35, 3, 13, 6, 2), (.iload_n 1, 1, 0, 0, 0), (.invokevirtual 325, 3, 0, 2, 0), (.checkcast 38, 3, 10, 0, 0), (.goto 4, 3, 30, 0, 0)]
theorem k_X11_slotAt_0 : z_chk 13 false cX11_slotAt 2 0 b_X11_slotAt_0 29 = true := by decide +kernel
def b_X11_slotAt_29 : List z_E := [(.aconst_null, 1, 0, 0, 0)]
theorem k_X11_slotAt_29 : z_chk 13 false cX11_slotAt 2 29 b_X11_slotAt_29 30 = true := by decide +kernel
def b_X11_slotAt_30 : List z_E := [(.areturn, 1, 0, 0, 0)]
theorem k_X11_slotAt_30 : z_chk 13 false cX11_slotAt 2 30 b_X11_slotAt_30 31 = true := by decide +kernel
def b_X11_room_0 : List z_E := [(.sipush 2000, 3, 0, 0, 0), (.aload_n 0, 1, 0, 0, 0), (.getfield 48, 3, 13, 7, 2), (.getfield 374, 3, 5, 0, 2), (.invokevirtual 105, 3, 0, 1, 0), (.isub, 1, 0, 0, 0), (.iconst 3, 1, 0, 0, 0), (.aload_n 0, 1, 0, 0, 0), (.getfield 371, 3, 13, 11, 0), (.imul, 1, 0, 0, 0), (.isub, 1, 0, 0, 0), (.ireturn, 1, 0, 0, 0)]
theorem k_X11_room_0 : z_chk 13 false cX11_room 1 0 b_X11_room_0 22 = true := by decide +kernel
def b_X11_feeOn_0 : List z_E := [(.aload_n 1, 1, 0, 0, 0), (.getfield 178, 3, 9, 3, 1), (.aload_n 0, 1, 0, 0, 0), (.getfield 10, 3, 13, 0, 2), (.getfield 84, 3, 11, 1, 0), (.i2l, 1, 0, 0, 0), (.lmul, 1, 0, 0, 0), (.ldc2_w 74, 3, 0, 0, 1000), (.ldiv, 1, 0, 0, 0), (.lreturn, 1, 0, 0, 0)]
theorem k_X11_feeOn_0 : z_chk 13 false cX11_feeOn 2 0 b_X11_feeOn_0 18 = true := by decide +kernel
def b_X11_bringIn_0 : List z_E := [(.aload_n 2, 1, 0, 0, 0), (.iload 4, 2, 0, 0, 0), (.i2l, 1, 0, 0, 0), (.aload_n 0, 1, 0, 0, 0), (.getfield 10, 3, 13, 0, 2), (.getfield 80, 3, 11, 0, 0), (.invokevirtual 305, 3, 3, 0, 0), (.lstore 5, 2, 0, 0, 0), (.aload_n 0, 1, 0, 0, 0), (.getfield 26, 3, 13, 3, 2), (.new 169, 3, 9, 0, 0), (.dup, 1, 0, 0, 0), (.aload_n 1, 1, 0, 0, 0), (.aload_n 2, 1, 0, 0, 0), (.iload_n 3, 1, 0, 0, 0), (.iload 4, 2, 0, 0, 0), (.lload 5, 2, 0, 0, 0), (.aload_n 0, 1, 0, 0, 0), (.getfield 215, 3, 13, 10, 0), (.aload_n 0, 1, 0, 0, 0), (.getfield 10, 3, 13, 0, 2), (.getfield 87, 3, 11, 2, 0), (.iadd, 1, 0, 0, 0), (.invokespecial 420, 3, 7, 0, 0), (.invokevirtual 41, 3, 0, 3, 0), (.pop, 1, 0, 0, 0), (.aload_n 2, 1, 0, 0, 0), (.dup, 1, 0, 0, 0), (.getfield 193, 3, 4, 4, 0), (.iload_n 3, 1, 0, 0, 0), (.iadd, 1, 0, 0, 0), (.putfield 193, 3, 4, 4, 0), (.aload_n 2, 1, 0, 0, 0), (.dup, 1, 0, 0, 0), (.getfield 195, 3, 4, 5, 1), (.iload 4, 2, 0, 0, 0), (.i2l, 1, 0, 0, 0), (.ladd, 1, 0, 0, 0), (.putfield 195, 3, 4, 5, 1), (.aload_n 1, 1, 0, 0, 0), (.dup, 1, 0, 0, 0), (.getfield 186, 3, 2, 4, 1), (.lload 5, 2, 0, 0, 0), (.ladd, 1, 0, 0, 0), (.putfield 186, 3, 2, 4, 1), (.aload_n 0, 1, 0, 0, 0), (.getfield 48, 3, 13, 7, 2), (.aload_n 0, 1, 0, 0, 0), (.getfield 215, 3, 13, 10, 0), (.aload_n 1, 1, 0, 0, 0), (.iconst 1, 1, 0, 0, 0), (.lload 5, 2, 0, 0, 0), (.iconst (-1), 1, 0, 0, 0), (.invokevirtual 282, 3, 6, 0, 0), (.pop, 1, 0, 0, 0), (.aload_n 0, 1, 0, 0, 0), (.getfield 55, 3, 13, 8, 2), (.dup, 1, 0, 0, 0), (.getfield 423, 3, 3, 4, 1), (.lload 5, 2, 0, 0, 0), (.ladd, 1, 0, 0, 0), (.putfield 423, 3, 3, 4, 1), (.return_, 1, 0, 0, 0)]
theorem k_X11_bringIn_0 : z_chk 13 false cX11_bringIn 7 0 b_X11_bringIn_0 115 = true := by decide +kernel
def b_X11_payOut_0 : List z_E := [(.aload_n 1, 1, 0, 0, 0), (.dup, 1, 0, 0, 0), (.getfield 186, 3, 2, 4, 1), (.lload_n 2, 1, 0, 0, 0), (.lsub, 1, 0, 0, 0), (.putfield 186, 3, 2, 4, 1), (.aload_n 0, 1, 0, 0, 0), (.getfield 48, 3, 13, 7, 2), (.aload_n 0, 1, 0, 0, 0), (.getfield 215, 3, 13, 10, 0), (.aload_n 1, 1, 0, 0, 0), (.iconst 0, 1, 0, 0, 0), (.lload_n 2, 1, 0, 0, 0), (.iconst (-1), 1, 0, 0, 0), (.invokevirtual 282, 3, 6, 0, 0), (.pop, 1, 0, 0, 0), (.return_, 1, 0, 0, 0)]
theorem k_X11_payOut_0 : z_chk 13 false cX11_payOut 4 0 b_X11_payOut_0 27 = true := by decide +kernel
def b_X11_letWait_0 : List z_E := [(.aload_n 0, 1, 0, 0, 0), (.iload_n 1, 1, 0, 0, 0), (.invokevirtual 119, 3, 2, 0, 0), (.astore 8, 2, 0, 0, 0), (.aload_n 0, 1, 0, 0, 0), (.iload_n 2, 1, 0, 0, 0), (.invokevirtual 119, 3, 2, 0, 0), (.astore 9, 2, 0, 0, 0), (.aload 8, 2, 0, 0, 0), (.ifnull 24, 3, 40, 0, 0), (.aload 9, 2, 0, 0, 0), (.ifnull 19, 3, 40, 0, 0), (.iload_n 1, 1, 0, 0, 0), (.iload_n 2, 1, 0, 0, 0), (.if_icmp .eq 14, 3, 40, 0, 0), (.lload_n 3, 1, 0, 0, 0), (.lconst 1, 1, 0, 0, 0), (.ldc2_w 330, 3, 0, 0, 1000000000), (.invokestatic 68, 3, 3, 0, 0), (.ifCond .ne 6, 3, 43, 0, 0)]
theorem k_X11_letWait_0 : z_chk 13 false cX11_letWait 10 0 b_X11_letWait_0 40 = true := by decide +kernel
def b_X11_letWait_40 : List z_E := [(.bipush (-2), 2, 0, 0, 0), (.ireturn, 1, 0, 0, 0)]
theorem k_X11_letWait_40 : z_chk 13 false cX11_letWait 10 40 b_X11_letWait_40 43 = true := by decide +kernel
def b_X11_letWait_43 : List z_E := [(.aload_n 0, 1, 0, 0, 0), (.getfield 29, 3, 13, 4, 2), (.invokevirtual 105, 3, 0, 1, 0), (.sipush 300, 3, 0, 0, 0), (.if_icmp .ge 11, 3, 64, 0, 0), (.aload_n 0, 1, 0, 0, 0), (.invokevirtual 145, 3, 1, 0, 0), (.iconst 3, 1, 0, 0, 0), (.if_icmp .ge 6, 3, 67, 0, 0)]
theorem k_X11_letWait_43 : z_chk 13 false cX11_letWait 10 43 b_X11_letWait_43 64 = true := by decide +kernel
def b_X11_letWait_64 : List z_E := [(.bipush (-3), 2, 0, 0, 0), (.ireturn, 1, 0, 0, 0)]
theorem k_X11_letWait_64 : z_chk 13 false cX11_letWait 10 64 b_X11_letWait_64 67 = true := by decide +kernel
def b_X11_letWait_67 : List z_E := [(.aload_n 0, 1, 0, 0, 0), (.getfield 29, 3, 13, 4, 2), (.new 227, 3, 8, 0, 0), (.dup, 1, 0, 0, 0), (.aload 8, 2, 0, 0, 0), (.aload 9, 2, 0, 0, 0), (.lload_n 3, 1, 0, 0, 0), (.iload 5, 2, 0, 0, 0), (.iload 6, 2, 0, 0, 0), (.iload 7, 2, 0, 0, 0), (.invokespecial 426, 3, 7, 0, 0), (.invokevirtual 41, 3, 0, 3, 0), (.pop, 1, 0, 0, 0), (.aload_n 0, 1, 0, 0, 0), (.dup, 1, 0, 0, 0), (.getfield 371, 3, 13, 11, 0), (.iconst 1, 1, 0, 0, 0), (.iadd, 1, 0, 0, 0), (.putfield 371, 3, 13, 11, 0), (.aload_n 0, 1, 0, 0, 0), (.getfield 29, 3, 13, 4, 2), (.invokevirtual 105, 3, 0, 1, 0), (.iconst 1, 1, 0, 0, 0), (.isub, 1, 0, 0, 0), (.ireturn, 1, 0, 0, 0)]
theorem k_X11_letWait_67 : z_chk 13 false cX11_letWait 10 67 b_X11_letWait_67 113 = true := by decide +kernel
def b_X11_slipIsAsTold_0 : List z_E := [(.iload_n 2, 1, 0, 0, 0), (.tableswitch 87 0 3 #[31, 31, 41, 51], 31, 1, 0, 0)]
theorem k_X11_slipIsAsTold_0 : z_chk 13 false cX11_slipIsAsTold 4 0 b_X11_slipIsAsTold_0 32 = true := by decide +kernel
def b_X11_slipIsAsTold_32 : List z_E := [(.iload_n 3, 1, 0, 0, 0), (.ifCond .ne 7, 3, 40, 0, 0), (.iconst 1, 1, 0, 0, 0), (.goto 4, 3, 41, 0, 0)]
theorem k_X11_slipIsAsTold_32 : z_chk 13 false cX11_slipIsAsTold 4 32 b_X11_slipIsAsTold_32 40 = true := by decide +kernel
def b_X11_slipIsAsTold_40 : List z_E := [(.iconst 0, 1, 0, 0, 0)]
theorem k_X11_slipIsAsTold_40 : z_chk 13 false cX11_slipIsAsTold 4 40 b_X11_slipIsAsTold_40 41 = true := by decide +kernel
def b_X11_slipIsAsTold_41 : List z_E := [(.ireturn, 1, 0, 0, 0)]
theorem k_X11_slipIsAsTold_41 : z_chk 13 false cX11_slipIsAsTold 4 41 b_X11_slipIsAsTold_41 42 = true := by decide +kernel
def b_X11_slipIsAsTold_42 : List z_E := [(.iload_n 3, 1, 0, 0, 0), (.i2l, 1, 0, 0, 0), (.lconst 0, 1, 0, 0, 0), (.ldc2_w 429, 3, 0, 0, 8), (.invokestatic 68, 3, 3, 0, 0), (.ireturn, 1, 0, 0, 0)]
theorem k_X11_slipIsAsTold_42 : z_chk 13 false cX11_slipIsAsTold 4 42 b_X11_slipIsAsTold_42 52 = true := by decide +kernel
def b_X11_slipIsAsTold_52 : List z_E := [(.aload_n 0, 1, 0, 0, 0), (.iload_n 3, 1, 0, 0, 0), (.invokevirtual 119, 3, 2, 0, 0), (.ifnull 29, 3, 86, 0, 0), (.iload_n 3, 1, 0, 0, 0), (.aload_n 1, 1, 0, 0, 0), (.getfield 360, 3, 8, 0, 2), (.getfield 353, 3, 2, 0, 0), (.if_icmp .eq 18, 3, 86, 0, 0), (.iload_n 3, 1, 0, 0, 0), (.aload_n 1, 1, 0, 0, 0), (.getfield 276, 3, 8, 1, 2), (.getfield 353, 3, 2, 0, 0), (.if_icmp .eq 7, 3, 86, 0, 0), (.iconst 1, 1, 0, 0, 0), (.goto 4, 3, 87, 0, 0)]
theorem k_X11_slipIsAsTold_52 : z_chk 13 false cX11_slipIsAsTold 4 52 b_X11_slipIsAsTold_52 86 = true := by decide +kernel
def b_X11_slipIsAsTold_86 : List z_E := [(.iconst 0, 1, 0, 0, 0)]
theorem k_X11_slipIsAsTold_86 : z_chk 13 false cX11_slipIsAsTold 4 86 b_X11_slipIsAsTold_86 87 = true := by decide +kernel
def b_X11_slipIsAsTold_87 : List z_E := [(.ireturn, 1, 0, 0, 0)]
theorem k_X11_slipIsAsTold_87 : z_chk 13 false cX11_slipIsAsTold 4 87 b_X11_slipIsAsTold_87 88 = true := by decide +kernel
def b_X11_slipIsAsTold_88 : List z_E := [(.iconst 0, 1, 0, 0, 0), (.ireturn, 1, 0, 0, 0)]
theorem k_X11_slipIsAsTold_88 : z_chk 13 false cX11_slipIsAsTold 4 88 b_X11_slipIsAsTold_88 90 = true := by decide +kernel
def b_X11_carryOutOrders_0 : List z_E := [(.iconst 0, 1, 0, 0, 0), (.istore_n 1, 1, 0, 0, 0), (.aload_n 0, 1, 0, 0, 0), (.getfield 371, 3, 13, 11, 0), (.istore_n 2, 1, 0, 0, 0)]
theorem k_X11_carryOutOrders_0 : z_chk 13 false cX11_carryOutOrders 5 0 b_X11_carryOutOrders_0 7 = true := by decide +kernel
def b_X11_carryOutOrders_7 : List z_E := [(.iload_n 2, 1, 0, 0, 0), (.ifCond .le 58, 3, 66, 0, 0), (.aload_n 0, 1, 0, 0, 0), (.invokevirtual 431, 3, 1, 0, 0), (.istore_n 3, 1, 0, 0, 0), (.aload_n 0, 1, 0, 0, 0), (.iload_n 3, 1, 0, 0, 0), (.invokevirtual 222, 3, 2, 0, 0), (.astore 4, 2, 0, 0, 0), (.aload 4, 2, 0, 0, 0), (.ifnonnull 6, 3, 31, 0, 0), (.goto 38, 3, 66, 0, 0)]
theorem k_X11_carryOutOrders_7 : z_chk 13 false cX11_carryOutOrders 5 7 b_X11_carryOutOrders_7 31 = true := by decide +kernel
def b_X11_carryOutOrders_31 : List z_E := [(.aload_n 0, 1, 0, 0, 0), (.aload 4, 2, 0, 0, 0), (.iload_n 3, 1, 0, 0, 0), (.invokevirtual 434, 3, 3, 0, 0), (.aload_n 0, 1, 0, 0, 0), (.dup, 1, 0, 0, 0), (.getfield 371, 3, 13, 11, 0), (.iconst 1, 1, 0, 0, 0), (.isub, 1, 0, 0, 0), (.putfield 371, 3, 13, 11, 0), (.aload 4, 2, 0, 0, 0), (.getfield 226, 3, 8, 6, 0), (.iconst 1, 1, 0, 0, 0), (.if_icmp .ne 6, 3, 60, 0, 0), (.iinc 1 1, 3, 0, 0, 0)]
theorem k_X11_carryOutOrders_31 : z_chk 13 false cX11_carryOutOrders 5 31 b_X11_carryOutOrders_31 60 = true := by decide +kernel
def b_X11_carryOutOrders_60 : List z_E := [(.iinc 2 (-1), 3, 0, 0, 0), (.goto (-56), 3, 7, 0, 0)]
theorem k_X11_carryOutOrders_60 : z_chk 13 false cX11_carryOutOrders 5 60 b_X11_carryOutOrders_60 66 = true := by decide +kernel
def b_X11_carryOutOrders_66 : List z_E := [(.iload_n 1, 1, 0, 0, 0), (.ireturn, 1, 0, 0, 0)]
theorem k_X11_carryOutOrders_66 : z_chk 13 false cX11_carryOutOrders 5 66 b_X11_carryOutOrders_66 68 = true := by decide +kernel
def b_X11_nextOrderDue_0 : List z_E := [(.iconst (-1), 1, 0, 0, 0), (.istore_n 1, 1, 0, 0, 0), (.bipush 24, 2, 0, 0, 0), (.istore_n 2, 1, 0, 0, 0), (.iconst 0, 1, 0, 0, 0), (.istore_n 3, 1, 0, 0, 0)]
theorem k_X11_nextOrderDue_0 : z_chk 13 false cX11_nextOrderDue 5 0 b_X11_nextOrderDue_0 7 = true := by decide +kernel
def b_X11_nextOrderDue_7 : List z_E := [(.iload_n 3, 1, 0, 0, 0), (.aload_n 0, 1, 0, 0, 0), (.getfield 29, 3, 13, 4, 2), (.invokevirtual 105, 3, 0, 1, 0), (.if_icmp .ge 59, 3, 74, 0, 0), (.aload_n 0, 1, 0, 0, 0), (.getfield 29, 3, 13, 4, 2), (.iload_n 3, 1, 0, 0, 0), (.invokevirtual 325, 3, 0, 2, 0), (.checkcast 227, 3, 8, 0, 0), (.astore 4, 2, 0, 0, 0), (.aload 4, 2, 0, 0, 0), (.getfield 226, 3, 8, 6, 0), (.ifCond .ne 32, 3, 68, 0, 0), (.aload 4, 2, 0, 0, 0), (.getfield 363, 3, 8, 3, 0), (.aload_n 0, 1, 0, 0, 0), (.getfield 215, 3, 13, 10, 0), (.if_icmp .gt 20, 3, 68, 0, 0), (.aload 4, 2, 0, 0, 0), (.getfield 364, 3, 8, 4, 0), (.iload_n 2, 1, 0, 0, 0), (.if_icmp .ge 11, 3, 68, 0, 0), (.iload_n 3, 1, 0, 0, 0), (.istore_n 1, 1, 0, 0, 0), (.aload 4, 2, 0, 0, 0), (.getfield 364, 3, 8, 4, 0), (.istore_n 2, 1, 0, 0, 0)]
theorem k_X11_nextOrderDue_7 : z_chk 13 false cX11_nextOrderDue 5 7 b_X11_nextOrderDue_7 68 = true := by decide +kernel
def b_X11_nextOrderDue_68 : List z_E := [(.iinc 3 1, 3, 0, 0, 0), (.goto (-64), 3, 7, 0, 0)]
theorem k_X11_nextOrderDue_68 : z_chk 13 false cX11_nextOrderDue 5 68 b_X11_nextOrderDue_68 74 = true := by decide +kernel
def b_X11_nextOrderDue_74 : List z_E := [(.iload_n 1, 1, 0, 0, 0), (.ireturn, 1, 0, 0, 0)]
theorem k_X11_nextOrderDue_74 : z_chk 13 false cX11_nextOrderDue 5 74 b_X11_nextOrderDue_74 76 = true := by decide +kernel
def b_X11_carryOut_0 : List z_E := [(.aload_n 1, 1, 0, 0, 0), (.getfield 360, 3, 8, 0, 2), (.astore_n 3, 1, 0, 0, 0), (.aload_n 3, 1, 0, 0, 0), (.aload_n 1, 1, 0, 0, 0), (.getfield 438, 3, 8, 5, 0), (.aload_n 0, 1, 0, 0, 0), (.getfield 215, 3, 13, 10, 0), (.invokevirtual 441, 3, 3, 0, 0), (.ifCond .ne 11, 3, 28, 0, 0), (.aload_n 1, 1, 0, 0, 0), (.iconst 2, 1, 0, 0, 0), (.putfield 226, 3, 8, 6, 0), (.goto 154, 3, 179, 0, 0)]
theorem k_X11_carryOut_0 : z_chk 13 false cX11_carryOut 6 0 b_X11_carryOut_0 28 = true := by decide +kernel
def b_X11_carryOut_28 : List z_E := [(.aload_n 3, 1, 0, 0, 0), (.getfield 186, 3, 2, 4, 1), (.aload_n 1, 1, 0, 0, 0), (.getfield 279, 3, 8, 2, 1), (.lcmp, 1, 0, 0, 0), (.ifCond .ge 55, 3, 92, 0, 0), (.aload_n 1, 1, 0, 0, 0), (.iconst 3, 1, 0, 0, 0), (.putfield 226, 3, 8, 6, 0), (.aload_n 1, 1, 0, 0, 0), (.getfield 279, 3, 8, 2, 1), (.aload_n 0, 1, 0, 0, 0), (.getfield 10, 3, 13, 0, 2), (.getfield 90, 3, 11, 3, 0), (.i2l, 1, 0, 0, 0), (.lmul, 1, 0, 0, 0), (.ldc2_w 72, 3, 0, 0, 100), (.ldiv, 1, 0, 0, 0), (.aload_n 3, 1, 0, 0, 0), (.getfield 186, 3, 2, 4, 1), (.invokestatic 444, 3, 2, 0, 0), (.lstore 4, 2, 0, 0, 0), (.aload_n 0, 1, 0, 0, 0), (.aload_n 3, 1, 0, 0, 0), (.lload 4, 2, 0, 0, 0), (.invokevirtual 203, 3, 3, 0, 0), (.aload_n 0, 1, 0, 0, 0), (.dup, 1, 0, 0, 0), (.getfield 207, 3, 13, 12, 1), (.lload 4, 2, 0, 0, 0), (.ladd, 1, 0, 0, 0), (.putfield 207, 3, 13, 12, 1), (.goto 90, 3, 179, 0, 0)]
theorem k_X11_carryOut_28 : z_chk 13 false cX11_carryOut 6 28 b_X11_carryOut_28 92 = true := by decide +kernel
def b_X11_carryOut_92 : List z_E := [(.aload_n 1, 1, 0, 0, 0), (.iconst 1, 1, 0, 0, 0), (.putfield 226, 3, 8, 6, 0), (.aload_n 1, 1, 0, 0, 0), (.aload_n 0, 1, 0, 0, 0), (.getfield 215, 3, 13, 10, 0), (.putfield 273, 3, 8, 9, 0), (.aload_n 3, 1, 0, 0, 0), (.dup, 1, 0, 0, 0), (.getfield 186, 3, 2, 4, 1), (.aload_n 1, 1, 0, 0, 0), (.getfield 279, 3, 8, 2, 1), (.lsub, 1, 0, 0, 0), (.putfield 186, 3, 2, 4, 1), (.aload_n 1, 1, 0, 0, 0), (.getfield 276, 3, 8, 1, 2), (.dup, 1, 0, 0, 0), (.getfield 186, 3, 2, 4, 1), (.aload_n 1, 1, 0, 0, 0), (.getfield 279, 3, 8, 2, 1), (.ladd, 1, 0, 0, 0), (.putfield 186, 3, 2, 4, 1), (.aload_n 0, 1, 0, 0, 0), (.getfield 48, 3, 13, 7, 2), (.aload_n 0, 1, 0, 0, 0), (.getfield 215, 3, 13, 10, 0), (.aload_n 3, 1, 0, 0, 0), (.iconst 0, 1, 0, 0, 0), (.aload_n 1, 1, 0, 0, 0), (.getfield 279, 3, 8, 2, 1), (.iload_n 2, 1, 0, 0, 0), (.invokevirtual 282, 3, 6, 0, 0), (.pop, 1, 0, 0, 0), (.aload_n 1, 1, 0, 0, 0), (.aload_n 0, 1, 0, 0, 0), (.aload_n 1, 1, 0, 0, 0), (.iload_n 2, 1, 0, 0, 0), (.invokevirtual 450, 3, 3, 0, 0), (.putfield 266, 3, 8, 10, 0), (.aload_n 0, 1, 0, 0, 0), (.getfield 55, 3, 13, 8, 2), (.dup, 1, 0, 0, 0), (.getfield 454, 3, 3, 3, 1), (.aload_n 1, 1, 0, 0, 0), (.getfield 279, 3, 8, 2, 1), (.ladd, 1, 0, 0, 0), (.putfield 454, 3, 3, 3, 1)]
theorem k_X11_carryOut_92 : z_chk 13 false cX11_carryOut 6 92 b_X11_carryOut_92 179 = true := by decide +kernel
def b_X11_carryOut_179 : List z_E := [(.return_, 1, 0, 0, 0)]
theorem k_X11_carryOut_179 : z_chk 13 false cX11_carryOut 6 179 b_X11_carryOut_179 180 = true := by decide +kernel
def b_X11_enterCredit_0 : List z_E := [(.aload_n 1, 1, 0, 0, 0), (.getfield 276, 3, 8, 1, 2), (.astore_n 3, 1, 0, 0, 0), (.iconst 1, 1, 0, 0, 0), (.istore 4, 2, 0, 0, 0), (.aload_n 1, 1, 0, 0, 0), (.getfield 279, 3, 8, 2, 1), (.lstore 5, 2, 0, 0, 0), (.aload_n 1, 1, 0, 0, 0), (.getfield 233, 3, 8, 7, 0), (.tableswitch 77 0 3 #[30, 32, 38, 52], 30, 18, 0, 0)]
theorem k_X11_enterCredit_0 : z_chk 13 false cX11_enterCredit 8 0 b_X11_enterCredit_0 48 = true := by decide +kernel
def b_X11_enterCredit_48 : List z_E := [(.iconst (-1), 1, 0, 0, 0), (.ireturn, 1, 0, 0, 0)]
theorem k_X11_enterCredit_48 : z_chk 13 false cX11_enterCredit 8 48 b_X11_enterCredit_48 50 = true := by decide +kernel
def b_X11_enterCredit_50 : List z_E := [(.iconst 0, 1, 0, 0, 0), (.istore 4, 2, 0, 0, 0), (.goto 42, 3, 95, 0, 0)]
theorem k_X11_enterCredit_50 : z_chk 13 false cX11_enterCredit 8 50 b_X11_enterCredit_50 56 = true := by decide +kernel
def b_X11_enterCredit_56 : List z_E := [(.lload 5, 2, 0, 0, 0), (.aload_n 1, 1, 0, 0, 0), (.getfield 236, 3, 8, 8, 0), (.invokestatic 457, 3, 2, 0, 0), (.lstore 5, 2, 0, 0, 0), (.goto 28, 3, 95, 0, 0)]
theorem k_X11_enterCredit_56 : z_chk 13 false cX11_enterCredit 8 56 b_X11_enterCredit_56 70 = true := by decide +kernel
def b_X11_enterCredit_70 : List z_E := [(.aload_n 0, 1, 0, 0, 0), (.aload_n 1, 1, 0, 0, 0), (.getfield 236, 3, 8, 8, 0), (.invokevirtual 119, 3, 2, 0, 0), (.astore 7, 2, 0, 0, 0), (.aload 7, 2, 0, 0, 0), (.ifnonnull 7, 3, 89, 0, 0), (.aload_n 3, 1, 0, 0, 0), (.goto 5, 3, 91, 0, 0)]
theorem k_X11_enterCredit_70 : z_chk 13 false cX11_enterCredit 8 70 b_X11_enterCredit_70 89 = true := by decide +kernel
def b_X11_enterCredit_89 : List z_E := [(.aload 7, 2, 0, 0, 0)]
theorem k_X11_enterCredit_89 : z_chk 13 false cX11_enterCredit 8 89 b_X11_enterCredit_89 91 = true := by decide +kernel
def b_X11_enterCredit_91 : List z_E := [(.astore_n 3, 1, 0, 0, 0), (.goto 3, 3, 95, 0, 0)]
theorem k_X11_enterCredit_91 : z_chk 13 false cX11_enterCredit 8 91 b_X11_enterCredit_91 95 = true := by decide +kernel
def b_X11_enterCredit_95 : List z_E := [(.aload_n 0, 1, 0, 0, 0), (.getfield 48, 3, 13, 7, 2), (.aload_n 0, 1, 0, 0, 0), (.getfield 215, 3, 13, 10, 0), (.aload_n 3, 1, 0, 0, 0), (.iload 4, 2, 0, 0, 0), (.lload 5, 2, 0, 0, 0), (.iload_n 2, 1, 0, 0, 0), (.invokevirtual 282, 3, 6, 0, 0), (.ireturn, 1, 0, 0, 0)]
theorem k_X11_enterCredit_95 : z_chk 13 false cX11_enterCredit 8 95 b_X11_enterCredit_95 113 = true := by decide +kernel
def b_X11_lapseReceipts_0 : List z_E := [(.iconst 0, 1, 0, 0, 0), (.istore_n 1, 1, 0, 0, 0)]
theorem k_X11_lapseReceipts_0 : z_chk 13 false cX11_lapseReceipts 3 0 b_X11_lapseReceipts_0 2 = true := by decide +kernel
def b_X11_lapseReceipts_2 : List z_E := [(.iload_n 1, 1, 0, 0, 0), (.aload_n 0, 1, 0, 0, 0), (.getfield 26, 3, 13, 3, 2), (.invokevirtual 105, 3, 0, 1, 0), (.if_icmp .ge 44, 3, 54, 0, 0), (.aload_n 0, 1, 0, 0, 0), (.getfield 26, 3, 13, 3, 2), (.iload_n 1, 1, 0, 0, 0), (.invokevirtual 325, 3, 0, 2, 0), (.checkcast 169, 3, 9, 0, 0), (.astore_n 2, 1, 0, 0, 0), (.aload_n 2, 1, 0, 0, 0), (.getfield 200, 3, 9, 6, 0), (.ifCond .ne 19, 3, 48, 0, 0), (.aload_n 2, 1, 0, 0, 0), (.getfield 210, 3, 9, 5, 0), (.aload_n 0, 1, 0, 0, 0), (.getfield 215, 3, 13, 10, 0), (.if_icmp .gt 8, 3, 48, 0, 0), (.aload_n 2, 1, 0, 0, 0), (.iconst 2, 1, 0, 0, 0), (.putfield 200, 3, 9, 6, 0)]
theorem k_X11_lapseReceipts_2 : z_chk 13 false cX11_lapseReceipts 3 2 b_X11_lapseReceipts_2 48 = true := by decide +kernel
def b_X11_lapseReceipts_48 : List z_E := [(.iinc 1 1, 3, 0, 0, 0), (.goto (-49), 3, 2, 0, 0)]
theorem k_X11_lapseReceipts_48 : z_chk 13 false cX11_lapseReceipts 3 48 b_X11_lapseReceipts_48 54 = true := by decide +kernel
def b_X11_lapseReceipts_54 : List z_E := [(.return_, 1, 0, 0, 0)]
theorem k_X11_lapseReceipts_54 : z_chk 13 false cX11_lapseReceipts 3 54 b_X11_lapseReceipts_54 55 = true := by decide +kernel
def b_X11_allBalances_0 : List z_E := [(.lconst 0, 1, 0, 0, 0), (.lstore_n 1, 1, 0, 0, 0), (.iconst 0, 1, 0, 0, 0), (.istore_n 3, 1, 0, 0, 0)]
theorem k_X11_allBalances_0 : z_chk 13 false cX11_allBalances 4 0 b_X11_allBalances_0 4 = true := by decide +kernel
def b_X11_allBalances_4 : List z_E := [(.iload_n 3, 1, 0, 0, 0), (.aload_n 0, 1, 0, 0, 0), (.getfield 23, 3, 13, 2, 2), (.invokevirtual 105, 3, 0, 1, 0), (.if_icmp .ge 26, 3, 38, 0, 0), (.lload_n 1, 1, 0, 0, 0), (.aload_n 0, 1, 0, 0, 0), (.getfield 23, 3, 13, 2, 2), (.iload_n 3, 1, 0, 0, 0), (.invokevirtual 325, 3, 0, 2, 0), (.checkcast 114, 3, 2, 0, 0), (.getfield 186, 3, 2, 4, 1), (.ladd, 1, 0, 0, 0), (.lstore_n 1, 1, 0, 0, 0), (.iinc 3 1, 3, 0, 0, 0), (.goto (-31), 3, 4, 0, 0)]
theorem k_X11_allBalances_4 : z_chk 13 false cX11_allBalances 4 4 b_X11_allBalances_4 38 = true := by decide +kernel
def b_X11_allBalances_38 : List z_E := [(.lload_n 1, 1, 0, 0, 0), (.lreturn, 1, 0, 0, 0)]
theorem k_X11_allBalances_38 : z_chk 13 false cX11_allBalances 4 38 b_X11_allBalances_38 40 = true := by decide +kernel
def b_X11_bookOfVault_0 : List z_E := [(.lconst 0, 1, 0, 0, 0), (.lstore_n 1, 1, 0, 0, 0), (.iconst 0, 1, 0, 0, 0), (.istore_n 3, 1, 0, 0, 0)]
theorem k_X11_bookOfVault_0 : z_chk 13 false cX11_bookOfVault 5 0 b_X11_bookOfVault_0 4 = true := by decide +kernel
def b_X11_bookOfVault_4 : List z_E := [(.iload_n 3, 1, 0, 0, 0), (.aload_n 0, 1, 0, 0, 0), (.getfield 19, 3, 13, 1, 2), (.invokevirtual 105, 3, 0, 1, 0), (.if_icmp .ge 42, 3, 54, 0, 0), (.aload_n 0, 1, 0, 0, 0), (.getfield 19, 3, 13, 1, 2), (.iload_n 3, 1, 0, 0, 0), (.invokevirtual 325, 3, 0, 2, 0), (.checkcast 109, 3, 4, 0, 0), (.astore 4, 2, 0, 0, 0), (.lload_n 1, 1, 0, 0, 0), (.aload 4, 2, 0, 0, 0), (.aload 4, 2, 0, 0, 0), (.getfield 195, 3, 4, 5, 1), (.aload_n 0, 1, 0, 0, 0), (.getfield 10, 3, 13, 0, 2), (.getfield 80, 3, 11, 0, 0), (.invokevirtual 305, 3, 3, 0, 0), (.ladd, 1, 0, 0, 0), (.lstore_n 1, 1, 0, 0, 0), (.iinc 3 1, 3, 0, 0, 0), (.goto (-47), 3, 4, 0, 0)]
theorem k_X11_bookOfVault_4 : z_chk 13 false cX11_bookOfVault 5 4 b_X11_bookOfVault_4 54 = true := by decide +kernel
def b_X11_bookOfVault_54 : List z_E := [(.lload_n 1, 1, 0, 0, 0), (.lreturn, 1, 0, 0, 0)]
theorem k_X11_bookOfVault_54 : z_chk 13 false cX11_bookOfVault 5 54 b_X11_bookOfVault_54 56 = true := by decide +kernel
def b_X11_slotsWithRow_0 : List z_E := [(.iconst 0, 1, 0, 0, 0), (.istore_n 1, 1, 0, 0, 0), (.iconst 0, 1, 0, 0, 0), (.istore_n 2, 1, 0, 0, 0)]
theorem k_X11_slotsWithRow_0 : z_chk 13 false cX11_slotsWithRow 3 0 b_X11_slotsWithRow_0 4 = true := by decide +kernel
def b_X11_slotsWithRow_4 : List z_E := [(.iload_n 2, 1, 0, 0, 0), (.aload_n 0, 1, 0, 0, 0), (.getfield 35, 3, 13, 6, 2), (.invokevirtual 105, 3, 0, 1, 0), (.if_icmp .ge 29, 3, 41, 0, 0), (.aload_n 0, 1, 0, 0, 0), (.getfield 35, 3, 13, 6, 2), (.iload_n 2, 1, 0, 0, 0), (.invokevirtual 325, 3, 0, 2, 0), (.checkcast 38, 3, 10, 0, 0), (.getfield 141, 3, 10, 1, 3), (.ifCond .eq 6, 3, 35, 0, 0), (.iinc 1 1, 3, 0, 0, 0)]
theorem k_X11_slotsWithRow_4 : z_chk 13 false cX11_slotsWithRow 3 4 b_X11_slotsWithRow_4 35 = true := by decide +kernel
def b_X11_slotsWithRow_35 : List z_E := [(.iinc 2 1, 3, 0, 0, 0), (.goto (-34), 3, 4, 0, 0)]
theorem k_X11_slotsWithRow_35 : z_chk 13 false cX11_slotsWithRow 3 35 b_X11_slotsWithRow_35 41 = true := by decide +kernel
def b_X11_slotsWithRow_41 : List z_E := [(.iload_n 1, 1, 0, 0, 0), (.ireturn, 1, 0, 0, 0)]
theorem k_X11_slotsWithRow_41 : z_chk 13 false cX11_slotsWithRow 3 41 b_X11_slotsWithRow_41 43 = true := by decide +kernel
