def b_X12_init_0 : List z_E := [(.aload_n 0, 1, 0, 0, 0), (.invokespecial 1, 3, 0, 7, 0), (.aload_n 0, 1, 0, 0, 0), (.iconst 4, 1, 0, 0, 0), (.newarray .int, 2, 301, 0, 0), (.dup, 1, 0, 0, 0), (.iconst 0, 1, 0, 0, 0), (.iconst (-1), 1, 0, 0, 0), (.iastore, 1, 0, 0, 0), (.dup, 1, 0, 0, 0), (.iconst 1, 1, 0, 0, 0), (.iconst (-1), 1, 0, 0, 0), (.iastore, 1, 0, 0, 0), (.dup, 1, 0, 0, 0), (.iconst 2, 1, 0, 0, 0), (.iconst (-1), 1, 0, 0, 0), (.iastore, 1, 0, 0, 0), (.dup, 1, 0, 0, 0), (.iconst 3, 1, 0, 0, 0), (.iconst (-1), 1, 0, 0, 0), (.iastore, 1, 0, 0, 0), (.putfield 9, 3, 14, 1, 2), (.aload_n 0, 1, 0, 0, 0), (.iconst 4, 1, 0, 0, 0), (.newarray .int, 2, 302, 0, 0), (.putfield 13, 3, 14, 2, 2), (.aload_n 0, 1, 0, 0, 0), (.sipush 240, 3, 0, 0, 0), (.newarray .long, 2, 303, 0, 0), (.putfield 16, 3, 14, 3, 2), (.aload_n 0, 1, 0, 0, 0), (.bipush 60, 2, 0, 0, 0), (.newarray .long, 2, 304, 0, 0), (.putfield 20, 3, 14, 4, 2), (.aload_n 0, 1, 0, 0, 0), (.sipush 1000, 3, 0, 0, 0), (.putfield 23, 3, 14, 5, 0), (.aload_n 0, 1, 0, 0, 0), (.iconst 5, 1, 0, 0, 0), (.putfield 27, 3, 14, 6, 0)]
theorem k_X12_init_0 : z_chk 14 true cX12_init 2 0 b_X12_init_0 63 = true := by decide +kernel
def b_X12_init_63 : List z_E := [(.aload_n 0, 1, 0, 0, 0), (.sipush 180, 3, 0, 0, 0), (.putfield 30, 3, 14, 7, 0), (.aload_n 0, 1, 0, 0, 0), (.iconst 3, 1, 0, 0, 0), (.putfield 33, 3, 14, 8, 0), (.aload_n 0, 1, 0, 0, 0), (.bipush 10, 2, 0, 0, 0), (.putfield 36, 3, 14, 9, 0), (.aload_n 0, 1, 0, 0, 0), (.iconst 5, 1, 0, 0, 0), (.putfield 39, 3, 14, 10, 0), (.aload_n 0, 1, 0, 0, 0), (.bipush 30, 2, 0, 0, 0), (.putfield 42, 3, 14, 11, 0), (.aload_n 0, 1, 0, 0, 0), (.bipush 60, 2, 0, 0, 0), (.putfield 45, 3, 14, 12, 0)]
theorem k_X12_init_63 : z_chk 14 true cX12_init 2 63 b_X12_init_63 98 = true := by decide +kernel
def b_X12_init_98 : List z_E := [(.aload_n 0, 1, 0, 0, 0), (.bipush 40, 2, 0, 0, 0), (.putfield 48, 3, 14, 13, 0), (.aload_n 0, 1, 0, 0, 0), (.bipush 6, 2, 0, 0, 0), (.newarray .int, 2, 322, 0, 0), (.putfield 51, 3, 14, 22, 2), (.aload_n 0, 1, 0, 0, 0), (.bipush 6, 2, 0, 0, 0), (.newarray .int, 2, 323, 0, 0), (.putfield 54, 3, 14, 23, 2), (.aload_n 0, 1, 0, 0, 0), (.bipush 6, 2, 0, 0, 0), (.newarray .int, 2, 324, 0, 0), (.putfield 57, 3, 14, 24, 2), (.aload_n 0, 1, 0, 0, 0), (.bipush 6, 2, 0, 0, 0), (.newarray .long, 2, 325, 0, 0), (.putfield 60, 3, 14, 25, 2), (.aload_n 0, 1, 0, 0, 0), (.bipush 6, 2, 0, 0, 0), (.newarray .long, 2, 326, 0, 0), (.putfield 63, 3, 14, 26, 2)]
theorem k_X12_init_98 : z_chk 14 true cX12_init 2 98 b_X12_init_98 144 = true := by decide +kernel
def b_X12_init_144 : List z_E := [(.aload_n 0, 1, 0, 0, 0), (.bipush 24, 2, 0, 0, 0), (.newarray .long, 2, 327, 0, 0), (.putfield 66, 3, 14, 27, 2), (.aload_n 0, 1, 0, 0, 0), (.bipush 24, 2, 0, 0, 0), (.newarray .int, 2, 328, 0, 0), (.putfield 69, 3, 14, 28, 2), (.aload_n 0, 1, 0, 0, 0), (.bipush 24, 2, 0, 0, 0), (.newarray .int, 2, 329, 0, 0), (.putfield 72, 3, 14, 29, 2), (.aload_n 0, 1, 0, 0, 0), (.sipush 200, 3, 0, 0, 0), (.newarray .int, 2, 330, 0, 0), (.putfield 75, 3, 14, 30, 2), (.aload_n 0, 1, 0, 0, 0), (.sipush 200, 3, 0, 0, 0), (.newarray .int, 2, 331, 0, 0), (.putfield 78, 3, 14, 31, 2), (.aload_n 0, 1, 0, 0, 0), (.sipush 200, 3, 0, 0, 0), (.newarray .int, 2, 332, 0, 0), (.putfield 81, 3, 14, 32, 2)]
theorem k_X12_init_144 : z_chk 14 true cX12_init 2 144 b_X12_init_144 195 = true := by decide +kernel
def b_X12_init_195 : List z_E := [(.aload_n 0, 1, 0, 0, 0), (.sipush 200, 3, 0, 0, 0), (.newarray .int, 2, 333, 0, 0), (.putfield 84, 3, 14, 33, 2), (.aload_n 0, 1, 0, 0, 0), (.sipush 200, 3, 0, 0, 0), (.newarray .int, 2, 334, 0, 0), (.putfield 87, 3, 14, 34, 2), (.aload_n 0, 1, 0, 0, 0), (.sipush 200, 3, 0, 0, 0), (.newarray .long, 2, 335, 0, 0), (.putfield 90, 3, 14, 35, 2), (.aload_n 0, 1, 0, 0, 0), (.sipush 200, 3, 0, 0, 0), (.newarray .long, 2, 336, 0, 0), (.putfield 93, 3, 14, 36, 2), (.aload_n 0, 1, 0, 0, 0), (.sipush 300, 3, 0, 0, 0), (.newarray .int, 2, 337, 0, 0), (.putfield 96, 3, 14, 37, 2), (.aload_n 0, 1, 0, 0, 0), (.sipush 300, 3, 0, 0, 0), (.newarray .int, 2, 338, 0, 0), (.putfield 99, 3, 14, 38, 2)]
theorem k_X12_init_195 : z_chk 14 true cX12_init 2 195 b_X12_init_195 249 = true := by decide +kernel
def b_X12_init_249 : List z_E := [(.aload_n 0, 1, 0, 0, 0), (.sipush 300, 3, 0, 0, 0), (.newarray .int, 2, 339, 0, 0), (.putfield 102, 3, 14, 39, 2), (.aload_n 0, 1, 0, 0, 0), (.sipush 300, 3, 0, 0, 0), (.newarray .int, 2, 340, 0, 0), (.putfield 105, 3, 14, 40, 2), (.aload_n 0, 1, 0, 0, 0), (.sipush 300, 3, 0, 0, 0), (.newarray .int, 2, 341, 0, 0), (.putfield 108, 3, 14, 41, 2), (.aload_n 0, 1, 0, 0, 0), (.sipush 300, 3, 0, 0, 0), (.newarray .int, 2, 342, 0, 0), (.putfield 111, 3, 14, 42, 2), (.aload_n 0, 1, 0, 0, 0), (.sipush 300, 3, 0, 0, 0), (.newarray .int, 2, 343, 0, 0), (.putfield 114, 3, 14, 43, 2), (.aload_n 0, 1, 0, 0, 0), (.sipush 300, 3, 0, 0, 0), (.newarray .int, 2, 344, 0, 0), (.putfield 117, 3, 14, 44, 2)]
theorem k_X12_init_249 : z_chk 14 true cX12_init 2 249 b_X12_init_249 303 = true := by decide +kernel
def b_X12_init_303 : List z_E := [(.aload_n 0, 1, 0, 0, 0), (.sipush 300, 3, 0, 0, 0), (.newarray .int, 2, 345, 0, 0), (.putfield 120, 3, 14, 45, 2), (.aload_n 0, 1, 0, 0, 0), (.sipush 300, 3, 0, 0, 0), (.newarray .int, 2, 346, 0, 0), (.putfield 123, 3, 14, 46, 2), (.aload_n 0, 1, 0, 0, 0), (.sipush 300, 3, 0, 0, 0), (.newarray .long, 2, 347, 0, 0), (.putfield 126, 3, 14, 47, 2), (.aload_n 0, 1, 0, 0, 0), (.sipush 300, 3, 0, 0, 0), (.newarray .boolean, 2, 348, 0, 0), (.putfield 129, 3, 14, 48, 2), (.aload_n 0, 1, 0, 0, 0), (.sipush 2000, 3, 0, 0, 0), (.newarray .int, 2, 349, 0, 0), (.putfield 133, 3, 14, 49, 2), (.aload_n 0, 1, 0, 0, 0), (.sipush 2000, 3, 0, 0, 0), (.newarray .int, 2, 350, 0, 0), (.putfield 136, 3, 14, 50, 2)]
theorem k_X12_init_303 : z_chk 14 true cX12_init 2 303 b_X12_init_303 357 = true := by decide +kernel
def b_X12_init_357 : List z_E := [(.aload_n 0, 1, 0, 0, 0), (.sipush 2000, 3, 0, 0, 0), (.newarray .int, 2, 351, 0, 0), (.putfield 139, 3, 14, 51, 2), (.aload_n 0, 1, 0, 0, 0), (.sipush 2000, 3, 0, 0, 0), (.newarray .int, 2, 352, 0, 0), (.putfield 142, 3, 14, 52, 2), (.aload_n 0, 1, 0, 0, 0), (.sipush 2000, 3, 0, 0, 0), (.newarray .int, 2, 353, 0, 0), (.putfield 145, 3, 14, 53, 2), (.aload_n 0, 1, 0, 0, 0), (.sipush 2000, 3, 0, 0, 0), (.newarray .long, 2, 354, 0, 0), (.putfield 148, 3, 14, 54, 2), (.aload_n 0, 1, 0, 0, 0), (.sipush 2000, 3, 0, 0, 0), (.newarray .int, 2, 355, 0, 0), (.putfield 151, 3, 14, 55, 2), (.aload_n 0, 1, 0, 0, 0), (.sipush 2000, 3, 0, 0, 0), (.newarray .int, 2, 356, 0, 0), (.putfield 154, 3, 14, 56, 2)]
theorem k_X12_init_357 : z_chk 14 true cX12_init 2 357 b_X12_init_357 411 = true := by decide +kernel
def b_X12_init_411 : List z_E := [(.aload_n 0, 1, 0, 0, 0), (.bipush 20, 2, 0, 0, 0), (.newarray .int, 2, 357, 0, 0), (.putfield 157, 3, 14, 57, 2), (.aload_n 0, 1, 0, 0, 0), (.sipush 640, 3, 0, 0, 0), (.newarray .int, 2, 358, 0, 0), (.putfield 160, 3, 14, 58, 2), (.aload_n 0, 1, 0, 0, 0), (.bipush 20, 2, 0, 0, 0), (.newarray .long, 2, 359, 0, 0), (.putfield 163, 3, 14, 59, 2), (.aload_n 0, 1, 0, 0, 0), (.sipush 2000, 3, 0, 0, 0), (.newarray .int, 2, 360, 0, 0), (.putfield 166, 3, 14, 60, 2), (.aload_n 0, 1, 0, 0, 0), (.sipush 2000, 3, 0, 0, 0), (.newarray .int, 2, 361, 0, 0), (.putfield 169, 3, 14, 61, 2), (.iconst 0, 1, 0, 0, 0), (.istore_n 1, 1, 0, 0, 0)]
theorem k_X12_init_411 : z_chk 14 true cX12_init 2 411 b_X12_init_411 456 = true := by decide +kernel
def b_X12_init_456 : List z_E := [(.iload_n 1, 1, 0, 0, 0), (.bipush 24, 2, 0, 0, 0), (.if_icmp .ge 16, 3, 475, 0, 0), (.aload_n 0, 1, 0, 0, 0), (.getfield 69, 3, 14, 28, 2), (.iload_n 1, 1, 0, 0, 0), (.iconst (-1), 1, 0, 0, 0), (.iastore, 1, 0, 0, 0), (.iinc 1 1, 3, 0, 0, 0), (.goto (-16), 3, 456, 0, 0)]
theorem k_X12_init_456 : z_chk 14 true cX12_init 2 456 b_X12_init_456 475 = true := by decide +kernel
def b_X12_init_475 : List z_E := [(.return_, 1, 0, 0, 0)]
theorem k_X12_init_475 : z_chk 14 true cX12_init 2 475 b_X12_init_475 476 = true := by decide +kernel
def b_X12_in_0 : List z_E := [(.lload_n 0, 1, 0, 0, 0), (.lload_n 2, 1, 0, 0, 0), (.lcmp, 1, 0, 0, 0), (.ifCond .lt 14, 3, 17, 0, 0), (.lload_n 0, 1, 0, 0, 0), (.lload 4, 2, 0, 0, 0), (.lcmp, 1, 0, 0, 0), (.ifCond .gt 7, 3, 17, 0, 0), (.iconst 1, 1, 0, 0, 0), (.goto 4, 3, 18, 0, 0)]
theorem k_X12_in_0 : z_chk 14 false cX12_in 6 0 b_X12_in_0 17 = true := by decide +kernel
def b_X12_in_17 : List z_E := [(.iconst 0, 1, 0, 0, 0)]
theorem k_X12_in_17 : z_chk 14 false cX12_in 6 17 b_X12_in_17 18 = true := by decide +kernel
def b_X12_in_18 : List z_E := [(.ireturn, 1, 0, 0, 0)]
theorem k_X12_in_18 : z_chk 14 false cX12_in 6 18 b_X12_in_18 19 = true := by decide +kernel
def b_X12_isSlot_0 : List z_E := [(.iload_n 0, 1, 0, 0, 0), (.i2l, 1, 0, 0, 0), (.lconst 0, 1, 0, 0, 0), (.ldc2_w 175, 3, 0, 0, 3), (.invokestatic 177, 3, 3, 0, 0), (.ireturn, 1, 0, 0, 0)]
theorem k_X12_isSlot_0 : z_chk 14 false cX12_isSlot 1 0 b_X12_isSlot_0 10 = true := by decide +kernel
def b_X12_cut_0 : List z_E := [(.iload_n 0, 1, 0, 0, 0), (.ifCond .ne 10, 3, 11, 0, 0), (.lload_n 1, 1, 0, 0, 0), (.l2i, 1, 0, 0, 0), (.i2b, 1, 0, 0, 0), (.i2l, 1, 0, 0, 0), (.goto 27, 3, 35, 0, 0)]
theorem k_X12_cut_0 : z_chk 14 false cX12_cut 3 0 b_X12_cut_0 11 = true := by decide +kernel
def b_X12_cut_11 : List z_E := [(.iload_n 0, 1, 0, 0, 0), (.iconst 1, 1, 0, 0, 0), (.if_icmp .ne 10, 3, 23, 0, 0), (.lload_n 1, 1, 0, 0, 0), (.l2i, 1, 0, 0, 0), (.i2s, 1, 0, 0, 0), (.i2l, 1, 0, 0, 0), (.goto 15, 3, 35, 0, 0)]
theorem k_X12_cut_11 : z_chk 14 false cX12_cut 3 11 b_X12_cut_11 23 = true := by decide +kernel
def b_X12_cut_23 : List z_E := [(.iload_n 0, 1, 0, 0, 0), (.iconst 2, 1, 0, 0, 0), (.if_icmp .ne 9, 3, 34, 0, 0), (.lload_n 1, 1, 0, 0, 0), (.l2i, 1, 0, 0, 0), (.i2l, 1, 0, 0, 0), (.goto 4, 3, 35, 0, 0)]
theorem k_X12_cut_23 : z_chk 14 false cX12_cut 3 23 b_X12_cut_23 34 = true := by decide +kernel
def b_X12_cut_34 : List z_E := [(.lload_n 1, 1, 0, 0, 0)]
theorem k_X12_cut_34 : z_chk 14 false cX12_cut 3 34 b_X12_cut_34 35 = true := by decide +kernel
def b_X12_cut_35 : List z_E := [(.lreturn, 1, 0, 0, 0)]
theorem k_X12_cut_35 : z_chk 14 false cX12_cut 3 35 b_X12_cut_35 36 = true := by decide +kernel
def b_X12_row_0 : List z_E := [(.aload_n 0, 1, 0, 0, 0), (.iconst 0, 1, 0, 0, 0), (.putfield 172, 3, 14, 0, 0), (.iload_n 1, 1, 0, 0, 0), (.invokestatic 181, 3, 1, 0, 0), (.ifCond .eq 21, 3, 30, 0, 0), (.iload_n 2, 1, 0, 0, 0), (.i2l, 1, 0, 0, 0), (.lconst 0, 1, 0, 0, 0), (.ldc2_w 175, 3, 0, 0, 3), (.invokestatic 177, 3, 3, 0, 0), (.ifCond .eq 9, 3, 30, 0, 0), (.iload_n 3, 1, 0, 0, 0), (.bipush 60, 2, 0, 0, 0), (.if_icmp .le 6, 3, 33, 0, 0)]
theorem k_X12_row_0 : z_chk 14 false cX12_row 5 0 b_X12_row_0 30 = true := by decide +kernel
def b_X12_row_30 : List z_E := [(.bipush (-2), 2, 0, 0, 0), (.ireturn, 1, 0, 0, 0)]
theorem k_X12_row_30 : z_chk 14 false cX12_row 5 30 b_X12_row_30 33 = true := by decide +kernel
def b_X12_row_33 : List z_E := [(.iload_n 3, 1, 0, 0, 0), (.ifCond .ge 6, 3, 40, 0, 0), (.bipush (-3), 2, 0, 0, 0), (.ireturn, 1, 0, 0, 0)]
theorem k_X12_row_33 : z_chk 14 false cX12_row 5 33 b_X12_row_33 40 = true := by decide +kernel
def b_X12_row_40 : List z_E := [(.aload_n 0, 1, 0, 0, 0), (.getfield 9, 3, 14, 1, 2), (.iload_n 1, 1, 0, 0, 0), (.iload_n 2, 1, 0, 0, 0), (.iastore, 1, 0, 0, 0), (.aload_n 0, 1, 0, 0, 0), (.getfield 13, 3, 14, 2, 2), (.iload_n 1, 1, 0, 0, 0), (.iload_n 3, 1, 0, 0, 0), (.iastore, 1, 0, 0, 0), (.iconst 0, 1, 0, 0, 0), (.istore 4, 2, 0, 0, 0)]
theorem k_X12_row_40 : z_chk 14 false cX12_row 5 40 b_X12_row_40 57 = true := by decide +kernel
def b_X12_row_57 : List z_E := [(.iload 4, 2, 0, 0, 0), (.bipush 60, 2, 0, 0, 0), (.if_icmp .ge 22, 3, 83, 0, 0), (.aload_n 0, 1, 0, 0, 0), (.getfield 16, 3, 14, 3, 2), (.bipush 60, 2, 0, 0, 0), (.iload_n 1, 1, 0, 0, 0), (.imul, 1, 0, 0, 0), (.iload 4, 2, 0, 0, 0), (.iadd, 1, 0, 0, 0), (.lconst 0, 1, 0, 0, 0), (.lastore, 1, 0, 0, 0), (.iinc 4 1, 3, 0, 0, 0), (.goto (-23), 3, 57, 0, 0)]
theorem k_X12_row_57 : z_chk 14 false cX12_row 5 57 b_X12_row_57 83 = true := by decide +kernel
def b_X12_row_83 : List z_E := [(.iconst 0, 1, 0, 0, 0), (.ireturn, 1, 0, 0, 0)]
theorem k_X12_row_83 : z_chk 14 false cX12_row 5 83 b_X12_row_83 85 = true := by decide +kernel
def b_X12_tear_0 : List z_E := [(.aload_n 0, 1, 0, 0, 0), (.iconst 0, 1, 0, 0, 0), (.putfield 172, 3, 14, 0, 0), (.iload_n 1, 1, 0, 0, 0), (.invokestatic 181, 3, 1, 0, 0), (.ifCond .eq 12, 3, 21, 0, 0), (.aload_n 0, 1, 0, 0, 0), (.getfield 9, 3, 14, 1, 2), (.iload_n 1, 1, 0, 0, 0), (.iaload, 1, 0, 0, 0), (.ifCond .ge 5, 3, 23, 0, 0)]
theorem k_X12_tear_0 : z_chk 14 false cX12_tear 2 0 b_X12_tear_0 21 = true := by decide +kernel
def b_X12_tear_21 : List z_E := [(.iconst 0, 1, 0, 0, 0), (.ireturn, 1, 0, 0, 0)]
theorem k_X12_tear_21 : z_chk 14 false cX12_tear 2 21 b_X12_tear_21 23 = true := by decide +kernel
def b_X12_tear_23 : List z_E := [(.aload_n 0, 1, 0, 0, 0), (.getfield 9, 3, 14, 1, 2), (.iload_n 1, 1, 0, 0, 0), (.iconst (-1), 1, 0, 0, 0), (.iastore, 1, 0, 0, 0), (.iconst 1, 1, 0, 0, 0), (.ireturn, 1, 0, 0, 0)]
theorem k_X12_tear_23 : z_chk 14 false cX12_tear 2 23 b_X12_tear_23 32 = true := by decide +kernel
def b_X12_write_0 : List z_E := [(.aload_n 0, 1, 0, 0, 0), (.iconst 0, 1, 0, 0, 0), (.putfield 172, 3, 14, 0, 0), (.iload_n 1, 1, 0, 0, 0), (.invokestatic 181, 3, 1, 0, 0), (.ifCond .ne 6, 3, 15, 0, 0), (.bipush (-2), 2, 0, 0, 0), (.ireturn, 1, 0, 0, 0)]
theorem k_X12_write_0 : z_chk 14 false cX12_write 5 0 b_X12_write_0 15 = true := by decide +kernel
def b_X12_write_15 : List z_E := [(.aload_n 0, 1, 0, 0, 0), (.getfield 9, 3, 14, 1, 2), (.iload_n 1, 1, 0, 0, 0), (.iaload, 1, 0, 0, 0), (.ifCond .ge 6, 3, 27, 0, 0), (.bipush (-5), 2, 0, 0, 0), (.ireturn, 1, 0, 0, 0)]
theorem k_X12_write_15 : z_chk 14 false cX12_write 5 15 b_X12_write_15 27 = true := by decide +kernel
def b_X12_write_27 : List z_E := [(.iload_n 2, 1, 0, 0, 0), (.i2l, 1, 0, 0, 0), (.lconst 0, 1, 0, 0, 0), (.aload_n 0, 1, 0, 0, 0), (.getfield 13, 3, 14, 2, 2), (.iload_n 1, 1, 0, 0, 0), (.iaload, 1, 0, 0, 0), (.iconst 1, 1, 0, 0, 0), (.isub, 1, 0, 0, 0), (.i2l, 1, 0, 0, 0), (.invokestatic 177, 3, 3, 0, 0), (.ifCond .ne 6, 3, 48, 0, 0), (.bipush (-6), 2, 0, 0, 0), (.ireturn, 1, 0, 0, 0)]
theorem k_X12_write_27 : z_chk 14 false cX12_write 5 27 b_X12_write_27 48 = true := by decide +kernel
def b_X12_write_48 : List z_E := [(.aload_n 0, 1, 0, 0, 0), (.getfield 16, 3, 14, 3, 2), (.bipush 60, 2, 0, 0, 0), (.iload_n 1, 1, 0, 0, 0), (.imul, 1, 0, 0, 0), (.iload_n 2, 1, 0, 0, 0), (.iadd, 1, 0, 0, 0), (.aload_n 0, 1, 0, 0, 0), (.getfield 9, 3, 14, 1, 2), (.iload_n 1, 1, 0, 0, 0), (.iaload, 1, 0, 0, 0), (.lload_n 3, 1, 0, 0, 0), (.invokestatic 185, 3, 2, 0, 0), (.lastore, 1, 0, 0, 0), (.iconst 0, 1, 0, 0, 0), (.ireturn, 1, 0, 0, 0)]
theorem k_X12_write_48 : z_chk 14 false cX12_write 5 48 b_X12_write_48 71 = true := by decide +kernel
def b_X12_paste_0 : List z_E := [(.aload_n 0, 1, 0, 0, 0), (.iconst 0, 1, 0, 0, 0), (.putfield 172, 3, 14, 0, 0), (.iload_n 1, 1, 0, 0, 0), (.invokestatic 181, 3, 1, 0, 0), (.ifCond .eq 10, 3, 19, 0, 0), (.iload_n 3, 1, 0, 0, 0), (.invokestatic 181, 3, 1, 0, 0), (.ifCond .ne 6, 3, 22, 0, 0)]
theorem k_X12_paste_0 : z_chk 14 false cX12_paste 7 0 b_X12_paste_0 19 = true := by decide +kernel
def b_X12_paste_19 : List z_E := [(.bipush (-2), 2, 0, 0, 0), (.ireturn, 1, 0, 0, 0)]
theorem k_X12_paste_19 : z_chk 14 false cX12_paste 7 19 b_X12_paste_19 22 = true := by decide +kernel
def b_X12_paste_22 : List z_E := [(.aload_n 0, 1, 0, 0, 0), (.getfield 9, 3, 14, 1, 2), (.iload_n 1, 1, 0, 0, 0), (.iaload, 1, 0, 0, 0), (.ifCond .lt 12, 3, 40, 0, 0), (.aload_n 0, 1, 0, 0, 0), (.getfield 9, 3, 14, 1, 2), (.iload_n 3, 1, 0, 0, 0), (.iaload, 1, 0, 0, 0), (.ifCond .ge 6, 3, 43, 0, 0)]
theorem k_X12_paste_22 : z_chk 14 false cX12_paste 7 22 b_X12_paste_22 40 = true := by decide +kernel
def b_X12_paste_40 : List z_E := [(.bipush (-5), 2, 0, 0, 0), (.ireturn, 1, 0, 0, 0)]
theorem k_X12_paste_40 : z_chk 14 false cX12_paste 7 40 b_X12_paste_40 43 = true := by decide +kernel
def b_X12_paste_43 : List z_E := [(.aload_n 0, 1, 0, 0, 0), (.getfield 9, 3, 14, 1, 2), (.iload_n 1, 1, 0, 0, 0), (.iaload, 1, 0, 0, 0), (.aload_n 0, 1, 0, 0, 0), (.getfield 9, 3, 14, 1, 2), (.iload_n 3, 1, 0, 0, 0), (.iaload, 1, 0, 0, 0), (.if_icmp .eq 6, 3, 61, 0, 0), (.bipush (-7), 2, 0, 0, 0), (.ireturn, 1, 0, 0, 0)]
theorem k_X12_paste_43 : z_chk 14 false cX12_paste 7 43 b_X12_paste_43 61 = true := by decide +kernel
def b_X12_paste_61 : List z_E := [(.iload_n 2, 1, 0, 0, 0), (.ifCond .lt 48, 3, 110, 0, 0), (.iload 4, 2, 0, 0, 0), (.ifCond .lt 43, 3, 110, 0, 0), (.iload 5, 2, 0, 0, 0), (.ifCond .lt 38, 3, 110, 0, 0), (.iload_n 2, 1, 0, 0, 0), (.i2l, 1, 0, 0, 0), (.iload 5, 2, 0, 0, 0), (.i2l, 1, 0, 0, 0), (.ladd, 1, 0, 0, 0), (.aload_n 0, 1, 0, 0, 0), (.getfield 13, 3, 14, 2, 2), (.iload_n 1, 1, 0, 0, 0), (.iaload, 1, 0, 0, 0), (.i2l, 1, 0, 0, 0), (.lcmp, 1, 0, 0, 0), (.ifCond .gt 21, 3, 110, 0, 0), (.iload 4, 2, 0, 0, 0), (.i2l, 1, 0, 0, 0), (.iload 5, 2, 0, 0, 0), (.i2l, 1, 0, 0, 0), (.ladd, 1, 0, 0, 0), (.aload_n 0, 1, 0, 0, 0), (.getfield 13, 3, 14, 2, 2), (.iload_n 3, 1, 0, 0, 0), (.iaload, 1, 0, 0, 0), (.i2l, 1, 0, 0, 0), (.lcmp, 1, 0, 0, 0), (.ifCond .le 6, 3, 113, 0, 0)]
theorem k_X12_paste_61 : z_chk 14 false cX12_paste 7 61 b_X12_paste_61 110 = true := by decide +kernel
def b_X12_paste_110 : List z_E := [(.bipush (-6), 2, 0, 0, 0), (.ireturn, 1, 0, 0, 0)]
theorem k_X12_paste_110 : z_chk 14 false cX12_paste 7 110 b_X12_paste_110 113 = true := by decide +kernel
def b_X12_paste_113 : List z_E := [(.iconst 0, 1, 0, 0, 0), (.istore 6, 2, 0, 0, 0)]
theorem k_X12_paste_113 : z_chk 14 false cX12_paste 7 113 b_X12_paste_113 116 = true := by decide +kernel
def b_X12_paste_116 : List z_E := [(.iload 6, 2, 0, 0, 0), (.iload 5, 2, 0, 0, 0), (.if_icmp .ge 30, 3, 150, 0, 0), (.aload_n 0, 1, 0, 0, 0), (.getfield 20, 3, 14, 4, 2), (.iload 6, 2, 0, 0, 0), (.aload_n 0, 1, 0, 0, 0), (.getfield 16, 3, 14, 3, 2), (.bipush 60, 2, 0, 0, 0), (.iload_n 1, 1, 0, 0, 0), (.imul, 1, 0, 0, 0), (.iload_n 2, 1, 0, 0, 0), (.iadd, 1, 0, 0, 0), (.iload 6, 2, 0, 0, 0), (.iadd, 1, 0, 0, 0), (.laload, 1, 0, 0, 0), (.lastore, 1, 0, 0, 0), (.iinc 6 1, 3, 0, 0, 0), (.goto (-31), 3, 116, 0, 0)]
theorem k_X12_paste_116 : z_chk 14 false cX12_paste 7 116 b_X12_paste_116 150 = true := by decide +kernel
def b_X12_paste_150 : List z_E := [(.iconst 0, 1, 0, 0, 0), (.istore 6, 2, 0, 0, 0)]
theorem k_X12_paste_150 : z_chk 14 false cX12_paste 7 150 b_X12_paste_150 153 = true := by decide +kernel
def b_X12_paste_153 : List z_E := [(.iload 6, 2, 0, 0, 0), (.iload 5, 2, 0, 0, 0), (.if_icmp .ge 31, 3, 188, 0, 0), (.aload_n 0, 1, 0, 0, 0), (.getfield 16, 3, 14, 3, 2), (.bipush 60, 2, 0, 0, 0), (.iload_n 3, 1, 0, 0, 0), (.imul, 1, 0, 0, 0), (.iload 4, 2, 0, 0, 0), (.iadd, 1, 0, 0, 0), (.iload 6, 2, 0, 0, 0), (.iadd, 1, 0, 0, 0), (.aload_n 0, 1, 0, 0, 0), (.getfield 20, 3, 14, 4, 2), (.iload 6, 2, 0, 0, 0), (.laload, 1, 0, 0, 0), (.lastore, 1, 0, 0, 0), (.iinc 6 1, 3, 0, 0, 0), (.goto (-32), 3, 153, 0, 0)]
theorem k_X12_paste_153 : z_chk 14 false cX12_paste 7 153 b_X12_paste_153 188 = true := by decide +kernel
def b_X12_paste_188 : List z_E := [(.iconst 0, 1, 0, 0, 0), (.ireturn, 1, 0, 0, 0)]
theorem k_X12_paste_188 : z_chk 14 false cX12_paste 7 188 b_X12_paste_188 190 = true := by decide +kernel
def b_X12_terms_0 : List z_E := [(.aload_n 0, 1, 0, 0, 0), (.iconst 0, 1, 0, 0, 0), (.putfield 172, 3, 14, 0, 0), (.iload_n 1, 1, 0, 0, 0), (.i2l, 1, 0, 0, 0), (.lconst 1, 1, 0, 0, 0), (.ldc2_w 189, 3, 0, 0, 100000), (.invokestatic 177, 3, 3, 0, 0), (.ifCond .eq 96, 3, 110, 0, 0), (.iload_n 2, 1, 0, 0, 0), (.i2l, 1, 0, 0, 0), (.lconst 0, 1, 0, 0, 0), (.ldc2_w 191, 3, 0, 0, 100), (.invokestatic 177, 3, 3, 0, 0), (.ifCond .eq 84, 3, 110, 0, 0), (.iload_n 3, 1, 0, 0, 0), (.i2l, 1, 0, 0, 0), (.lconst 1, 1, 0, 0, 0), (.ldc2_w 193, 3, 0, 0, 1000), (.invokestatic 177, 3, 3, 0, 0), (.ifCond .eq 72, 3, 110, 0, 0), (.iload 4, 2, 0, 0, 0), (.i2l, 1, 0, 0, 0), (.lconst 0, 1, 0, 0, 0), (.ldc2_w 191, 3, 0, 0, 100), (.invokestatic 177, 3, 3, 0, 0), (.ifCond .eq 59, 3, 110, 0, 0), (.iload 5, 2, 0, 0, 0), (.i2l, 1, 0, 0, 0), (.lconst 0, 1, 0, 0, 0), (.ldc2_w 193, 3, 0, 0, 1000), (.invokestatic 177, 3, 3, 0, 0), (.ifCond .eq 46, 3, 110, 0, 0), (.iload 6, 2, 0, 0, 0), (.i2l, 1, 0, 0, 0), (.lconst 0, 1, 0, 0, 0), (.ldc2_w 191, 3, 0, 0, 100), (.invokestatic 177, 3, 3, 0, 0), (.ifCond .eq 33, 3, 110, 0, 0), (.iload 7, 2, 0, 0, 0), (.i2l, 1, 0, 0, 0), (.ldc2_w 195, 3, 0, 0, (-100)), (.ldc2_w 197, 3, 0, 0, 300), (.invokestatic 177, 3, 3, 0, 0), (.ifCond .eq 18, 3, 110, 0, 0), (.iload 8, 2, 0, 0, 0), (.i2l, 1, 0, 0, 0), (.iload 7, 2, 0, 0, 0), (.i2l, 1, 0, 0, 0), (.ldc2_w 197, 3, 0, 0, 300), (.invokestatic 177, 3, 3, 0, 0), (.ifCond .ne 6, 3, 113, 0, 0)]
theorem k_X12_terms_0 : z_chk 14 false cX12_terms 9 0 b_X12_terms_0 110 = true := by decide +kernel
def b_X12_terms_110 : List z_E := [(.bipush (-2), 2, 0, 0, 0), (.ireturn, 1, 0, 0, 0)]
theorem k_X12_terms_110 : z_chk 14 false cX12_terms 9 110 b_X12_terms_110 113 = true := by decide +kernel
def b_X12_terms_113 : List z_E := [(.aload_n 0, 1, 0, 0, 0), (.iload_n 1, 1, 0, 0, 0), (.putfield 23, 3, 14, 5, 0), (.aload_n 0, 1, 0, 0, 0), (.iload_n 2, 1, 0, 0, 0), (.putfield 27, 3, 14, 6, 0), (.aload_n 0, 1, 0, 0, 0), (.iload_n 3, 1, 0, 0, 0), (.putfield 30, 3, 14, 7, 0), (.aload_n 0, 1, 0, 0, 0), (.iload 4, 2, 0, 0, 0), (.putfield 33, 3, 14, 8, 0), (.aload_n 0, 1, 0, 0, 0), (.iload 5, 2, 0, 0, 0), (.putfield 36, 3, 14, 9, 0), (.aload_n 0, 1, 0, 0, 0), (.iload 6, 2, 0, 0, 0), (.putfield 39, 3, 14, 10, 0), (.aload_n 0, 1, 0, 0, 0), (.iload 7, 2, 0, 0, 0), (.putfield 42, 3, 14, 11, 0), (.aload_n 0, 1, 0, 0, 0), (.iload 8, 2, 0, 0, 0), (.putfield 45, 3, 14, 12, 0), (.iconst 0, 1, 0, 0, 0), (.ireturn, 1, 0, 0, 0)]
theorem k_X12_terms_113 : z_chk 14 false cX12_terms 9 113 b_X12_terms_113 160 = true := by decide +kernel
def b_X12_kind_0 : List z_E := [(.aload_n 0, 1, 0, 0, 0), (.iconst 0, 1, 0, 0, 0), (.putfield 172, 3, 14, 0, 0), (.iload_n 1, 1, 0, 0, 0), (.i2l, 1, 0, 0, 0), (.lconst 1, 1, 0, 0, 0), (.ldc2_w 189, 3, 0, 0, 100000), (.invokestatic 177, 3, 3, 0, 0), (.ifCond .eq 26, 3, 40, 0, 0), (.iload_n 2, 1, 0, 0, 0), (.i2l, 1, 0, 0, 0), (.lconst 1, 1, 0, 0, 0), (.iload_n 1, 1, 0, 0, 0), (.i2l, 1, 0, 0, 0), (.invokestatic 177, 3, 3, 0, 0), (.ifCond .eq 15, 3, 40, 0, 0), (.iload_n 3, 1, 0, 0, 0), (.i2l, 1, 0, 0, 0), (.lconst 1, 1, 0, 0, 0), (.ldc2_w 193, 3, 0, 0, 1000), (.invokestatic 177, 3, 3, 0, 0), (.ifCond .ne 6, 3, 43, 0, 0)]
theorem k_X12_kind_0 : z_chk 14 false cX12_kind 4 0 b_X12_kind_0 40 = true := by decide +kernel
def b_X12_kind_40 : List z_E := [(.bipush (-2), 2, 0, 0, 0), (.ireturn, 1, 0, 0, 0)]
theorem k_X12_kind_40 : z_chk 14 false cX12_kind 4 40 b_X12_kind_40 43 = true := by decide +kernel
def b_X12_kind_43 : List z_E := [(.aload_n 0, 1, 0, 0, 0), (.getfield 199, 3, 14, 15, 0), (.bipush 6, 2, 0, 0, 0), (.if_icmp .ne 6, 3, 55, 0, 0), (.bipush (-3), 2, 0, 0, 0), (.ireturn, 1, 0, 0, 0)]
theorem k_X12_kind_43 : z_chk 14 false cX12_kind 4 43 b_X12_kind_43 55 = true := by decide +kernel
def b_X12_kind_55 : List z_E := [(.aload_n 0, 1, 0, 0, 0), (.getfield 51, 3, 14, 22, 2), (.aload_n 0, 1, 0, 0, 0), (.getfield 199, 3, 14, 15, 0), (.iload_n 1, 1, 0, 0, 0), (.iastore, 1, 0, 0, 0), (.aload_n 0, 1, 0, 0, 0), (.getfield 54, 3, 14, 23, 2), (.aload_n 0, 1, 0, 0, 0), (.getfield 199, 3, 14, 15, 0), (.iload_n 2, 1, 0, 0, 0), (.iastore, 1, 0, 0, 0), (.aload_n 0, 1, 0, 0, 0), (.getfield 57, 3, 14, 24, 2), (.aload_n 0, 1, 0, 0, 0), (.getfield 199, 3, 14, 15, 0), (.iload_n 3, 1, 0, 0, 0), (.iastore, 1, 0, 0, 0), (.aload_n 0, 1, 0, 0, 0), (.dup, 1, 0, 0, 0), (.getfield 199, 3, 14, 15, 0), (.iconst 1, 1, 0, 0, 0), (.iadd, 1, 0, 0, 0), (.putfield 199, 3, 14, 15, 0), (.aload_n 0, 1, 0, 0, 0), (.getfield 199, 3, 14, 15, 0), (.iconst 1, 1, 0, 0, 0), (.isub, 1, 0, 0, 0), (.ireturn, 1, 0, 0, 0)]
theorem k_X12_kind_55 : z_chk 14 false cX12_kind 4 55 b_X12_kind_55 102 = true := by decide +kernel
def b_X12_account_0 : List z_E := [(.aload_n 0, 1, 0, 0, 0), (.iconst 0, 1, 0, 0, 0), (.putfield 172, 3, 14, 0, 0), (.aload_n 0, 1, 0, 0, 0), (.getfield 202, 3, 14, 16, 0), (.bipush 24, 2, 0, 0, 0), (.if_icmp .ne 6, 3, 17, 0, 0), (.bipush (-3), 2, 0, 0, 0), (.ireturn, 1, 0, 0, 0)]
theorem k_X12_account_0 : z_chk 14 false cX12_account 1 0 b_X12_account_0 17 = true := by decide +kernel
def b_X12_account_17 : List z_E := [(.aload_n 0, 1, 0, 0, 0), (.dup, 1, 0, 0, 0), (.getfield 202, 3, 14, 16, 0), (.iconst 1, 1, 0, 0, 0), (.iadd, 1, 0, 0, 0), (.putfield 202, 3, 14, 16, 0), (.aload_n 0, 1, 0, 0, 0), (.getfield 202, 3, 14, 16, 0), (.iconst 1, 1, 0, 0, 0), (.isub, 1, 0, 0, 0), (.ireturn, 1, 0, 0, 0)]
theorem k_X12_account_17 : z_chk 14 false cX12_account 1 17 b_X12_account_17 34 = true := by decide +kernel
def b_X12_isAccount_0 : List z_E := [(.iload_n 1, 1, 0, 0, 0), (.i2l, 1, 0, 0, 0), (.lconst 0, 1, 0, 0, 0), (.aload_n 0, 1, 0, 0, 0), (.getfield 202, 3, 14, 16, 0), (.iconst 1, 1, 0, 0, 0), (.isub, 1, 0, 0, 0), (.i2l, 1, 0, 0, 0), (.invokestatic 177, 3, 3, 0, 0), (.ireturn, 1, 0, 0, 0)]
theorem k_X12_isAccount_0 : z_chk 14 false cX12_isAccount 2 0 b_X12_isAccount_0 14 = true := by decide +kernel
def b_X12_isKind_0 : List z_E := [(.iload_n 1, 1, 0, 0, 0), (.i2l, 1, 0, 0, 0), (.lconst 0, 1, 0, 0, 0), (.aload_n 0, 1, 0, 0, 0), (.getfield 199, 3, 14, 15, 0), (.iconst 1, 1, 0, 0, 0), (.isub, 1, 0, 0, 0), (.i2l, 1, 0, 0, 0), (.invokestatic 177, 3, 3, 0, 0), (.ireturn, 1, 0, 0, 0)]
theorem k_X12_isKind_0 : z_chk 14 false cX12_isKind 2 0 b_X12_isKind_0 14 = true := by decide +kernel
def b_X12_attorney_0 : List z_E := [(.aload_n 0, 1, 0, 0, 0), (.iconst 0, 1, 0, 0, 0), (.putfield 172, 3, 14, 0, 0), (.aload_n 0, 1, 0, 0, 0), (.iload_n 1, 1, 0, 0, 0), (.invokevirtual 205, 3, 2, 0, 0), (.ifCond .eq 27, 3, 37, 0, 0), (.iload_n 2, 1, 0, 0, 0), (.i2l, 1, 0, 0, 0), (.lconst 0, 1, 0, 0, 0), (.ldc2_w 208, 3, 0, 0, 99), (.invokestatic 177, 3, 3, 0, 0), (.ifCond .eq 15, 3, 37, 0, 0), (.iload_n 3, 1, 0, 0, 0), (.i2l, 1, 0, 0, 0), (.lconst 0, 1, 0, 0, 0), (.ldc2_w 210, 3, 0, 0, 5000), (.invokestatic 177, 3, 3, 0, 0), (.ifCond .ne 6, 3, 40, 0, 0)]
theorem k_X12_attorney_0 : z_chk 14 false cX12_attorney 4 0 b_X12_attorney_0 37 = true := by decide +kernel
def b_X12_attorney_37 : List z_E := [(.bipush (-2), 2, 0, 0, 0), (.ireturn, 1, 0, 0, 0)]
theorem k_X12_attorney_37 : z_chk 14 false cX12_attorney 4 37 b_X12_attorney_37 40 = true := by decide +kernel
def b_X12_attorney_40 : List z_E := [(.aload_n 0, 1, 0, 0, 0), (.getfield 69, 3, 14, 28, 2), (.iload_n 1, 1, 0, 0, 0), (.iload_n 2, 1, 0, 0, 0), (.iastore, 1, 0, 0, 0), (.aload_n 0, 1, 0, 0, 0), (.getfield 72, 3, 14, 29, 2), (.iload_n 1, 1, 0, 0, 0), (.iload_n 3, 1, 0, 0, 0), (.iastore, 1, 0, 0, 0), (.iconst 0, 1, 0, 0, 0), (.ireturn, 1, 0, 0, 0)]
theorem k_X12_attorney_40 : z_chk 14 false cX12_attorney 4 40 b_X12_attorney_40 56 = true := by decide +kernel
def b_X12_bookOf_0 : List z_E := [(.lload_n 2, 1, 0, 0, 0), (.aload_n 0, 1, 0, 0, 0), (.getfield 57, 3, 14, 24, 2), (.iload_n 1, 1, 0, 0, 0), (.iaload, 1, 0, 0, 0), (.i2l, 1, 0, 0, 0), (.lmul, 1, 0, 0, 0), (.ldc2_w 193, 3, 0, 0, 1000), (.ldiv, 1, 0, 0, 0), (.aload_n 0, 1, 0, 0, 0), (.getfield 23, 3, 14, 5, 0), (.i2l, 1, 0, 0, 0), (.lmul, 1, 0, 0, 0), (.ldc2_w 193, 3, 0, 0, 1000), (.ldiv, 1, 0, 0, 0), (.lreturn, 1, 0, 0, 0)]
theorem k_X12_bookOf_0 : z_chk 14 false cX12_bookOf 4 0 b_X12_bookOf_0 24 = true := by decide +kernel
def b_X12_room_0 : List z_E := [(.sipush 2000, 3, 0, 0, 0), (.aload_n 0, 1, 0, 0, 0), (.getfield 212, 3, 14, 19, 0), (.isub, 1, 0, 0, 0), (.istore_n 1, 1, 0, 0, 0), (.iconst 0, 1, 0, 0, 0), (.istore_n 2, 1, 0, 0, 0)]
theorem k_X12_room_0 : z_chk 14 false cX12_room 3 0 b_X12_room_0 11 = true := by decide +kernel
def b_X12_room_11 : List z_E := [(.iload_n 2, 1, 0, 0, 0), (.aload_n 0, 1, 0, 0, 0), (.getfield 215, 3, 14, 18, 0), (.if_icmp .ge 26, 3, 42, 0, 0), (.iload_n 1, 1, 0, 0, 0), (.aload_n 0, 1, 0, 0, 0), (.getfield 111, 3, 14, 42, 2), (.iload_n 2, 1, 0, 0, 0), (.iaload, 1, 0, 0, 0), (.ifCond .ne 7, 3, 33, 0, 0), (.iconst 3, 1, 0, 0, 0), (.goto 4, 3, 34, 0, 0)]
theorem k_X12_room_11 : z_chk 14 false cX12_room 3 11 b_X12_room_11 33 = true := by decide +kernel
def b_X12_room_33 : List z_E := [(.iconst 0, 1, 0, 0, 0)]
theorem k_X12_room_33 : z_chk 14 false cX12_room 3 33 b_X12_room_33 34 = true := by decide +kernel
def b_X12_room_34 : List z_E := [(.isub, 1, 0, 0, 0), (.istore_n 1, 1, 0, 0, 0), (.iinc 2 1, 3, 0, 0, 0), (.goto (-28), 3, 11, 0, 0)]
theorem k_X12_room_34 : z_chk 14 false cX12_room 3 34 b_X12_room_34 42 = true := by decide +kernel
def b_X12_room_42 : List z_E := [(.iload_n 1, 1, 0, 0, 0), (.ireturn, 1, 0, 0, 0)]
theorem k_X12_room_42 : z_chk 14 false cX12_room 3 42 b_X12_room_42 44 = true := by decide +kernel
def b_X12_folioOf_0 : List z_E := [(.aload_n 0, 1, 0, 0, 0), (.getfield 218, 3, 14, 20, 0), (.iconst 1, 1, 0, 0, 0), (.isub, 1, 0, 0, 0), (.istore_n 2, 1, 0, 0, 0)]
theorem k_X12_folioOf_0 : z_chk 14 false cX12_folioOf 3 0 b_X12_folioOf_0 7 = true := by decide +kernel
def b_X12_folioOf_7 : List z_E := [(.iload_n 2, 1, 0, 0, 0), (.ifCond .lt 19, 3, 27, 0, 0), (.aload_n 0, 1, 0, 0, 0), (.getfield 151, 3, 14, 55, 2), (.iload_n 2, 1, 0, 0, 0), (.iaload, 1, 0, 0, 0), (.iload_n 1, 1, 0, 0, 0), (.if_icmp .eq 9, 3, 27, 0, 0), (.iinc 2 (-1), 3, 0, 0, 0), (.goto (-17), 3, 7, 0, 0)]
theorem k_X12_folioOf_7 : z_chk 14 false cX12_folioOf 3 7 b_X12_folioOf_7 27 = true := by decide +kernel
def b_X12_folioOf_27 : List z_E := [(.iload_n 2, 1, 0, 0, 0), (.ireturn, 1, 0, 0, 0)]
theorem k_X12_folioOf_27 : z_chk 14 false cX12_folioOf 3 27 b_X12_folioOf_27 29 = true := by decide +kernel
def b_X12_writes_0 : List z_E := [(.lload 4, 2, 0, 0, 0), (.lconst 0, 1, 0, 0, 0), (.lcmp, 1, 0, 0, 0), (.ifCond .ne 5, 3, 9, 0, 0), (.iconst (-1), 1, 0, 0, 0), (.ireturn, 1, 0, 0, 0)]
theorem k_X12_writes_0 : z_chk 14 false cX12_writes 8 0 b_X12_writes_0 9 = true := by decide +kernel
def b_X12_writes_9 : List z_E := [(.aload_n 0, 1, 0, 0, 0), (.iload_n 2, 1, 0, 0, 0), (.invokevirtual 221, 3, 2, 0, 0), (.istore 7, 2, 0, 0, 0), (.iload 7, 2, 0, 0, 0), (.ifCond .lt 15, 3, 33, 0, 0), (.aload_n 0, 1, 0, 0, 0), (.getfield 154, 3, 14, 56, 2), (.iload 7, 2, 0, 0, 0), (.iaload, 1, 0, 0, 0), (.bipush 8, 2, 0, 0, 0), (.if_icmp .ne 35, 3, 65, 0, 0)]
theorem k_X12_writes_9 : z_chk 14 false cX12_writes 8 9 b_X12_writes_9 33 = true := by decide +kernel
def b_X12_writes_33 : List z_E := [(.aload_n 0, 1, 0, 0, 0), (.getfield 218, 3, 14, 20, 0), (.istore 7, 2, 0, 0, 0), (.aload_n 0, 1, 0, 0, 0), (.getfield 151, 3, 14, 55, 2), (.iload 7, 2, 0, 0, 0), (.iload_n 2, 1, 0, 0, 0), (.iastore, 1, 0, 0, 0), (.aload_n 0, 1, 0, 0, 0), (.getfield 154, 3, 14, 56, 2), (.iload 7, 2, 0, 0, 0), (.iconst 0, 1, 0, 0, 0), (.iastore, 1, 0, 0, 0), (.aload_n 0, 1, 0, 0, 0), (.dup, 1, 0, 0, 0), (.getfield 218, 3, 14, 20, 0), (.iconst 1, 1, 0, 0, 0), (.iadd, 1, 0, 0, 0), (.putfield 218, 3, 14, 20, 0)]
theorem k_X12_writes_33 : z_chk 14 false cX12_writes 8 33 b_X12_writes_33 65 = true := by decide +kernel
def b_X12_writes_65 : List z_E := [(.aload_n 0, 1, 0, 0, 0), (.getfield 154, 3, 14, 56, 2), (.iload 7, 2, 0, 0, 0), (.dup2, 1, 0, 0, 0), (.iaload, 1, 0, 0, 0), (.iconst 1, 1, 0, 0, 0), (.iadd, 1, 0, 0, 0), (.iastore, 1, 0, 0, 0), (.aload_n 0, 1, 0, 0, 0), (.getfield 133, 3, 14, 49, 2), (.aload_n 0, 1, 0, 0, 0), (.getfield 212, 3, 14, 19, 0), (.iload_n 1, 1, 0, 0, 0), (.iastore, 1, 0, 0, 0), (.aload_n 0, 1, 0, 0, 0), (.getfield 136, 3, 14, 50, 2), (.aload_n 0, 1, 0, 0, 0), (.getfield 212, 3, 14, 19, 0), (.iload_n 2, 1, 0, 0, 0), (.iastore, 1, 0, 0, 0), (.aload_n 0, 1, 0, 0, 0), (.getfield 139, 3, 14, 51, 2), (.aload_n 0, 1, 0, 0, 0), (.getfield 212, 3, 14, 19, 0), (.iload 7, 2, 0, 0, 0), (.iastore, 1, 0, 0, 0), (.aload_n 0, 1, 0, 0, 0), (.getfield 142, 3, 14, 52, 2), (.aload_n 0, 1, 0, 0, 0), (.getfield 212, 3, 14, 19, 0), (.iload_n 3, 1, 0, 0, 0), (.iastore, 1, 0, 0, 0), (.aload_n 0, 1, 0, 0, 0), (.getfield 148, 3, 14, 54, 2), (.aload_n 0, 1, 0, 0, 0), (.getfield 212, 3, 14, 19, 0), (.lload 4, 2, 0, 0, 0), (.lastore, 1, 0, 0, 0), (.aload_n 0, 1, 0, 0, 0), (.getfield 145, 3, 14, 53, 2), (.aload_n 0, 1, 0, 0, 0), (.getfield 212, 3, 14, 19, 0), (.iload 6, 2, 0, 0, 0), (.iastore, 1, 0, 0, 0), (.aload_n 0, 1, 0, 0, 0), (.dup, 1, 0, 0, 0), (.getfield 212, 3, 14, 19, 0), (.iconst 1, 1, 0, 0, 0), (.iadd, 1, 0, 0, 0), (.putfield 212, 3, 14, 19, 0), (.aload_n 0, 1, 0, 0, 0), (.getfield 212, 3, 14, 19, 0), (.iconst 1, 1, 0, 0, 0), (.isub, 1, 0, 0, 0), (.ireturn, 1, 0, 0, 0)]
theorem k_X12_writes_65 : z_chk 14 false cX12_writes 8 65 b_X12_writes_65 156 = true := by decide +kernel
def b_X12_isTaken_0 : List z_E := [(.lload_n 2, 1, 0, 0, 0), (.aload_n 0, 1, 0, 0, 0), (.getfield 54, 3, 14, 23, 2), (.iload_n 1, 1, 0, 0, 0), (.iaload, 1, 0, 0, 0), (.i2l, 1, 0, 0, 0), (.aload_n 0, 1, 0, 0, 0), (.getfield 51, 3, 14, 22, 2), (.iload_n 1, 1, 0, 0, 0), (.iaload, 1, 0, 0, 0), (.i2l, 1, 0, 0, 0), (.invokestatic 177, 3, 3, 0, 0), (.ireturn, 1, 0, 0, 0)]
theorem k_X12_isTaken_0 : z_chk 14 false cX12_isTaken 4 0 b_X12_isTaken_0 19 = true := by decide +kernel
def b_X12_take_0 : List z_E := [(.aload_n 0, 1, 0, 0, 0), (.iconst 0, 1, 0, 0, 0), (.putfield 172, 3, 14, 0, 0), (.aload_n 0, 1, 0, 0, 0), (.iload_n 1, 1, 0, 0, 0), (.invokevirtual 205, 3, 2, 0, 0), (.ifCond .eq 18, 3, 28, 0, 0), (.aload_n 0, 1, 0, 0, 0), (.iload_n 2, 1, 0, 0, 0), (.invokevirtual 225, 3, 2, 0, 0), (.ifCond .eq 10, 3, 28, 0, 0), (.iload_n 3, 1, 0, 0, 0), (.invokestatic 181, 3, 1, 0, 0), (.ifCond .ne 6, 3, 31, 0, 0)]
theorem k_X12_take_0 : z_chk 14 false cX12_take 10 0 b_X12_take_0 28 = true := by decide +kernel
def b_X12_take_28 : List z_E := [(.bipush (-2), 2, 0, 0, 0), (.ireturn, 1, 0, 0, 0)]
theorem k_X12_take_28 : z_chk 14 false cX12_take 10 28 b_X12_take_28 31 = true := by decide +kernel
def b_X12_take_31 : List z_E := [(.aload_n 0, 1, 0, 0, 0), (.getfield 9, 3, 14, 1, 2), (.iload_n 3, 1, 0, 0, 0), (.iaload, 1, 0, 0, 0), (.ifCond .ge 6, 3, 43, 0, 0), (.bipush (-5), 2, 0, 0, 0), (.ireturn, 1, 0, 0, 0)]
theorem k_X12_take_31 : z_chk 14 false cX12_take 10 31 b_X12_take_31 43 = true := by decide +kernel
def b_X12_take_43 : List z_E := [(.aload_n 0, 1, 0, 0, 0), (.getfield 228, 3, 14, 17, 0), (.sipush 200, 3, 0, 0, 0), (.if_icmp .eq 11, 3, 61, 0, 0), (.aload_n 0, 1, 0, 0, 0), (.invokevirtual 231, 3, 1, 0, 0), (.iconst 1, 1, 0, 0, 0), (.if_icmp .ge 6, 3, 64, 0, 0)]
theorem k_X12_take_43 : z_chk 14 false cX12_take 10 43 b_X12_take_43 61 = true := by decide +kernel
def b_X12_take_61 : List z_E := [(.bipush (-3), 2, 0, 0, 0), (.ireturn, 1, 0, 0, 0)]
theorem k_X12_take_61 : z_chk 14 false cX12_take 10 61 b_X12_take_61 64 = true := by decide +kernel
def b_X12_take_64 : List z_E := [(.iconst 0, 1, 0, 0, 0), (.istore 4, 2, 0, 0, 0), (.lconst 0, 1, 0, 0, 0), (.lstore 5, 2, 0, 0, 0), (.iconst 0, 1, 0, 0, 0), (.istore 7, 2, 0, 0, 0)]
theorem k_X12_take_64 : z_chk 14 false cX12_take 10 64 b_X12_take_64 73 = true := by decide +kernel
def b_X12_take_73 : List z_E := [(.iload 7, 2, 0, 0, 0), (.aload_n 0, 1, 0, 0, 0), (.getfield 13, 3, 14, 2, 2), (.iload_n 3, 1, 0, 0, 0), (.iaload, 1, 0, 0, 0), (.if_icmp .ge 52, 3, 133, 0, 0), (.aload_n 0, 1, 0, 0, 0), (.iload_n 2, 1, 0, 0, 0), (.aload_n 0, 1, 0, 0, 0), (.getfield 16, 3, 14, 3, 2), (.bipush 60, 2, 0, 0, 0), (.iload_n 3, 1, 0, 0, 0), (.imul, 1, 0, 0, 0), (.iload 7, 2, 0, 0, 0), (.iadd, 1, 0, 0, 0), (.laload, 1, 0, 0, 0), (.invokevirtual 235, 3, 3, 0, 0), (.ifCond .ne 6, 3, 107, 0, 0), (.goto 23, 3, 127, 0, 0)]
theorem k_X12_take_73 : z_chk 14 false cX12_take 10 73 b_X12_take_73 107 = true := by decide +kernel
def b_X12_take_107 : List z_E := [(.iinc 4 1, 3, 0, 0, 0), (.lload 5, 2, 0, 0, 0), (.aload_n 0, 1, 0, 0, 0), (.getfield 16, 3, 14, 3, 2), (.bipush 60, 2, 0, 0, 0), (.iload_n 3, 1, 0, 0, 0), (.imul, 1, 0, 0, 0), (.iload 7, 2, 0, 0, 0), (.iadd, 1, 0, 0, 0), (.laload, 1, 0, 0, 0), (.ladd, 1, 0, 0, 0), (.lstore 5, 2, 0, 0, 0)]
theorem k_X12_take_107 : z_chk 14 false cX12_take 10 107 b_X12_take_107 127 = true := by decide +kernel
def b_X12_take_127 : List z_E := [(.iinc 7 1, 3, 0, 0, 0), (.goto (-57), 3, 73, 0, 0)]
theorem k_X12_take_127 : z_chk 14 false cX12_take 10 127 b_X12_take_127 133 = true := by decide +kernel
def b_X12_take_133 : List z_E := [(.iload 4, 2, 0, 0, 0), (.ifCond .ne 5, 3, 140, 0, 0), (.iconst 0, 1, 0, 0, 0), (.ireturn, 1, 0, 0, 0)]
theorem k_X12_take_133 : z_chk 14 false cX12_take 10 133 b_X12_take_133 140 = true := by decide +kernel
def b_X12_take_140 : List z_E := [(.aload_n 0, 1, 0, 0, 0), (.iload_n 2, 1, 0, 0, 0), (.lload 5, 2, 0, 0, 0), (.invokevirtual 239, 3, 3, 0, 0), (.lstore 7, 2, 0, 0, 0), (.aload_n 0, 1, 0, 0, 0), (.getfield 75, 3, 14, 30, 2), (.aload_n 0, 1, 0, 0, 0), (.getfield 228, 3, 14, 17, 0), (.iload_n 1, 1, 0, 0, 0), (.iastore, 1, 0, 0, 0), (.aload_n 0, 1, 0, 0, 0), (.getfield 78, 3, 14, 31, 2), (.aload_n 0, 1, 0, 0, 0), (.getfield 228, 3, 14, 17, 0), (.iload_n 2, 1, 0, 0, 0), (.iastore, 1, 0, 0, 0), (.aload_n 0, 1, 0, 0, 0), (.getfield 81, 3, 14, 32, 2), (.aload_n 0, 1, 0, 0, 0), (.getfield 228, 3, 14, 17, 0), (.iload 4, 2, 0, 0, 0), (.iastore, 1, 0, 0, 0), (.aload_n 0, 1, 0, 0, 0), (.getfield 90, 3, 14, 35, 2), (.aload_n 0, 1, 0, 0, 0), (.getfield 228, 3, 14, 17, 0), (.lload 5, 2, 0, 0, 0), (.lastore, 1, 0, 0, 0), (.aload_n 0, 1, 0, 0, 0), (.getfield 93, 3, 14, 36, 2), (.aload_n 0, 1, 0, 0, 0), (.getfield 228, 3, 14, 17, 0), (.lload 7, 2, 0, 0, 0), (.lastore, 1, 0, 0, 0), (.aload_n 0, 1, 0, 0, 0), (.getfield 84, 3, 14, 33, 2), (.aload_n 0, 1, 0, 0, 0), (.getfield 228, 3, 14, 17, 0), (.aload_n 0, 1, 0, 0, 0), (.getfield 242, 3, 14, 14, 0), (.aload_n 0, 1, 0, 0, 0), (.getfield 30, 3, 14, 7, 0), (.iadd, 1, 0, 0, 0), (.iastore, 1, 0, 0, 0), (.aload_n 0, 1, 0, 0, 0), (.getfield 87, 3, 14, 34, 2), (.aload_n 0, 1, 0, 0, 0), (.getfield 228, 3, 14, 17, 0), (.iconst 0, 1, 0, 0, 0), (.iastore, 1, 0, 0, 0), (.aload_n 0, 1, 0, 0, 0), (.dup, 1, 0, 0, 0), (.getfield 228, 3, 14, 17, 0), (.iconst 1, 1, 0, 0, 0), (.iadd, 1, 0, 0, 0), (.putfield 228, 3, 14, 17, 0), (.aload_n 0, 1, 0, 0, 0), (.getfield 60, 3, 14, 25, 2), (.iload_n 2, 1, 0, 0, 0), (.dup2, 1, 0, 0, 0), (.laload, 1, 0, 0, 0), (.iload 4, 2, 0, 0, 0), (.i2l, 1, 0, 0, 0), (.ladd, 1, 0, 0, 0), (.lastore, 1, 0, 0, 0), (.aload_n 0, 1, 0, 0, 0), (.getfield 63, 3, 14, 26, 2), (.iload_n 2, 1, 0, 0, 0), (.dup2, 1, 0, 0, 0), (.laload, 1, 0, 0, 0), (.lload 5, 2, 0, 0, 0), (.ladd, 1, 0, 0, 0), (.lastore, 1, 0, 0, 0), (.aload_n 0, 1, 0, 0, 0), (.getfield 66, 3, 14, 27, 2), (.iload_n 1, 1, 0, 0, 0), (.dup2, 1, 0, 0, 0), (.laload, 1, 0, 0, 0), (.lload 7, 2, 0, 0, 0), (.ladd, 1, 0, 0, 0), (.lastore, 1, 0, 0, 0), (.aload_n 0, 1, 0, 0, 0), (.dup, 1, 0, 0, 0), (.getfield 245, 3, 14, 63, 1), (.lload 7, 2, 0, 0, 0), (.ladd, 1, 0, 0, 0), (.putfield 245, 3, 14, 63, 1), (.aload_n 0, 1, 0, 0, 0), (.aload_n 0, 1, 0, 0, 0), (.getfield 242, 3, 14, 14, 0), (.iload_n 1, 1, 0, 0, 0), (.iconst 1, 1, 0, 0, 0), (.lload 7, 2, 0, 0, 0), (.iconst (-1), 1, 0, 0, 0), (.invokevirtual 249, 3, 6, 0, 0), (.istore 9, 2, 0, 0, 0), (.iload 4, 2, 0, 0, 0), (.ireturn, 1, 0, 0, 0)]
theorem k_X12_take_140 : z_chk 14 false cX12_take 10 140 b_X12_take_140 303 = true := by decide +kernel
def b_X12_isOpen_0 : List z_E := [(.iload_n 1, 1, 0, 0, 0), (.i2l, 1, 0, 0, 0), (.lconst 0, 1, 0, 0, 0), (.aload_n 0, 1, 0, 0, 0), (.getfield 228, 3, 14, 17, 0), (.iconst 1, 1, 0, 0, 0), (.isub, 1, 0, 0, 0), (.i2l, 1, 0, 0, 0), (.invokestatic 177, 3, 3, 0, 0), (.ifCond .eq 16, 3, 29, 0, 0), (.aload_n 0, 1, 0, 0, 0), (.getfield 87, 3, 14, 34, 2), (.iload_n 1, 1, 0, 0, 0), (.iaload, 1, 0, 0, 0), (.ifCond .ne 7, 3, 29, 0, 0), (.iconst 1, 1, 0, 0, 0), (.goto 4, 3, 30, 0, 0)]
theorem k_X12_isOpen_0 : z_chk 14 false cX12_isOpen 2 0 b_X12_isOpen_0 29 = true := by decide +kernel
def b_X12_isOpen_29 : List z_E := [(.iconst 0, 1, 0, 0, 0)]
theorem k_X12_isOpen_29 : z_chk 14 false cX12_isOpen 2 29 b_X12_isOpen_29 30 = true := by decide +kernel
def b_X12_isOpen_30 : List z_E := [(.ireturn, 1, 0, 0, 0)]
theorem k_X12_isOpen_30 : z_chk 14 false cX12_isOpen 2 30 b_X12_isOpen_30 31 = true := by decide +kernel
def b_X12_pays_0 : List z_E := [(.aload_n 0, 1, 0, 0, 0), (.getfield 66, 3, 14, 27, 2), (.iload_n 1, 1, 0, 0, 0), (.dup2, 1, 0, 0, 0), (.laload, 1, 0, 0, 0), (.lload_n 2, 1, 0, 0, 0), (.lsub, 1, 0, 0, 0), (.lastore, 1, 0, 0, 0), (.aload_n 0, 1, 0, 0, 0), (.aload_n 0, 1, 0, 0, 0), (.getfield 242, 3, 14, 14, 0), (.iload_n 1, 1, 0, 0, 0), (.iconst 0, 1, 0, 0, 0), (.lload_n 2, 1, 0, 0, 0), (.iconst (-1), 1, 0, 0, 0), (.invokevirtual 249, 3, 6, 0, 0), (.istore 4, 2, 0, 0, 0), (.return_, 1, 0, 0, 0)]
theorem k_X12_pays_0 : z_chk 14 false cX12_pays 5 0 b_X12_pays_0 25 = true := by decide +kernel
def b_X12_redeem_0 : List z_E := [(.aload_n 0, 1, 0, 0, 0), (.iconst 0, 1, 0, 0, 0), (.putfield 172, 3, 14, 0, 0), (.aload_n 0, 1, 0, 0, 0), (.iload_n 1, 1, 0, 0, 0), (.invokevirtual 253, 3, 2, 0, 0), (.ifCond .ne 7, 3, 17, 0, 0), (.ldc2_w 256, 3, 0, 0, (-2)), (.lreturn, 1, 0, 0, 0)]
theorem k_X12_redeem_0 : z_chk 14 false cX12_redeem 5 0 b_X12_redeem_0 17 = true := by decide +kernel
def b_X12_redeem_17 : List z_E := [(.aload_n 0, 1, 0, 0, 0), (.getfield 93, 3, 14, 36, 2), (.iload_n 1, 1, 0, 0, 0), (.laload, 1, 0, 0, 0), (.aload_n 0, 1, 0, 0, 0), (.getfield 27, 3, 14, 6, 0), (.i2l, 1, 0, 0, 0), (.lmul, 1, 0, 0, 0), (.ldc2_w 193, 3, 0, 0, 1000), (.ldiv, 1, 0, 0, 0), (.lstore_n 2, 1, 0, 0, 0), (.aload_n 0, 1, 0, 0, 0), (.getfield 78, 3, 14, 31, 2), (.iload_n 1, 1, 0, 0, 0), (.iaload, 1, 0, 0, 0), (.istore 4, 2, 0, 0, 0), (.aload_n 0, 1, 0, 0, 0), (.getfield 66, 3, 14, 27, 2), (.aload_n 0, 1, 0, 0, 0), (.getfield 75, 3, 14, 30, 2), (.iload_n 1, 1, 0, 0, 0), (.iaload, 1, 0, 0, 0), (.laload, 1, 0, 0, 0), (.aload_n 0, 1, 0, 0, 0), (.getfield 93, 3, 14, 36, 2), (.iload_n 1, 1, 0, 0, 0), (.laload, 1, 0, 0, 0), (.lload_n 2, 1, 0, 0, 0), (.ladd, 1, 0, 0, 0), (.lcmp, 1, 0, 0, 0), (.ifCond .ge 7, 3, 69, 0, 0), (.ldc2_w 258, 3, 0, 0, (-7)), (.lreturn, 1, 0, 0, 0)]
theorem k_X12_redeem_17 : z_chk 14 false cX12_redeem 5 17 b_X12_redeem_17 69 = true := by decide +kernel
def b_X12_redeem_69 : List z_E := [(.aload_n 0, 1, 0, 0, 0), (.invokevirtual 231, 3, 1, 0, 0), (.iconst 1, 1, 0, 0, 0), (.if_icmp .ge 7, 3, 81, 0, 0), (.ldc2_w 260, 3, 0, 0, (-3)), (.lreturn, 1, 0, 0, 0)]
theorem k_X12_redeem_69 : z_chk 14 false cX12_redeem 5 69 b_X12_redeem_69 81 = true := by decide +kernel
def b_X12_redeem_81 : List z_E := [(.aload_n 0, 1, 0, 0, 0), (.getfield 60, 3, 14, 25, 2), (.iload 4, 2, 0, 0, 0), (.laload, 1, 0, 0, 0), (.aload_n 0, 1, 0, 0, 0), (.getfield 81, 3, 14, 32, 2), (.iload_n 1, 1, 0, 0, 0), (.iaload, 1, 0, 0, 0), (.i2l, 1, 0, 0, 0), (.lcmp, 1, 0, 0, 0), (.ifCond .lt 20, 3, 116, 0, 0), (.aload_n 0, 1, 0, 0, 0), (.getfield 63, 3, 14, 26, 2), (.iload 4, 2, 0, 0, 0), (.laload, 1, 0, 0, 0), (.aload_n 0, 1, 0, 0, 0), (.getfield 90, 3, 14, 35, 2), (.iload_n 1, 1, 0, 0, 0), (.laload, 1, 0, 0, 0), (.lcmp, 1, 0, 0, 0), (.ifCond .ge 7, 3, 120, 0, 0)]
theorem k_X12_redeem_81 : z_chk 14 false cX12_redeem 5 81 b_X12_redeem_81 116 = true := by decide +kernel
def b_X12_redeem_116 : List z_E := [(.ldc2_w 262, 3, 0, 0, (-8)), (.lreturn, 1, 0, 0, 0)]
theorem k_X12_redeem_116 : z_chk 14 false cX12_redeem 5 116 b_X12_redeem_116 120 = true := by decide +kernel
def b_X12_redeem_120 : List z_E := [(.aload_n 0, 1, 0, 0, 0), (.getfield 60, 3, 14, 25, 2), (.iload 4, 2, 0, 0, 0), (.dup2, 1, 0, 0, 0), (.laload, 1, 0, 0, 0), (.aload_n 0, 1, 0, 0, 0), (.getfield 81, 3, 14, 32, 2), (.iload_n 1, 1, 0, 0, 0), (.iaload, 1, 0, 0, 0), (.i2l, 1, 0, 0, 0), (.lsub, 1, 0, 0, 0), (.lastore, 1, 0, 0, 0), (.aload_n 0, 1, 0, 0, 0), (.getfield 63, 3, 14, 26, 2), (.iload 4, 2, 0, 0, 0), (.dup2, 1, 0, 0, 0), (.laload, 1, 0, 0, 0), (.aload_n 0, 1, 0, 0, 0), (.getfield 90, 3, 14, 35, 2), (.iload_n 1, 1, 0, 0, 0), (.laload, 1, 0, 0, 0), (.lsub, 1, 0, 0, 0), (.lastore, 1, 0, 0, 0), (.aload_n 0, 1, 0, 0, 0), (.getfield 87, 3, 14, 34, 2), (.iload_n 1, 1, 0, 0, 0), (.iconst 1, 1, 0, 0, 0), (.iastore, 1, 0, 0, 0), (.aload_n 0, 1, 0, 0, 0), (.dup, 1, 0, 0, 0), (.getfield 264, 3, 14, 64, 1), (.lload_n 2, 1, 0, 0, 0), (.ladd, 1, 0, 0, 0), (.putfield 264, 3, 14, 64, 1), (.aload_n 0, 1, 0, 0, 0), (.aload_n 0, 1, 0, 0, 0), (.getfield 75, 3, 14, 30, 2), (.iload_n 1, 1, 0, 0, 0), (.iaload, 1, 0, 0, 0), (.aload_n 0, 1, 0, 0, 0), (.getfield 93, 3, 14, 36, 2), (.iload_n 1, 1, 0, 0, 0), (.laload, 1, 0, 0, 0), (.lload_n 2, 1, 0, 0, 0), (.ladd, 1, 0, 0, 0), (.invokevirtual 267, 3, 3, 0, 0), (.aload_n 0, 1, 0, 0, 0), (.getfield 93, 3, 14, 36, 2), (.iload_n 1, 1, 0, 0, 0), (.laload, 1, 0, 0, 0), (.lload_n 2, 1, 0, 0, 0), (.ladd, 1, 0, 0, 0), (.lreturn, 1, 0, 0, 0)]
theorem k_X12_redeem_120 : z_chk 14 false cX12_redeem 5 120 b_X12_redeem_120 197 = true := by decide +kernel
def b_X12_prolong_0 : List z_E := [(.aload_n 0, 1, 0, 0, 0), (.iconst 0, 1, 0, 0, 0), (.putfield 172, 3, 14, 0, 0), (.aload_n 0, 1, 0, 0, 0), (.iload_n 1, 1, 0, 0, 0), (.invokevirtual 253, 3, 2, 0, 0), (.ifCond .ne 7, 3, 17, 0, 0), (.ldc2_w 256, 3, 0, 0, (-2)), (.lreturn, 1, 0, 0, 0)]
theorem k_X12_prolong_0 : z_chk 14 false cX12_prolong 4 0 b_X12_prolong_0 17 = true := by decide +kernel
def b_X12_prolong_17 : List z_E := [(.aload_n 0, 1, 0, 0, 0), (.getfield 93, 3, 14, 36, 2), (.iload_n 1, 1, 0, 0, 0), (.laload, 1, 0, 0, 0), (.aload_n 0, 1, 0, 0, 0), (.getfield 27, 3, 14, 6, 0), (.i2l, 1, 0, 0, 0), (.lmul, 1, 0, 0, 0), (.ldc2_w 193, 3, 0, 0, 1000), (.ldiv, 1, 0, 0, 0), (.lstore_n 2, 1, 0, 0, 0), (.aload_n 0, 1, 0, 0, 0), (.getfield 66, 3, 14, 27, 2), (.aload_n 0, 1, 0, 0, 0), (.getfield 75, 3, 14, 30, 2), (.iload_n 1, 1, 0, 0, 0), (.iaload, 1, 0, 0, 0), (.laload, 1, 0, 0, 0), (.lload_n 2, 1, 0, 0, 0), (.lcmp, 1, 0, 0, 0), (.ifCond .ge 7, 3, 54, 0, 0), (.ldc2_w 258, 3, 0, 0, (-7)), (.lreturn, 1, 0, 0, 0)]
theorem k_X12_prolong_17 : z_chk 14 false cX12_prolong 4 17 b_X12_prolong_17 54 = true := by decide +kernel
def b_X12_prolong_54 : List z_E := [(.aload_n 0, 1, 0, 0, 0), (.invokevirtual 231, 3, 1, 0, 0), (.iconst 1, 1, 0, 0, 0), (.if_icmp .ge 7, 3, 66, 0, 0), (.ldc2_w 260, 3, 0, 0, (-3)), (.lreturn, 1, 0, 0, 0)]
theorem k_X12_prolong_54 : z_chk 14 false cX12_prolong 4 54 b_X12_prolong_54 66 = true := by decide +kernel
def b_X12_prolong_66 : List z_E := [(.aload_n 0, 1, 0, 0, 0), (.getfield 84, 3, 14, 33, 2), (.iload_n 1, 1, 0, 0, 0), (.dup2, 1, 0, 0, 0), (.iaload, 1, 0, 0, 0), (.aload_n 0, 1, 0, 0, 0), (.getfield 30, 3, 14, 7, 0), (.iadd, 1, 0, 0, 0), (.iastore, 1, 0, 0, 0), (.aload_n 0, 1, 0, 0, 0), (.dup, 1, 0, 0, 0), (.getfield 264, 3, 14, 64, 1), (.lload_n 2, 1, 0, 0, 0), (.ladd, 1, 0, 0, 0), (.putfield 264, 3, 14, 64, 1), (.aload_n 0, 1, 0, 0, 0), (.aload_n 0, 1, 0, 0, 0), (.getfield 75, 3, 14, 30, 2), (.iload_n 1, 1, 0, 0, 0), (.iaload, 1, 0, 0, 0), (.lload_n 2, 1, 0, 0, 0), (.invokevirtual 267, 3, 3, 0, 0), (.lload_n 2, 1, 0, 0, 0), (.lreturn, 1, 0, 0, 0)]
theorem k_X12_prolong_66 : z_chk 14 false cX12_prolong 4 66 b_X12_prolong_66 102 = true := by decide +kernel
def b_X12_give_0 : List z_E := [(.aload_n 0, 1, 0, 0, 0), (.iconst 0, 1, 0, 0, 0), (.putfield 172, 3, 14, 0, 0), (.aload_n 0, 1, 0, 0, 0), (.iload_n 1, 1, 0, 0, 0), (.invokevirtual 253, 3, 2, 0, 0), (.ifCond .eq 11, 3, 21, 0, 0), (.aload_n 0, 1, 0, 0, 0), (.iload_n 2, 1, 0, 0, 0), (.invokevirtual 205, 3, 2, 0, 0), (.ifCond .ne 6, 3, 24, 0, 0)]
theorem k_X12_give_0 : z_chk 14 false cX12_give 3 0 b_X12_give_0 21 = true := by decide +kernel
def b_X12_give_21 : List z_E := [(.bipush (-2), 2, 0, 0, 0), (.ireturn, 1, 0, 0, 0)]
theorem k_X12_give_21 : z_chk 14 false cX12_give 3 21 b_X12_give_21 24 = true := by decide +kernel
def b_X12_give_24 : List z_E := [(.aload_n 0, 1, 0, 0, 0), (.getfield 75, 3, 14, 30, 2), (.iload_n 1, 1, 0, 0, 0), (.iload_n 2, 1, 0, 0, 0), (.iastore, 1, 0, 0, 0), (.iconst 0, 1, 0, 0, 0), (.ireturn, 1, 0, 0, 0)]
theorem k_X12_give_24 : z_chk 14 false cX12_give 3 24 b_X12_give_24 33 = true := by decide +kernel
def b_X12_waits_0 : List z_E := [(.aload_n 0, 1, 0, 0, 0), (.iload_n 1, 1, 0, 0, 0), (.invokevirtual 205, 3, 2, 0, 0), (.ifCond .eq 27, 3, 32, 0, 0), (.aload_n 0, 1, 0, 0, 0), (.iload_n 2, 1, 0, 0, 0), (.invokevirtual 205, 3, 2, 0, 0), (.ifCond .eq 19, 3, 32, 0, 0), (.iload_n 1, 1, 0, 0, 0), (.iload_n 2, 1, 0, 0, 0), (.if_icmp .eq 14, 3, 32, 0, 0), (.lload_n 3, 1, 0, 0, 0), (.lconst 1, 1, 0, 0, 0), (.ldc2_w 271, 3, 0, 0, 1000000000), (.invokestatic 177, 3, 3, 0, 0), (.ifCond .ne 6, 3, 35, 0, 0)]
theorem k_X12_waits_0 : z_chk 14 false cX12_waits 8 0 b_X12_waits_0 32 = true := by decide +kernel
def b_X12_waits_32 : List z_E := [(.bipush (-2), 2, 0, 0, 0), (.ireturn, 1, 0, 0, 0)]
theorem k_X12_waits_32 : z_chk 14 false cX12_waits 8 32 b_X12_waits_32 35 = true := by decide +kernel
def b_X12_waits_35 : List z_E := [(.aload_n 0, 1, 0, 0, 0), (.getfield 215, 3, 14, 18, 0), (.sipush 300, 3, 0, 0, 0), (.if_icmp .eq 11, 3, 53, 0, 0), (.aload_n 0, 1, 0, 0, 0), (.invokevirtual 231, 3, 1, 0, 0), (.iconst 3, 1, 0, 0, 0), (.if_icmp .ge 6, 3, 56, 0, 0)]
theorem k_X12_waits_35 : z_chk 14 false cX12_waits 8 35 b_X12_waits_35 53 = true := by decide +kernel
def b_X12_waits_53 : List z_E := [(.bipush (-3), 2, 0, 0, 0), (.ireturn, 1, 0, 0, 0)]
theorem k_X12_waits_53 : z_chk 14 false cX12_waits 8 53 b_X12_waits_53 56 = true := by decide +kernel
def b_X12_waits_56 : List z_E := [(.aload_n 0, 1, 0, 0, 0), (.getfield 96, 3, 14, 37, 2), (.aload_n 0, 1, 0, 0, 0), (.getfield 215, 3, 14, 18, 0), (.iload_n 1, 1, 0, 0, 0), (.iastore, 1, 0, 0, 0), (.aload_n 0, 1, 0, 0, 0), (.getfield 99, 3, 14, 38, 2), (.aload_n 0, 1, 0, 0, 0), (.getfield 215, 3, 14, 18, 0), (.iload_n 2, 1, 0, 0, 0), (.iastore, 1, 0, 0, 0), (.aload_n 0, 1, 0, 0, 0), (.getfield 126, 3, 14, 47, 2), (.aload_n 0, 1, 0, 0, 0), (.getfield 215, 3, 14, 18, 0), (.lload_n 3, 1, 0, 0, 0), (.lastore, 1, 0, 0, 0), (.aload_n 0, 1, 0, 0, 0), (.getfield 102, 3, 14, 39, 2), (.aload_n 0, 1, 0, 0, 0), (.getfield 215, 3, 14, 18, 0), (.iload 5, 2, 0, 0, 0), (.iastore, 1, 0, 0, 0), (.aload_n 0, 1, 0, 0, 0), (.getfield 105, 3, 14, 40, 2), (.aload_n 0, 1, 0, 0, 0), (.getfield 215, 3, 14, 18, 0), (.iload 6, 2, 0, 0, 0), (.iastore, 1, 0, 0, 0), (.aload_n 0, 1, 0, 0, 0), (.getfield 108, 3, 14, 41, 2), (.aload_n 0, 1, 0, 0, 0), (.getfield 215, 3, 14, 18, 0), (.iload 7, 2, 0, 0, 0), (.iastore, 1, 0, 0, 0), (.aload_n 0, 1, 0, 0, 0), (.getfield 111, 3, 14, 42, 2), (.aload_n 0, 1, 0, 0, 0), (.getfield 215, 3, 14, 18, 0), (.iconst 0, 1, 0, 0, 0), (.iastore, 1, 0, 0, 0), (.aload_n 0, 1, 0, 0, 0), (.getfield 114, 3, 14, 43, 2), (.aload_n 0, 1, 0, 0, 0), (.getfield 215, 3, 14, 18, 0), (.iconst (-1), 1, 0, 0, 0), (.iastore, 1, 0, 0, 0), (.aload_n 0, 1, 0, 0, 0), (.getfield 123, 3, 14, 46, 2), (.aload_n 0, 1, 0, 0, 0), (.getfield 215, 3, 14, 18, 0), (.iconst (-1), 1, 0, 0, 0), (.iastore, 1, 0, 0, 0), (.aload_n 0, 1, 0, 0, 0), (.dup, 1, 0, 0, 0), (.getfield 215, 3, 14, 18, 0), (.iconst 1, 1, 0, 0, 0), (.iadd, 1, 0, 0, 0), (.putfield 215, 3, 14, 18, 0), (.aload_n 0, 1, 0, 0, 0), (.getfield 215, 3, 14, 18, 0), (.iconst 1, 1, 0, 0, 0), (.isub, 1, 0, 0, 0), (.ireturn, 1, 0, 0, 0)]
theorem k_X12_waits_56 : z_chk 14 false cX12_waits 8 56 b_X12_waits_56 166 = true := by decide +kernel
def b_X12_order_0 : List z_E := [(.aload_n 0, 1, 0, 0, 0), (.iconst 0, 1, 0, 0, 0), (.putfield 172, 3, 14, 0, 0), (.iload 5, 2, 0, 0, 0), (.i2l, 1, 0, 0, 0), (.lconst 0, 1, 0, 0, 0), (.ldc2_w 273, 3, 0, 0, 23), (.invokestatic 177, 3, 3, 0, 0), (.ifCond .eq 16, 3, 31, 0, 0), (.iload 6, 2, 0, 0, 0), (.i2l, 1, 0, 0, 0), (.lconst 0, 1, 0, 0, 0), (.ldc2_w 208, 3, 0, 0, 99), (.invokestatic 177, 3, 3, 0, 0), (.ifCond .ne 6, 3, 34, 0, 0)]
theorem k_X12_order_0 : z_chk 14 false cX12_order 7 0 b_X12_order_0 31 = true := by decide +kernel
def b_X12_order_31 : List z_E := [(.bipush (-2), 2, 0, 0, 0), (.ireturn, 1, 0, 0, 0)]
theorem k_X12_order_31 : z_chk 14 false cX12_order 7 31 b_X12_order_31 34 = true := by decide +kernel
def b_X12_order_34 : List z_E := [(.aload_n 0, 1, 0, 0, 0), (.iload_n 1, 1, 0, 0, 0), (.iload_n 2, 1, 0, 0, 0), (.lload_n 3, 1, 0, 0, 0), (.iload 5, 2, 0, 0, 0), (.bipush 11, 2, 0, 0, 0), (.if_icmp .ge 10, 3, 52, 0, 0), (.aload_n 0, 1, 0, 0, 0), (.getfield 242, 3, 14, 14, 0), (.goto 9, 3, 58, 0, 0)]
theorem k_X12_order_34 : z_chk 14 false cX12_order 7 34 b_X12_order_34 52 = true := by decide +kernel
def b_X12_order_52 : List z_E := [(.aload_n 0, 1, 0, 0, 0), (.getfield 242, 3, 14, 14, 0), (.iconst 1, 1, 0, 0, 0), (.iadd, 1, 0, 0, 0)]
theorem k_X12_order_52 : z_chk 14 false cX12_order 7 52 b_X12_order_52 58 = true := by decide +kernel
def b_X12_order_58 : List z_E := [(.iload 5, 2, 0, 0, 0), (.iload 6, 2, 0, 0, 0), (.invokevirtual 275, 3, 7, 0, 0), (.ireturn, 1, 0, 0, 0)]
theorem k_X12_order_58 : z_chk 14 false cX12_order 7 58 b_X12_order_58 66 = true := by decide +kernel
def b_X12_bill_0 : List z_E := [(.aload_n 0, 1, 0, 0, 0), (.iconst 0, 1, 0, 0, 0), (.putfield 172, 3, 14, 0, 0), (.iload 5, 2, 0, 0, 0), (.i2l, 1, 0, 0, 0), (.lconst 0, 1, 0, 0, 0), (.ldc2_w 193, 3, 0, 0, 1000), (.invokestatic 177, 3, 3, 0, 0), (.ifCond .ne 6, 3, 21, 0, 0), (.bipush (-2), 2, 0, 0, 0), (.ireturn, 1, 0, 0, 0)]
theorem k_X12_bill_0 : z_chk 14 false cX12_bill 6 0 b_X12_bill_0 21 = true := by decide +kernel
def b_X12_bill_21 : List z_E := [(.aload_n 0, 1, 0, 0, 0), (.iload_n 1, 1, 0, 0, 0), (.iload_n 2, 1, 0, 0, 0), (.lload_n 3, 1, 0, 0, 0), (.aload_n 0, 1, 0, 0, 0), (.getfield 242, 3, 14, 14, 0), (.iload 5, 2, 0, 0, 0), (.iadd, 1, 0, 0, 0), (.bipush 9, 2, 0, 0, 0), (.iload_n 1, 1, 0, 0, 0), (.invokevirtual 275, 3, 7, 0, 0), (.ireturn, 1, 0, 0, 0)]
theorem k_X12_bill_21 : z_chk 14 false cX12_bill 6 21 b_X12_bill_21 39 = true := by decide +kernel
def b_X12_slip_0 : List z_E := [(.aload_n 0, 1, 0, 0, 0), (.iconst 0, 1, 0, 0, 0), (.putfield 172, 3, 14, 0, 0), (.iload_n 1, 1, 0, 0, 0), (.i2l, 1, 0, 0, 0), (.lconst 0, 1, 0, 0, 0), (.aload_n 0, 1, 0, 0, 0), (.getfield 215, 3, 14, 18, 0), (.iconst 1, 1, 0, 0, 0), (.isub, 1, 0, 0, 0), (.i2l, 1, 0, 0, 0), (.invokestatic 177, 3, 3, 0, 0), (.ifCond .eq 24, 3, 42, 0, 0), (.aload_n 0, 1, 0, 0, 0), (.getfield 111, 3, 14, 42, 2), (.iload_n 1, 1, 0, 0, 0), (.iaload, 1, 0, 0, 0), (.ifCond .ne 15, 3, 42, 0, 0), (.iload_n 2, 1, 0, 0, 0), (.i2l, 1, 0, 0, 0), (.lconst 0, 1, 0, 0, 0), (.ldc2_w 175, 3, 0, 0, 3), (.invokestatic 177, 3, 3, 0, 0), (.ifCond .ne 6, 3, 45, 0, 0)]
theorem k_X12_slip_0 : z_chk 14 false cX12_slip 5 0 b_X12_slip_0 42 = true := by decide +kernel
def b_X12_slip_42 : List z_E := [(.bipush (-2), 2, 0, 0, 0), (.ireturn, 1, 0, 0, 0)]
theorem k_X12_slip_42 : z_chk 14 false cX12_slip 5 42 b_X12_slip_42 45 = true := by decide +kernel
def b_X12_slip_45 : List z_E := [(.iload_n 2, 1, 0, 0, 0), (.iconst 2, 1, 0, 0, 0), (.if_icmp .ne 15, 3, 62, 0, 0), (.iload_n 3, 1, 0, 0, 0), (.i2l, 1, 0, 0, 0), (.lconst 0, 1, 0, 0, 0), (.ldc2_w 279, 3, 0, 0, 8), (.invokestatic 177, 3, 3, 0, 0), (.goto 53, 3, 112, 0, 0)]
theorem k_X12_slip_45 : z_chk 14 false cX12_slip 5 45 b_X12_slip_45 62 = true := by decide +kernel
def b_X12_slip_62 : List z_E := [(.iload_n 2, 1, 0, 0, 0), (.iconst 3, 1, 0, 0, 0), (.if_icmp .ne 39, 3, 103, 0, 0), (.aload_n 0, 1, 0, 0, 0), (.iload_n 3, 1, 0, 0, 0), (.invokevirtual 205, 3, 2, 0, 0), (.ifCond .eq 27, 3, 99, 0, 0), (.iload_n 3, 1, 0, 0, 0), (.aload_n 0, 1, 0, 0, 0), (.getfield 96, 3, 14, 37, 2), (.iload_n 1, 1, 0, 0, 0), (.iaload, 1, 0, 0, 0), (.if_icmp .eq 17, 3, 99, 0, 0), (.iload_n 3, 1, 0, 0, 0), (.aload_n 0, 1, 0, 0, 0), (.getfield 99, 3, 14, 38, 2), (.iload_n 1, 1, 0, 0, 0), (.iaload, 1, 0, 0, 0), (.if_icmp .eq 7, 3, 99, 0, 0), (.iconst 1, 1, 0, 0, 0), (.goto 16, 3, 112, 0, 0)]
theorem k_X12_slip_62 : z_chk 14 false cX12_slip 5 62 b_X12_slip_62 99 = true := by decide +kernel
def b_X12_slip_99 : List z_E := [(.iconst 0, 1, 0, 0, 0), (.goto 12, 3, 112, 0, 0)]
theorem k_X12_slip_99 : z_chk 14 false cX12_slip 5 99 b_X12_slip_99 103 = true := by decide +kernel
def b_X12_slip_103 : List z_E := [(.iload_n 3, 1, 0, 0, 0), (.ifCond .ne 7, 3, 111, 0, 0), (.iconst 1, 1, 0, 0, 0), (.goto 4, 3, 112, 0, 0)]
theorem k_X12_slip_103 : z_chk 14 false cX12_slip 5 103 b_X12_slip_103 111 = true := by decide +kernel
def b_X12_slip_111 : List z_E := [(.iconst 0, 1, 0, 0, 0)]
theorem k_X12_slip_111 : z_chk 14 false cX12_slip 5 111 b_X12_slip_111 112 = true := by decide +kernel
def b_X12_slip_112 : List z_E := [(.istore 4, 2, 0, 0, 0), (.iload 4, 2, 0, 0, 0), (.ifCond .ne 6, 3, 122, 0, 0), (.bipush (-2), 2, 0, 0, 0), (.ireturn, 1, 0, 0, 0)]
theorem k_X12_slip_112 : z_chk 14 false cX12_slip 5 112 b_X12_slip_112 122 = true := by decide +kernel
def b_X12_slip_122 : List z_E := [(.aload_n 0, 1, 0, 0, 0), (.getfield 114, 3, 14, 43, 2), (.iload_n 1, 1, 0, 0, 0), (.iload_n 2, 1, 0, 0, 0), (.iastore, 1, 0, 0, 0), (.aload_n 0, 1, 0, 0, 0), (.getfield 117, 3, 14, 44, 2), (.iload_n 1, 1, 0, 0, 0), (.iload_n 3, 1, 0, 0, 0), (.iastore, 1, 0, 0, 0), (.iconst 0, 1, 0, 0, 0), (.ireturn, 1, 0, 0, 0)]
theorem k_X12_slip_122 : z_chk 14 false cX12_slip 5 122 b_X12_slip_122 138 = true := by decide +kernel
def b_X12_swapped_0 : List z_E := [(.lconst 1, 1, 0, 0, 0), (.lstore_n 3, 1, 0, 0, 0), (.iconst 0, 1, 0, 0, 0), (.istore 5, 2, 0, 0, 0)]
theorem k_X12_swapped_0 : z_chk 14 false cX12_swapped 9 0 b_X12_swapped_0 5 = true := by decide +kernel
def b_X12_swapped_5 : List z_E := [(.iload 5, 2, 0, 0, 0), (.iload_n 2, 1, 0, 0, 0), (.if_icmp .ge 15, 3, 23, 0, 0), (.lload_n 3, 1, 0, 0, 0), (.ldc2_w 281, 3, 0, 0, 10), (.lmul, 1, 0, 0, 0), (.lstore_n 3, 1, 0, 0, 0), (.iinc 5 1, 3, 0, 0, 0), (.goto (-15), 3, 5, 0, 0)]
theorem k_X12_swapped_5 : z_chk 14 false cX12_swapped 9 5 b_X12_swapped_5 23 = true := by decide +kernel
def b_X12_swapped_23 : List z_E := [(.lload_n 0, 1, 0, 0, 0), (.lload_n 3, 1, 0, 0, 0), (.ldiv, 1, 0, 0, 0), (.ldc2_w 281, 3, 0, 0, 10), (.lrem, 1, 0, 0, 0), (.lstore 5, 2, 0, 0, 0), (.lload_n 0, 1, 0, 0, 0), (.lload_n 3, 1, 0, 0, 0), (.ldiv, 1, 0, 0, 0), (.ldc2_w 281, 3, 0, 0, 10), (.ldiv, 1, 0, 0, 0), (.ldc2_w 281, 3, 0, 0, 10), (.lrem, 1, 0, 0, 0), (.lstore 7, 2, 0, 0, 0), (.lload_n 0, 1, 0, 0, 0), (.lload 7, 2, 0, 0, 0), (.lload 5, 2, 0, 0, 0), (.lsub, 1, 0, 0, 0), (.lload_n 3, 1, 0, 0, 0), (.lmul, 1, 0, 0, 0), (.ladd, 1, 0, 0, 0), (.lload 5, 2, 0, 0, 0), (.lload 7, 2, 0, 0, 0), (.lsub, 1, 0, 0, 0), (.lload_n 3, 1, 0, 0, 0), (.lmul, 1, 0, 0, 0), (.ldc2_w 281, 3, 0, 0, 10), (.lmul, 1, 0, 0, 0), (.ladd, 1, 0, 0, 0), (.lreturn, 1, 0, 0, 0)]
theorem k_X12_swapped_23 : z_chk 14 false cX12_swapped 9 23 b_X12_swapped_23 67 = true := by decide +kernel
def b_X12_does_0 : List z_E := [(.aload_n 0, 1, 0, 0, 0), (.getfield 96, 3, 14, 37, 2), (.iload_n 1, 1, 0, 0, 0), (.iaload, 1, 0, 0, 0), (.istore_n 2, 1, 0, 0, 0), (.aload_n 0, 1, 0, 0, 0), (.getfield 99, 3, 14, 38, 2), (.iload_n 1, 1, 0, 0, 0), (.iaload, 1, 0, 0, 0), (.istore_n 3, 1, 0, 0, 0), (.aload_n 0, 1, 0, 0, 0), (.getfield 126, 3, 14, 47, 2), (.iload_n 1, 1, 0, 0, 0), (.laload, 1, 0, 0, 0), (.lstore 4, 2, 0, 0, 0), (.aload_n 0, 1, 0, 0, 0), (.getfield 108, 3, 14, 41, 2), (.iload_n 1, 1, 0, 0, 0), (.iaload, 1, 0, 0, 0), (.iload_n 2, 1, 0, 0, 0), (.if_icmp .eq 40, 3, 69, 0, 0), (.aload_n 0, 1, 0, 0, 0), (.getfield 69, 3, 14, 28, 2), (.iload_n 2, 1, 0, 0, 0), (.iaload, 1, 0, 0, 0), (.aload_n 0, 1, 0, 0, 0), (.getfield 108, 3, 14, 41, 2), (.iload_n 1, 1, 0, 0, 0), (.iaload, 1, 0, 0, 0), (.if_icmp .ne 16, 3, 60, 0, 0), (.aload_n 0, 1, 0, 0, 0), (.getfield 242, 3, 14, 14, 0), (.aload_n 0, 1, 0, 0, 0), (.getfield 72, 3, 14, 29, 2), (.iload_n 2, 1, 0, 0, 0), (.iaload, 1, 0, 0, 0), (.if_icmp .le 12, 3, 69, 0, 0)]
theorem k_X12_does_0 : z_chk 14 false cX12_does 8 0 b_X12_does_0 60 = true := by decide +kernel
def b_X12_does_60 : List z_E := [(.aload_n 0, 1, 0, 0, 0), (.getfield 111, 3, 14, 42, 2), (.iload_n 1, 1, 0, 0, 0), (.iconst 2, 1, 0, 0, 0), (.iastore, 1, 0, 0, 0), (.iconst 0, 1, 0, 0, 0), (.ireturn, 1, 0, 0, 0)]
theorem k_X12_does_60 : z_chk 14 false cX12_does 8 60 b_X12_does_60 69 = true := by decide +kernel
def b_X12_does_69 : List z_E := [(.aload_n 0, 1, 0, 0, 0), (.getfield 66, 3, 14, 27, 2), (.iload_n 2, 1, 0, 0, 0), (.laload, 1, 0, 0, 0), (.lload 4, 2, 0, 0, 0), (.lcmp, 1, 0, 0, 0), (.ifCond .ge 53, 3, 131, 0, 0), (.aload_n 0, 1, 0, 0, 0), (.getfield 111, 3, 14, 42, 2), (.iload_n 1, 1, 0, 0, 0), (.iconst 3, 1, 0, 0, 0), (.iastore, 1, 0, 0, 0), (.aload_n 0, 1, 0, 0, 0), (.getfield 66, 3, 14, 27, 2), (.iload_n 2, 1, 0, 0, 0), (.laload, 1, 0, 0, 0), (.lload 4, 2, 0, 0, 0), (.aload_n 0, 1, 0, 0, 0), (.getfield 33, 3, 14, 8, 0), (.i2l, 1, 0, 0, 0), (.lmul, 1, 0, 0, 0), (.ldc2_w 191, 3, 0, 0, 100), (.ldiv, 1, 0, 0, 0), (.invokestatic 283, 3, 2, 0, 0), (.lstore 6, 2, 0, 0, 0), (.aload_n 0, 1, 0, 0, 0), (.dup, 1, 0, 0, 0), (.getfield 264, 3, 14, 64, 1), (.lload 6, 2, 0, 0, 0), (.ladd, 1, 0, 0, 0), (.putfield 264, 3, 14, 64, 1), (.aload_n 0, 1, 0, 0, 0), (.iload_n 2, 1, 0, 0, 0), (.lload 6, 2, 0, 0, 0), (.invokevirtual 267, 3, 3, 0, 0), (.iconst 0, 1, 0, 0, 0), (.ireturn, 1, 0, 0, 0)]
theorem k_X12_does_69 : z_chk 14 false cX12_does 8 69 b_X12_does_69 131 = true := by decide +kernel
def b_X12_does_131 : List z_E := [(.aload_n 0, 1, 0, 0, 0), (.getfield 111, 3, 14, 42, 2), (.iload_n 1, 1, 0, 0, 0), (.iconst 1, 1, 0, 0, 0), (.iastore, 1, 0, 0, 0), (.aload_n 0, 1, 0, 0, 0), (.getfield 120, 3, 14, 45, 2), (.iload_n 1, 1, 0, 0, 0), (.aload_n 0, 1, 0, 0, 0), (.getfield 242, 3, 14, 14, 0), (.iastore, 1, 0, 0, 0), (.aload_n 0, 1, 0, 0, 0), (.getfield 66, 3, 14, 27, 2), (.iload_n 2, 1, 0, 0, 0), (.dup2, 1, 0, 0, 0), (.laload, 1, 0, 0, 0), (.lload 4, 2, 0, 0, 0), (.lsub, 1, 0, 0, 0), (.lastore, 1, 0, 0, 0), (.aload_n 0, 1, 0, 0, 0), (.getfield 66, 3, 14, 27, 2), (.iload_n 3, 1, 0, 0, 0), (.dup2, 1, 0, 0, 0), (.laload, 1, 0, 0, 0), (.lload 4, 2, 0, 0, 0), (.ladd, 1, 0, 0, 0), (.lastore, 1, 0, 0, 0), (.aload_n 0, 1, 0, 0, 0), (.aload_n 0, 1, 0, 0, 0), (.getfield 242, 3, 14, 14, 0), (.iload_n 2, 1, 0, 0, 0), (.iconst 0, 1, 0, 0, 0), (.lload 4, 2, 0, 0, 0), (.iload_n 1, 1, 0, 0, 0), (.invokevirtual 249, 3, 6, 0, 0), (.istore 6, 2, 0, 0, 0), (.aload_n 0, 1, 0, 0, 0), (.getfield 114, 3, 14, 43, 2), (.iload_n 1, 1, 0, 0, 0), (.iaload, 1, 0, 0, 0), (.istore 7, 2, 0, 0, 0), (.iload 7, 2, 0, 0, 0), (.ifCond .eq 67, 3, 262, 0, 0), (.aload_n 0, 1, 0, 0, 0), (.getfield 123, 3, 14, 46, 2), (.iload_n 1, 1, 0, 0, 0), (.aload_n 0, 1, 0, 0, 0), (.aload_n 0, 1, 0, 0, 0), (.getfield 242, 3, 14, 14, 0), (.iload 7, 2, 0, 0, 0), (.iconst 3, 1, 0, 0, 0), (.if_icmp .ne 12, 3, 223, 0, 0), (.aload_n 0, 1, 0, 0, 0), (.getfield 117, 3, 14, 44, 2), (.iload_n 1, 1, 0, 0, 0), (.iaload, 1, 0, 0, 0), (.goto 4, 3, 224, 0, 0)]
theorem k_X12_does_131 : z_chk 14 false cX12_does 8 131 b_X12_does_131 223 = true := by decide +kernel
def b_X12_does_223 : List z_E := [(.iload_n 3, 1, 0, 0, 0)]
theorem k_X12_does_223 : z_chk 14 false cX12_does 8 223 b_X12_does_223 224 = true := by decide +kernel
def b_X12_does_224 : List z_E := [(.iload 7, 2, 0, 0, 0), (.iconst 1, 1, 0, 0, 0), (.if_icmp .ne 7, 3, 234, 0, 0), (.iconst 0, 1, 0, 0, 0), (.goto 4, 3, 235, 0, 0)]
theorem k_X12_does_224 : z_chk 14 false cX12_does 8 224 b_X12_does_224 234 = true := by decide +kernel
def b_X12_does_234 : List z_E := [(.iconst 1, 1, 0, 0, 0)]
theorem k_X12_does_234 : z_chk 14 false cX12_does 8 234 b_X12_does_234 235 = true := by decide +kernel
def b_X12_does_235 : List z_E := [(.iload 7, 2, 0, 0, 0), (.iconst 2, 1, 0, 0, 0), (.if_icmp .ne 17, 3, 255, 0, 0), (.lload 4, 2, 0, 0, 0), (.aload_n 0, 1, 0, 0, 0), (.getfield 117, 3, 14, 44, 2), (.iload_n 1, 1, 0, 0, 0), (.iaload, 1, 0, 0, 0), (.invokestatic 289, 3, 2, 0, 0), (.goto 5, 3, 257, 0, 0)]
theorem k_X12_does_235 : z_chk 14 false cX12_does 8 235 b_X12_does_235 255 = true := by decide +kernel
def b_X12_does_255 : List z_E := [(.lload 4, 2, 0, 0, 0)]
theorem k_X12_does_255 : z_chk 14 false cX12_does 8 255 b_X12_does_255 257 = true := by decide +kernel
def b_X12_does_257 : List z_E := [(.iload_n 1, 1, 0, 0, 0), (.invokevirtual 249, 3, 6, 0, 0), (.iastore, 1, 0, 0, 0)]
theorem k_X12_does_257 : z_chk 14 false cX12_does 8 257 b_X12_does_257 262 = true := by decide +kernel
def b_X12_does_262 : List z_E := [(.iconst 1, 1, 0, 0, 0), (.ireturn, 1, 0, 0, 0)]
theorem k_X12_does_262 : z_chk 14 false cX12_does 8 262 b_X12_does_262 264 = true := by decide +kernel
def b_X12_close_0 : List z_E := [(.aload_n 0, 1, 0, 0, 0), (.iconst 0, 1, 0, 0, 0), (.putfield 172, 3, 14, 0, 0), (.aload_n 0, 1, 0, 0, 0), (.getfield 242, 3, 14, 14, 0), (.sipush 5000, 3, 0, 0, 0), (.if_icmp .ne 6, 3, 18, 0, 0), (.bipush (-9), 2, 0, 0, 0), (.ireturn, 1, 0, 0, 0)]
theorem k_X12_close_0 : z_chk 14 false cX12_close 6 0 b_X12_close_0 18 = true := by decide +kernel
def b_X12_close_18 : List z_E := [(.iconst 0, 1, 0, 0, 0), (.istore_n 1, 1, 0, 0, 0), (.lconst 0, 1, 0, 0, 0), (.lstore_n 2, 1, 0, 0, 0), (.iconst 0, 1, 0, 0, 0), (.istore 4, 2, 0, 0, 0)]
theorem k_X12_close_18 : z_chk 14 false cX12_close 6 18 b_X12_close_18 25 = true := by decide +kernel
def b_X12_close_25 : List z_E := [(.iload 4, 2, 0, 0, 0), (.bipush 24, 2, 0, 0, 0), (.if_icmp .ge 88, 3, 117, 0, 0), (.iconst 0, 1, 0, 0, 0), (.istore 5, 2, 0, 0, 0)]
theorem k_X12_close_25 : z_chk 14 false cX12_close 6 25 b_X12_close_25 35 = true := by decide +kernel
def b_X12_close_35 : List z_E := [(.iload 5, 2, 0, 0, 0), (.aload_n 0, 1, 0, 0, 0), (.getfield 215, 3, 14, 18, 0), (.if_icmp .ge 70, 3, 111, 0, 0), (.aload_n 0, 1, 0, 0, 0), (.getfield 111, 3, 14, 42, 2), (.iload 5, 2, 0, 0, 0), (.iaload, 1, 0, 0, 0), (.ifCond .ne 54, 3, 105, 0, 0), (.aload_n 0, 1, 0, 0, 0), (.getfield 102, 3, 14, 39, 2), (.iload 5, 2, 0, 0, 0), (.iaload, 1, 0, 0, 0), (.aload_n 0, 1, 0, 0, 0), (.getfield 242, 3, 14, 14, 0), (.if_icmp .gt 40, 3, 105, 0, 0), (.aload_n 0, 1, 0, 0, 0), (.getfield 105, 3, 14, 40, 2), (.iload 5, 2, 0, 0, 0), (.iaload, 1, 0, 0, 0), (.iload 4, 2, 0, 0, 0), (.if_icmp .ne 28, 3, 105, 0, 0), (.aload_n 0, 1, 0, 0, 0), (.iload 5, 2, 0, 0, 0), (.invokevirtual 293, 3, 2, 0, 0), (.ifCond .ne 6, 3, 92, 0, 0), (.goto 16, 3, 105, 0, 0)]
theorem k_X12_close_35 : z_chk 14 false cX12_close 6 35 b_X12_close_35 92 = true := by decide +kernel
def b_X12_close_92 : List z_E := [(.iinc 1 1, 3, 0, 0, 0), (.lload_n 2, 1, 0, 0, 0), (.aload_n 0, 1, 0, 0, 0), (.getfield 126, 3, 14, 47, 2), (.iload 5, 2, 0, 0, 0), (.laload, 1, 0, 0, 0), (.ladd, 1, 0, 0, 0), (.lstore_n 2, 1, 0, 0, 0)]
theorem k_X12_close_92 : z_chk 14 false cX12_close 6 92 b_X12_close_92 105 = true := by decide +kernel
def b_X12_close_105 : List z_E := [(.iinc 5 1, 3, 0, 0, 0), (.goto (-73), 3, 35, 0, 0)]
theorem k_X12_close_105 : z_chk 14 false cX12_close 6 105 b_X12_close_105 111 = true := by decide +kernel
def b_X12_close_111 : List z_E := [(.iinc 4 1, 3, 0, 0, 0), (.goto (-89), 3, 25, 0, 0)]
theorem k_X12_close_111 : z_chk 14 false cX12_close 6 111 b_X12_close_111 117 = true := by decide +kernel
def b_X12_close_117 : List z_E := [(.iconst 0, 1, 0, 0, 0), (.istore 4, 2, 0, 0, 0)]
theorem k_X12_close_117 : z_chk 14 false cX12_close 6 117 b_X12_close_117 120 = true := by decide +kernel
def b_X12_close_120 : List z_E := [(.iload 4, 2, 0, 0, 0), (.aload_n 0, 1, 0, 0, 0), (.getfield 228, 3, 14, 17, 0), (.if_icmp .ge 41, 3, 167, 0, 0), (.aload_n 0, 1, 0, 0, 0), (.getfield 87, 3, 14, 34, 2), (.iload 4, 2, 0, 0, 0), (.iaload, 1, 0, 0, 0), (.ifCond .ne 25, 3, 161, 0, 0), (.aload_n 0, 1, 0, 0, 0), (.getfield 84, 3, 14, 33, 2), (.iload 4, 2, 0, 0, 0), (.iaload, 1, 0, 0, 0), (.aload_n 0, 1, 0, 0, 0), (.getfield 242, 3, 14, 14, 0), (.if_icmp .gt 11, 3, 161, 0, 0), (.aload_n 0, 1, 0, 0, 0), (.getfield 87, 3, 14, 34, 2), (.iload 4, 2, 0, 0, 0), (.iconst 2, 1, 0, 0, 0), (.iastore, 1, 0, 0, 0)]
theorem k_X12_close_120 : z_chk 14 false cX12_close 6 120 b_X12_close_120 161 = true := by decide +kernel
def b_X12_close_161 : List z_E := [(.iinc 4 1, 3, 0, 0, 0), (.goto (-44), 3, 120, 0, 0)]
theorem k_X12_close_161 : z_chk 14 false cX12_close 6 161 b_X12_close_161 167 = true := by decide +kernel
def b_X12_close_167 : List z_E := [(.aload_n 0, 1, 0, 0, 0), (.getfield 36, 3, 14, 9, 0), (.i2l, 1, 0, 0, 0), (.lload_n 2, 1, 0, 0, 0), (.aload_n 0, 1, 0, 0, 0), (.getfield 245, 3, 14, 63, 1), (.lsub, 1, 0, 0, 0), (.lmul, 1, 0, 0, 0), (.lload_n 2, 1, 0, 0, 0), (.aload_n 0, 1, 0, 0, 0), (.getfield 245, 3, 14, 63, 1), (.ladd, 1, 0, 0, 0), (.ldc2_w 193, 3, 0, 0, 1000), (.ladd, 1, 0, 0, 0), (.ldiv, 1, 0, 0, 0), (.lstore 4, 2, 0, 0, 0), (.aload_n 0, 1, 0, 0, 0), (.dup, 1, 0, 0, 0), (.getfield 48, 3, 14, 13, 0), (.aload_n 0, 1, 0, 0, 0), (.getfield 39, 3, 14, 10, 0), (.ineg, 1, 0, 0, 0), (.i2l, 1, 0, 0, 0), (.aload_n 0, 1, 0, 0, 0), (.getfield 39, 3, 14, 10, 0), (.i2l, 1, 0, 0, 0), (.lload 4, 2, 0, 0, 0), (.invokestatic 283, 3, 2, 0, 0), (.invokestatic 296, 3, 2, 0, 0), (.l2i, 1, 0, 0, 0), (.iadd, 1, 0, 0, 0), (.putfield 48, 3, 14, 13, 0), (.aload_n 0, 1, 0, 0, 0), (.bipush (-100), 2, 0, 0, 0), (.sipush 300, 3, 0, 0, 0), (.aload_n 0, 1, 0, 0, 0), (.getfield 48, 3, 14, 13, 0), (.invokestatic 299, 3, 2, 0, 0), (.invokestatic 302, 3, 2, 0, 0), (.putfield 48, 3, 14, 13, 0), (.aload_n 0, 1, 0, 0, 0), (.dup, 1, 0, 0, 0), (.getfield 304, 3, 14, 65, 1), (.iconst 0, 1, 0, 0, 0), (.aload_n 0, 1, 0, 0, 0), (.getfield 48, 3, 14, 13, 0), (.aload_n 0, 1, 0, 0, 0), (.getfield 45, 3, 14, 12, 0), (.isub, 1, 0, 0, 0), (.invokestatic 302, 3, 2, 0, 0), (.i2l, 1, 0, 0, 0), (.ladd, 1, 0, 0, 0), (.putfield 304, 3, 14, 65, 1), (.aload_n 0, 1, 0, 0, 0), (.dup, 1, 0, 0, 0), (.getfield 307, 3, 14, 66, 1), (.iconst 0, 1, 0, 0, 0), (.aload_n 0, 1, 0, 0, 0), (.getfield 42, 3, 14, 11, 0), (.aload_n 0, 1, 0, 0, 0), (.getfield 48, 3, 14, 13, 0), (.isub, 1, 0, 0, 0), (.invokestatic 302, 3, 2, 0, 0), (.i2l, 1, 0, 0, 0), (.ladd, 1, 0, 0, 0), (.putfield 307, 3, 14, 66, 1), (.aload_n 0, 1, 0, 0, 0), (.aload_n 0, 1, 0, 0, 0), (.getfield 42, 3, 14, 11, 0), (.aload_n 0, 1, 0, 0, 0), (.getfield 45, 3, 14, 12, 0), (.aload_n 0, 1, 0, 0, 0), (.getfield 48, 3, 14, 13, 0), (.invokestatic 299, 3, 2, 0, 0), (.invokestatic 302, 3, 2, 0, 0), (.putfield 48, 3, 14, 13, 0), (.aload_n 0, 1, 0, 0, 0), (.lconst 0, 1, 0, 0, 0), (.putfield 245, 3, 14, 63, 1), (.aload_n 0, 1, 0, 0, 0), (.dup, 1, 0, 0, 0), (.getfield 242, 3, 14, 14, 0), (.iconst 1, 1, 0, 0, 0), (.iadd, 1, 0, 0, 0), (.putfield 242, 3, 14, 14, 0), (.iload_n 1, 1, 0, 0, 0), (.ireturn, 1, 0, 0, 0)]
theorem k_X12_close_167 : z_chk 14 false cX12_close 6 167 b_X12_close_167 325 = true := by decide +kernel
def b_X12_suspects_0 : List z_E := [(.aload_n 0, 1, 0, 0, 0), (.iconst 0, 1, 0, 0, 0), (.putfield 172, 3, 14, 0, 0), (.iload_n 1, 1, 0, 0, 0), (.i2l, 1, 0, 0, 0), (.lconst 0, 1, 0, 0, 0), (.aload_n 0, 1, 0, 0, 0), (.getfield 242, 3, 14, 14, 0), (.iconst 1, 1, 0, 0, 0), (.isub, 1, 0, 0, 0), (.i2l, 1, 0, 0, 0), (.invokestatic 177, 3, 3, 0, 0), (.ifCond .ne 6, 3, 24, 0, 0), (.bipush (-2), 2, 0, 0, 0), (.ireturn, 1, 0, 0, 0)]
theorem k_X12_suspects_0 : z_chk 14 false cX12_suspects 6 0 b_X12_suspects_0 24 = true := by decide +kernel
def b_X12_suspects_24 : List z_E := [(.lconst 0, 1, 0, 0, 0), (.lstore_n 2, 1, 0, 0, 0), (.iconst 0, 1, 0, 0, 0), (.istore 4, 2, 0, 0, 0)]
theorem k_X12_suspects_24 : z_chk 14 false cX12_suspects 6 24 b_X12_suspects_24 29 = true := by decide +kernel
def b_X12_suspects_29 : List z_E := [(.iload 4, 2, 0, 0, 0), (.aload_n 0, 1, 0, 0, 0), (.getfield 212, 3, 14, 19, 0), (.if_icmp .ge 62, 3, 97, 0, 0), (.aload_n 0, 1, 0, 0, 0), (.getfield 133, 3, 14, 49, 2), (.iload 4, 2, 0, 0, 0), (.iaload, 1, 0, 0, 0), (.iload_n 1, 1, 0, 0, 0), (.if_icmp .ne 45, 3, 91, 0, 0), (.aload_n 0, 1, 0, 0, 0), (.getfield 145, 3, 14, 53, 2), (.iload 4, 2, 0, 0, 0), (.iaload, 1, 0, 0, 0), (.iconst (-1), 1, 0, 0, 0), (.if_icmp .eq 34, 3, 91, 0, 0), (.lload_n 2, 1, 0, 0, 0), (.aload_n 0, 1, 0, 0, 0), (.getfield 142, 3, 14, 52, 2), (.iload 4, 2, 0, 0, 0), (.iaload, 1, 0, 0, 0), (.ifCond .ne 13, 3, 81, 0, 0), (.aload_n 0, 1, 0, 0, 0), (.getfield 148, 3, 14, 54, 2), (.iload 4, 2, 0, 0, 0), (.laload, 1, 0, 0, 0), (.goto 11, 3, 89, 0, 0)]
theorem k_X12_suspects_29 : z_chk 14 false cX12_suspects 6 29 b_X12_suspects_29 81 = true := by decide +kernel
def b_X12_suspects_81 : List z_E := [(.aload_n 0, 1, 0, 0, 0), (.getfield 148, 3, 14, 54, 2), (.iload 4, 2, 0, 0, 0), (.laload, 1, 0, 0, 0), (.lneg, 1, 0, 0, 0)]
theorem k_X12_suspects_81 : z_chk 14 false cX12_suspects 6 81 b_X12_suspects_81 89 = true := by decide +kernel
def b_X12_suspects_89 : List z_E := [(.ladd, 1, 0, 0, 0), (.lstore_n 2, 1, 0, 0, 0)]
theorem k_X12_suspects_89 : z_chk 14 false cX12_suspects 6 89 b_X12_suspects_89 91 = true := by decide +kernel
def b_X12_suspects_91 : List z_E := [(.iinc 4 1, 3, 0, 0, 0), (.goto (-65), 3, 29, 0, 0)]
theorem k_X12_suspects_91 : z_chk 14 false cX12_suspects 6 91 b_X12_suspects_91 97 = true := by decide +kernel
def b_X12_suspects_97 : List z_E := [(.aload_n 0, 1, 0, 0, 0), (.iconst 0, 1, 0, 0, 0), (.putfield 310, 3, 14, 62, 0), (.lload_n 2, 1, 0, 0, 0), (.lconst 0, 1, 0, 0, 0), (.lcmp, 1, 0, 0, 0), (.ifCond .ne 5, 3, 110, 0, 0), (.iconst (-1), 1, 0, 0, 0), (.ireturn, 1, 0, 0, 0)]
theorem k_X12_suspects_97 : z_chk 14 false cX12_suspects 6 97 b_X12_suspects_97 110 = true := by decide +kernel
def b_X12_suspects_110 : List z_E := [(.iconst 0, 1, 0, 0, 0), (.istore 4, 2, 0, 0, 0)]
theorem k_X12_suspects_110 : z_chk 14 false cX12_suspects 6 110 b_X12_suspects_110 113 = true := by decide +kernel
def b_X12_suspects_113 : List z_E := [(.iload 4, 2, 0, 0, 0), (.aload_n 0, 1, 0, 0, 0), (.getfield 212, 3, 14, 19, 0), (.if_icmp .ge 84, 3, 203, 0, 0), (.aload_n 0, 1, 0, 0, 0), (.getfield 133, 3, 14, 49, 2), (.iload 4, 2, 0, 0, 0), (.iaload, 1, 0, 0, 0), (.iload_n 1, 1, 0, 0, 0), (.if_icmp .ne 67, 3, 197, 0, 0), (.aload_n 0, 1, 0, 0, 0), (.getfield 145, 3, 14, 53, 2), (.iload 4, 2, 0, 0, 0), (.iaload, 1, 0, 0, 0), (.iconst (-1), 1, 0, 0, 0), (.if_icmp .ne 6, 3, 147, 0, 0), (.goto 53, 3, 197, 0, 0)]
theorem k_X12_suspects_113 : z_chk 14 false cX12_suspects 6 113 b_X12_suspects_113 147 = true := by decide +kernel
def b_X12_suspects_147 : List z_E := [(.aload_n 0, 1, 0, 0, 0), (.iload 4, 2, 0, 0, 0), (.lload_n 2, 1, 0, 0, 0), (.invokevirtual 313, 3, 3, 0, 0), (.istore 5, 2, 0, 0, 0), (.iload 5, 2, 0, 0, 0), (.iconst (-1), 1, 0, 0, 0), (.if_icmp .ne 6, 3, 165, 0, 0), (.goto 35, 3, 197, 0, 0)]
theorem k_X12_suspects_147 : z_chk 14 false cX12_suspects 6 147 b_X12_suspects_147 165 = true := by decide +kernel
def b_X12_suspects_165 : List z_E := [(.aload_n 0, 1, 0, 0, 0), (.getfield 166, 3, 14, 60, 2), (.aload_n 0, 1, 0, 0, 0), (.getfield 310, 3, 14, 62, 0), (.iload 4, 2, 0, 0, 0), (.iastore, 1, 0, 0, 0), (.aload_n 0, 1, 0, 0, 0), (.getfield 169, 3, 14, 61, 2), (.aload_n 0, 1, 0, 0, 0), (.getfield 310, 3, 14, 62, 0), (.iload 5, 2, 0, 0, 0), (.iastore, 1, 0, 0, 0), (.aload_n 0, 1, 0, 0, 0), (.dup, 1, 0, 0, 0), (.getfield 310, 3, 14, 62, 0), (.iconst 1, 1, 0, 0, 0), (.iadd, 1, 0, 0, 0), (.putfield 310, 3, 14, 62, 0)]
theorem k_X12_suspects_165 : z_chk 14 false cX12_suspects 6 165 b_X12_suspects_165 197 = true := by decide +kernel
def b_X12_suspects_197 : List z_E := [(.iinc 4 1, 3, 0, 0, 0), (.goto (-87), 3, 113, 0, 0)]
theorem k_X12_suspects_197 : z_chk 14 false cX12_suspects 6 197 b_X12_suspects_197 203 = true := by decide +kernel
def b_X12_suspects_203 : List z_E := [(.aload_n 0, 1, 0, 0, 0), (.getfield 310, 3, 14, 62, 0), (.ireturn, 1, 0, 0, 0)]
theorem k_X12_suspects_203 : z_chk 14 false cX12_suspects 6 203 b_X12_suspects_203 208 = true := by decide +kernel
def b_X12_howOf_0 : List z_E := [(.aload_n 0, 1, 0, 0, 0), (.getfield 142, 3, 14, 52, 2), (.iload_n 1, 1, 0, 0, 0), (.iaload, 1, 0, 0, 0), (.ifCond .ne 49, 3, 55, 0, 0), (.aload_n 0, 1, 0, 0, 0), (.getfield 148, 3, 14, 54, 2), (.iload_n 1, 1, 0, 0, 0), (.laload, 1, 0, 0, 0), (.lload_n 2, 1, 0, 0, 0), (.lcmp, 1, 0, 0, 0), (.ifCond .ne 7, 3, 24, 0, 0), (.iconst 0, 1, 0, 0, 0), (.goto 33, 3, 54, 0, 0)]
theorem k_X12_howOf_0 : z_chk 14 false cX12_howOf 5 0 b_X12_howOf_0 24 = true := by decide +kernel
def b_X12_howOf_24 : List z_E := [(.lload_n 2, 1, 0, 0, 0), (.ldc2_w 317, 3, 0, 0, 2), (.lrem, 1, 0, 0, 0), (.lconst 0, 1, 0, 0, 0), (.lcmp, 1, 0, 0, 0), (.ifCond .ne 22, 3, 53, 0, 0), (.aload_n 0, 1, 0, 0, 0), (.getfield 148, 3, 14, 54, 2), (.iload_n 1, 1, 0, 0, 0), (.laload, 1, 0, 0, 0), (.lload_n 2, 1, 0, 0, 0), (.ldc2_w 317, 3, 0, 0, 2), (.ldiv, 1, 0, 0, 0), (.lcmp, 1, 0, 0, 0), (.ifCond .ne 7, 3, 53, 0, 0), (.iconst 1, 1, 0, 0, 0), (.goto 4, 3, 54, 0, 0)]
theorem k_X12_howOf_24 : z_chk 14 false cX12_howOf 5 24 b_X12_howOf_24 53 = true := by decide +kernel
def b_X12_howOf_53 : List z_E := [(.iconst (-1), 1, 0, 0, 0)]
theorem k_X12_howOf_53 : z_chk 14 false cX12_howOf 5 53 b_X12_howOf_53 54 = true := by decide +kernel
def b_X12_howOf_54 : List z_E := [(.ireturn, 1, 0, 0, 0)]
theorem k_X12_howOf_54 : z_chk 14 false cX12_howOf 5 54 b_X12_howOf_54 55 = true := by decide +kernel
def b_X12_howOf_55 : List z_E := [(.lload_n 2, 1, 0, 0, 0), (.ldc2_w 319, 3, 0, 0, 9), (.lrem, 1, 0, 0, 0), (.lconst 0, 1, 0, 0, 0), (.lcmp, 1, 0, 0, 0), (.ifCond .eq 5, 3, 67, 0, 0), (.iconst (-1), 1, 0, 0, 0), (.ireturn, 1, 0, 0, 0)]
theorem k_X12_howOf_55 : z_chk 14 false cX12_howOf 5 55 b_X12_howOf_55 67 = true := by decide +kernel
def b_X12_howOf_67 : List z_E := [(.iconst 0, 1, 0, 0, 0), (.istore 4, 2, 0, 0, 0)]
theorem k_X12_howOf_67 : z_chk 14 false cX12_howOf 5 67 b_X12_howOf_67 70 = true := by decide +kernel
def b_X12_howOf_70 : List z_E := [(.iload 4, 2, 0, 0, 0), (.bipush 9, 2, 0, 0, 0), (.if_icmp .ge 34, 3, 108, 0, 0), (.aload_n 0, 1, 0, 0, 0), (.getfield 148, 3, 14, 54, 2), (.iload_n 1, 1, 0, 0, 0), (.laload, 1, 0, 0, 0), (.iload 4, 2, 0, 0, 0), (.invokestatic 289, 3, 2, 0, 0), (.aload_n 0, 1, 0, 0, 0), (.getfield 148, 3, 14, 54, 2), (.iload_n 1, 1, 0, 0, 0), (.laload, 1, 0, 0, 0), (.lload_n 2, 1, 0, 0, 0), (.ladd, 1, 0, 0, 0), (.lcmp, 1, 0, 0, 0), (.ifCond .ne 5, 3, 102, 0, 0), (.iconst 2, 1, 0, 0, 0), (.ireturn, 1, 0, 0, 0)]
theorem k_X12_howOf_70 : z_chk 14 false cX12_howOf 5 70 b_X12_howOf_70 102 = true := by decide +kernel
def b_X12_howOf_102 : List z_E := [(.iinc 4 1, 3, 0, 0, 0), (.goto (-35), 3, 70, 0, 0)]
theorem k_X12_howOf_102 : z_chk 14 false cX12_howOf 5 102 b_X12_howOf_102 108 = true := by decide +kernel
def b_X12_howOf_108 : List z_E := [(.iconst (-1), 1, 0, 0, 0), (.ireturn, 1, 0, 0, 0)]
theorem k_X12_howOf_108 : z_chk 14 false cX12_howOf 5 108 b_X12_howOf_108 110 = true := by decide +kernel
def b_X12_suspect_0 : List z_E := [(.aload_n 0, 1, 0, 0, 0), (.iconst 0, 1, 0, 0, 0), (.putfield 172, 3, 14, 0, 0), (.iload_n 1, 1, 0, 0, 0), (.i2l, 1, 0, 0, 0), (.lconst 0, 1, 0, 0, 0), (.aload_n 0, 1, 0, 0, 0), (.getfield 310, 3, 14, 62, 0), (.iconst 1, 1, 0, 0, 0), (.isub, 1, 0, 0, 0), (.i2l, 1, 0, 0, 0), (.invokestatic 177, 3, 3, 0, 0), (.ifCond .ne 5, 3, 23, 0, 0), (.iconst (-1), 1, 0, 0, 0), (.ireturn, 1, 0, 0, 0)]
theorem k_X12_suspect_0 : z_chk 14 false cX12_suspect 3 0 b_X12_suspect_0 23 = true := by decide +kernel
def b_X12_suspect_23 : List z_E := [(.iload_n 2, 1, 0, 0, 0), (.ifCond .ne 12, 3, 36, 0, 0), (.aload_n 0, 1, 0, 0, 0), (.getfield 166, 3, 14, 60, 2), (.iload_n 1, 1, 0, 0, 0), (.iaload, 1, 0, 0, 0), (.goto 18, 3, 51, 0, 0)]
theorem k_X12_suspect_23 : z_chk 14 false cX12_suspect 3 23 b_X12_suspect_23 36 = true := by decide +kernel
def b_X12_suspect_36 : List z_E := [(.iload_n 2, 1, 0, 0, 0), (.iconst 1, 1, 0, 0, 0), (.if_icmp .ne 12, 3, 50, 0, 0), (.aload_n 0, 1, 0, 0, 0), (.getfield 169, 3, 14, 61, 2), (.iload_n 1, 1, 0, 0, 0), (.iaload, 1, 0, 0, 0), (.goto 4, 3, 51, 0, 0)]
theorem k_X12_suspect_36 : z_chk 14 false cX12_suspect 3 36 b_X12_suspect_36 50 = true := by decide +kernel
def b_X12_suspect_50 : List z_E := [(.iconst (-1), 1, 0, 0, 0)]
theorem k_X12_suspect_50 : z_chk 14 false cX12_suspect 3 50 b_X12_suspect_50 51 = true := by decide +kernel
def b_X12_suspect_51 : List z_E := [(.ireturn, 1, 0, 0, 0)]
theorem k_X12_suspect_51 : z_chk 14 false cX12_suspect 3 51 b_X12_suspect_51 52 = true := by decide +kernel
def b_X12_mend_0 : List z_E := [(.aload_n 0, 1, 0, 0, 0), (.iconst 0, 1, 0, 0, 0), (.putfield 172, 3, 14, 0, 0), (.iload_n 1, 1, 0, 0, 0), (.i2l, 1, 0, 0, 0), (.lconst 0, 1, 0, 0, 0), (.aload_n 0, 1, 0, 0, 0), (.getfield 215, 3, 14, 18, 0), (.iconst 1, 1, 0, 0, 0), (.isub, 1, 0, 0, 0), (.i2l, 1, 0, 0, 0), (.invokestatic 177, 3, 3, 0, 0), (.ifCond .eq 32, 3, 50, 0, 0), (.aload_n 0, 1, 0, 0, 0), (.getfield 111, 3, 14, 42, 2), (.iload_n 1, 1, 0, 0, 0), (.iaload, 1, 0, 0, 0), (.iconst 1, 1, 0, 0, 0), (.if_icmp .ne 22, 3, 50, 0, 0), (.aload_n 0, 1, 0, 0, 0), (.getfield 114, 3, 14, 43, 2), (.iload_n 1, 1, 0, 0, 0), (.iaload, 1, 0, 0, 0), (.iconst (-1), 1, 0, 0, 0), (.if_icmp .eq 12, 3, 50, 0, 0), (.aload_n 0, 1, 0, 0, 0), (.getfield 129, 3, 14, 48, 2), (.iload_n 1, 1, 0, 0, 0), (.baload, 1, 0, 0, 0), (.ifCond .eq 5, 3, 52, 0, 0)]
theorem k_X12_mend_0 : z_chk 14 false cX12_mend 3 0 b_X12_mend_0 50 = true := by decide +kernel
def b_X12_mend_50 : List z_E := [(.iconst 0, 1, 0, 0, 0), (.ireturn, 1, 0, 0, 0)]
theorem k_X12_mend_50 : z_chk 14 false cX12_mend 3 50 b_X12_mend_50 52 = true := by decide +kernel
def b_X12_mend_52 : List z_E := [(.aload_n 0, 1, 0, 0, 0), (.getfield 123, 3, 14, 46, 2), (.iload_n 1, 1, 0, 0, 0), (.iaload, 1, 0, 0, 0), (.istore_n 2, 1, 0, 0, 0), (.iload_n 2, 1, 0, 0, 0), (.iconst (-1), 1, 0, 0, 0), (.if_icmp .ne 46, 3, 107, 0, 0), (.aload_n 0, 1, 0, 0, 0), (.invokevirtual 231, 3, 1, 0, 0), (.iconst 1, 1, 0, 0, 0), (.if_icmp .ge 5, 3, 74, 0, 0), (.iconst 0, 1, 0, 0, 0), (.ireturn, 1, 0, 0, 0)]
theorem k_X12_mend_52 : z_chk 14 false cX12_mend 3 52 b_X12_mend_52 74 = true := by decide +kernel
def b_X12_mend_74 : List z_E := [(.aload_n 0, 1, 0, 0, 0), (.getfield 123, 3, 14, 46, 2), (.iload_n 1, 1, 0, 0, 0), (.aload_n 0, 1, 0, 0, 0), (.aload_n 0, 1, 0, 0, 0), (.getfield 120, 3, 14, 45, 2), (.iload_n 1, 1, 0, 0, 0), (.iaload, 1, 0, 0, 0), (.aload_n 0, 1, 0, 0, 0), (.getfield 99, 3, 14, 38, 2), (.iload_n 1, 1, 0, 0, 0), (.iaload, 1, 0, 0, 0), (.iconst 1, 1, 0, 0, 0), (.aload_n 0, 1, 0, 0, 0), (.getfield 126, 3, 14, 47, 2), (.iload_n 1, 1, 0, 0, 0), (.laload, 1, 0, 0, 0), (.iload_n 1, 1, 0, 0, 0), (.invokevirtual 249, 3, 6, 0, 0), (.iastore, 1, 0, 0, 0), (.goto 34, 3, 138, 0, 0)]
theorem k_X12_mend_74 : z_chk 14 false cX12_mend 3 74 b_X12_mend_74 107 = true := by decide +kernel
def b_X12_mend_107 : List z_E := [(.aload_n 0, 1, 0, 0, 0), (.getfield 136, 3, 14, 50, 2), (.iload_n 2, 1, 0, 0, 0), (.aload_n 0, 1, 0, 0, 0), (.getfield 99, 3, 14, 38, 2), (.iload_n 1, 1, 0, 0, 0), (.iaload, 1, 0, 0, 0), (.iastore, 1, 0, 0, 0), (.aload_n 0, 1, 0, 0, 0), (.getfield 142, 3, 14, 52, 2), (.iload_n 2, 1, 0, 0, 0), (.iconst 1, 1, 0, 0, 0), (.iastore, 1, 0, 0, 0), (.aload_n 0, 1, 0, 0, 0), (.getfield 148, 3, 14, 54, 2), (.iload_n 2, 1, 0, 0, 0), (.aload_n 0, 1, 0, 0, 0), (.getfield 126, 3, 14, 47, 2), (.iload_n 1, 1, 0, 0, 0), (.laload, 1, 0, 0, 0), (.lastore, 1, 0, 0, 0)]
theorem k_X12_mend_107 : z_chk 14 false cX12_mend 3 107 b_X12_mend_107 138 = true := by decide +kernel
def b_X12_mend_138 : List z_E := [(.aload_n 0, 1, 0, 0, 0), (.getfield 129, 3, 14, 48, 2), (.iload_n 1, 1, 0, 0, 0), (.iconst 1, 1, 0, 0, 0), (.bastore, 1, 0, 0, 0), (.iconst 1, 1, 0, 0, 0), (.ireturn, 1, 0, 0, 0)]
theorem k_X12_mend_138 : z_chk 14 false cX12_mend 3 138 b_X12_mend_138 147 = true := by decide +kernel
def b_X12_weighed_0 : List z_E := [(.aload_n 0, 1, 0, 0, 0), (.iconst 0, 1, 0, 0, 0), (.putfield 172, 3, 14, 0, 0), (.aload_n 0, 1, 0, 0, 0), (.iload_n 1, 1, 0, 0, 0), (.invokevirtual 225, 3, 2, 0, 0), (.ifCond .eq 22, 3, 32, 0, 0), (.iload_n 2, 1, 0, 0, 0), (.invokestatic 181, 3, 1, 0, 0), (.ifCond .eq 15, 3, 32, 0, 0), (.iload_n 3, 1, 0, 0, 0), (.i2l, 1, 0, 0, 0), (.lconst 0, 1, 0, 0, 0), (.ldc2_w 321, 3, 0, 0, 4), (.invokestatic 177, 3, 3, 0, 0), (.ifCond .ne 7, 3, 36, 0, 0)]
theorem k_X12_weighed_0 : z_chk 14 false cX12_weighed 15 0 b_X12_weighed_0 32 = true := by decide +kernel
def b_X12_weighed_32 : List z_E := [(.ldc2_w 256, 3, 0, 0, (-2)), (.lreturn, 1, 0, 0, 0)]
theorem k_X12_weighed_32 : z_chk 14 false cX12_weighed 15 32 b_X12_weighed_32 36 = true := by decide +kernel
def b_X12_weighed_36 : List z_E := [(.aload_n 0, 1, 0, 0, 0), (.getfield 9, 3, 14, 1, 2), (.iload_n 2, 1, 0, 0, 0), (.iaload, 1, 0, 0, 0), (.ifCond .ge 7, 3, 49, 0, 0), (.ldc2_w 323, 3, 0, 0, (-5)), (.lreturn, 1, 0, 0, 0)]
theorem k_X12_weighed_36 : z_chk 14 false cX12_weighed 15 36 b_X12_weighed_36 49 = true := by decide +kernel
def b_X12_weighed_49 : List z_E := [(.ldc2_w 327, 3, 0, 0, 9223372036854775807), (.lstore 4, 2, 0, 0, 0), (.lconst 0, 1, 0, 0, 0), (.lstore 6, 2, 0, 0, 0), (.lconst 0, 1, 0, 0, 0), (.lstore 8, 2, 0, 0, 0), (.lconst 0, 1, 0, 0, 0), (.lstore 10, 2, 0, 0, 0), (.iconst 0, 1, 0, 0, 0), (.istore 12, 2, 0, 0, 0)]
theorem k_X12_weighed_49 : z_chk 14 false cX12_weighed 15 49 b_X12_weighed_49 66 = true := by decide +kernel
def b_X12_weighed_66 : List z_E := [(.iload 12, 2, 0, 0, 0), (.aload_n 0, 1, 0, 0, 0), (.getfield 13, 3, 14, 2, 2), (.iload_n 2, 1, 0, 0, 0), (.iaload, 1, 0, 0, 0), (.if_icmp .ge 67, 3, 141, 0, 0), (.aload_n 0, 1, 0, 0, 0), (.getfield 16, 3, 14, 3, 2), (.bipush 60, 2, 0, 0, 0), (.iload_n 2, 1, 0, 0, 0), (.imul, 1, 0, 0, 0), (.iload 12, 2, 0, 0, 0), (.iadd, 1, 0, 0, 0), (.laload, 1, 0, 0, 0), (.lstore 13, 2, 0, 0, 0), (.aload_n 0, 1, 0, 0, 0), (.iload_n 1, 1, 0, 0, 0), (.lload 13, 2, 0, 0, 0), (.invokevirtual 235, 3, 3, 0, 0), (.ifCond .ne 6, 3, 104, 0, 0), (.goto 34, 3, 135, 0, 0)]
theorem k_X12_weighed_66 : z_chk 14 false cX12_weighed 15 66 b_X12_weighed_66 104 = true := by decide +kernel
def b_X12_weighed_104 : List z_E := [(.lload 4, 2, 0, 0, 0), (.lload 13, 2, 0, 0, 0), (.invokestatic 283, 3, 2, 0, 0), (.lstore 4, 2, 0, 0, 0), (.lload 6, 2, 0, 0, 0), (.lload 13, 2, 0, 0, 0), (.invokestatic 296, 3, 2, 0, 0), (.lstore 6, 2, 0, 0, 0), (.lload 8, 2, 0, 0, 0), (.lconst 1, 1, 0, 0, 0), (.ladd, 1, 0, 0, 0), (.lstore 8, 2, 0, 0, 0), (.lload 10, 2, 0, 0, 0), (.lload 13, 2, 0, 0, 0), (.ladd, 1, 0, 0, 0), (.lstore 10, 2, 0, 0, 0)]
theorem k_X12_weighed_104 : z_chk 14 false cX12_weighed 15 104 b_X12_weighed_104 135 = true := by decide +kernel
def b_X12_weighed_135 : List z_E := [(.iinc 12 1, 3, 0, 0, 0), (.goto (-72), 3, 66, 0, 0)]
theorem k_X12_weighed_135 : z_chk 14 false cX12_weighed 15 135 b_X12_weighed_135 141 = true := by decide +kernel
def b_X12_weighed_141 : List z_E := [(.iload_n 3, 1, 0, 0, 0), (.iconst 2, 1, 0, 0, 0), (.if_icmp .ge 14, 3, 157, 0, 0), (.lload 8, 2, 0, 0, 0), (.lconst 0, 1, 0, 0, 0), (.lcmp, 1, 0, 0, 0), (.ifCond .ne 7, 3, 157, 0, 0), (.ldc2_w 262, 3, 0, 0, (-8)), (.lreturn, 1, 0, 0, 0)]
theorem k_X12_weighed_141 : z_chk 14 false cX12_weighed 15 141 b_X12_weighed_141 157 = true := by decide +kernel
def b_X12_weighed_157 : List z_E := [(.iload_n 3, 1, 0, 0, 0), (.ifCond .ne 8, 3, 166, 0, 0), (.lload 4, 2, 0, 0, 0), (.goto 40, 3, 203, 0, 0)]
theorem k_X12_weighed_157 : z_chk 14 false cX12_weighed 15 157 b_X12_weighed_157 166 = true := by decide +kernel
def b_X12_weighed_166 : List z_E := [(.iload_n 3, 1, 0, 0, 0), (.iconst 1, 1, 0, 0, 0), (.if_icmp .ne 8, 3, 176, 0, 0), (.lload 6, 2, 0, 0, 0), (.goto 30, 3, 203, 0, 0)]
theorem k_X12_weighed_166 : z_chk 14 false cX12_weighed 15 166 b_X12_weighed_166 176 = true := by decide +kernel
def b_X12_weighed_176 : List z_E := [(.iload_n 3, 1, 0, 0, 0), (.iconst 2, 1, 0, 0, 0), (.if_icmp .ne 8, 3, 186, 0, 0), (.lload 8, 2, 0, 0, 0), (.goto 20, 3, 203, 0, 0)]
theorem k_X12_weighed_176 : z_chk 14 false cX12_weighed 15 176 b_X12_weighed_176 186 = true := by decide +kernel
def b_X12_weighed_186 : List z_E := [(.iload_n 3, 1, 0, 0, 0), (.iconst 3, 1, 0, 0, 0), (.if_icmp .ne 8, 3, 196, 0, 0), (.lload 10, 2, 0, 0, 0), (.goto 10, 3, 203, 0, 0)]
theorem k_X12_weighed_186 : z_chk 14 false cX12_weighed 15 186 b_X12_weighed_186 196 = true := by decide +kernel
def b_X12_weighed_196 : List z_E := [(.aload_n 0, 1, 0, 0, 0), (.iload_n 1, 1, 0, 0, 0), (.lload 10, 2, 0, 0, 0), (.invokevirtual 239, 3, 3, 0, 0)]
theorem k_X12_weighed_196 : z_chk 14 false cX12_weighed 15 196 b_X12_weighed_196 203 = true := by decide +kernel
def b_X12_weighed_203 : List z_E := [(.lreturn, 1, 0, 0, 0)]
theorem k_X12_weighed_203 : z_chk 14 false cX12_weighed 15 203 b_X12_weighed_203 204 = true := by decide +kernel
def b_X12_loan_0 : List z_E := [(.aload_n 0, 1, 0, 0, 0), (.iconst 0, 1, 0, 0, 0), (.putfield 172, 3, 14, 0, 0), (.aload_n 0, 1, 0, 0, 0), (.iload_n 1, 1, 0, 0, 0), (.invokevirtual 225, 3, 2, 0, 0), (.ifCond .eq 8, 3, 18, 0, 0), (.iload_n 2, 1, 0, 0, 0), (.iconst 1, 1, 0, 0, 0), (.if_icmp .ge 6, 3, 21, 0, 0)]
theorem k_X12_loan_0 : z_chk 14 false cX12_loan 7 0 b_X12_loan_0 18 = true := by decide +kernel
def b_X12_loan_18 : List z_E := [(.bipush (-2), 2, 0, 0, 0), (.ireturn, 1, 0, 0, 0)]
theorem k_X12_loan_18 : z_chk 14 false cX12_loan 7 18 b_X12_loan_18 21 = true := by decide +kernel
def b_X12_loan_21 : List z_E := [(.aload_n 0, 1, 0, 0, 0), (.getfield 60, 3, 14, 25, 2), (.iload_n 1, 1, 0, 0, 0), (.laload, 1, 0, 0, 0), (.iload_n 2, 1, 0, 0, 0), (.i2l, 1, 0, 0, 0), (.lcmp, 1, 0, 0, 0), (.ifCond .ge 6, 3, 36, 0, 0), (.bipush (-8), 2, 0, 0, 0), (.ireturn, 1, 0, 0, 0)]
theorem k_X12_loan_21 : z_chk 14 false cX12_loan 7 21 b_X12_loan_21 36 = true := by decide +kernel
def b_X12_loan_36 : List z_E := [(.aload_n 0, 1, 0, 0, 0), (.getfield 329, 3, 14, 21, 0), (.bipush 20, 2, 0, 0, 0), (.if_icmp .ne 6, 3, 48, 0, 0), (.bipush (-3), 2, 0, 0, 0), (.ireturn, 1, 0, 0, 0)]
theorem k_X12_loan_36 : z_chk 14 false cX12_loan 7 36 b_X12_loan_36 48 = true := by decide +kernel
def b_X12_loan_48 : List z_E := [(.aload_n 0, 1, 0, 0, 0), (.getfield 63, 3, 14, 26, 2), (.iload_n 1, 1, 0, 0, 0), (.laload, 1, 0, 0, 0), (.iload_n 2, 1, 0, 0, 0), (.i2l, 1, 0, 0, 0), (.lmul, 1, 0, 0, 0), (.aload_n 0, 1, 0, 0, 0), (.getfield 60, 3, 14, 25, 2), (.iload_n 1, 1, 0, 0, 0), (.laload, 1, 0, 0, 0), (.ldiv, 1, 0, 0, 0), (.lstore 4, 2, 0, 0, 0), (.aload_n 0, 1, 0, 0, 0), (.getfield 60, 3, 14, 25, 2), (.iload_n 1, 1, 0, 0, 0), (.dup2, 1, 0, 0, 0), (.laload, 1, 0, 0, 0), (.iload_n 2, 1, 0, 0, 0), (.i2l, 1, 0, 0, 0), (.lsub, 1, 0, 0, 0), (.lastore, 1, 0, 0, 0), (.aload_n 0, 1, 0, 0, 0), (.getfield 63, 3, 14, 26, 2), (.iload_n 1, 1, 0, 0, 0), (.dup2, 1, 0, 0, 0), (.laload, 1, 0, 0, 0), (.lload 4, 2, 0, 0, 0), (.lsub, 1, 0, 0, 0), (.lastore, 1, 0, 0, 0), (.aload_n 0, 1, 0, 0, 0), (.getfield 157, 3, 14, 57, 2), (.aload_n 0, 1, 0, 0, 0), (.getfield 329, 3, 14, 21, 0), (.aload_n 0, 1, 0, 0, 0), (.getfield 242, 3, 14, 14, 0), (.iastore, 1, 0, 0, 0), (.aload_n 0, 1, 0, 0, 0), (.getfield 163, 3, 14, 59, 2), (.aload_n 0, 1, 0, 0, 0), (.getfield 329, 3, 14, 21, 0), (.aload_n 0, 1, 0, 0, 0), (.iload_n 1, 1, 0, 0, 0), (.lload 4, 2, 0, 0, 0), (.invokevirtual 239, 3, 3, 0, 0), (.lastore, 1, 0, 0, 0), (.iconst 0, 1, 0, 0, 0), (.istore 6, 2, 0, 0, 0)]
theorem k_X12_loan_48 : z_chk 14 false cX12_loan 7 48 b_X12_loan_48 120 = true := by decide +kernel
def b_X12_loan_120 : List z_E := [(.iload 6, 2, 0, 0, 0), (.bipush 32, 2, 0, 0, 0), (.if_icmp .ge 42, 3, 166, 0, 0), (.aload_n 0, 1, 0, 0, 0), (.getfield 160, 3, 14, 58, 2), (.bipush 32, 2, 0, 0, 0), (.aload_n 0, 1, 0, 0, 0), (.getfield 329, 3, 14, 21, 0), (.imul, 1, 0, 0, 0), (.iload 6, 2, 0, 0, 0), (.iadd, 1, 0, 0, 0), (.iload_n 3, 1, 0, 0, 0), (.iload 6, 2, 0, 0, 0), (.iushr, 1, 0, 0, 0), (.iconst 1, 1, 0, 0, 0), (.iand, 1, 0, 0, 0), (.iconst 1, 1, 0, 0, 0), (.if_icmp .ne 10, 3, 158, 0, 0), (.aload_n 0, 1, 0, 0, 0), (.getfield 242, 3, 14, 14, 0), (.goto 4, 3, 159, 0, 0)]
theorem k_X12_loan_120 : z_chk 14 false cX12_loan 7 120 b_X12_loan_120 158 = true := by decide +kernel
def b_X12_loan_158 : List z_E := [(.iconst (-1), 1, 0, 0, 0)]
theorem k_X12_loan_158 : z_chk 14 false cX12_loan 7 158 b_X12_loan_158 159 = true := by decide +kernel
def b_X12_loan_159 : List z_E := [(.iastore, 1, 0, 0, 0), (.iinc 6 1, 3, 0, 0, 0), (.goto (-43), 3, 120, 0, 0)]
theorem k_X12_loan_159 : z_chk 14 false cX12_loan 7 159 b_X12_loan_159 166 = true := by decide +kernel
def b_X12_loan_166 : List z_E := [(.aload_n 0, 1, 0, 0, 0), (.dup, 1, 0, 0, 0), (.getfield 329, 3, 14, 21, 0), (.iconst 1, 1, 0, 0, 0), (.iadd, 1, 0, 0, 0), (.putfield 329, 3, 14, 21, 0), (.aload_n 0, 1, 0, 0, 0), (.getfield 329, 3, 14, 21, 0), (.iconst 1, 1, 0, 0, 0), (.isub, 1, 0, 0, 0), (.ireturn, 1, 0, 0, 0)]
theorem k_X12_loan_166 : z_chk 14 false cX12_loan 7 166 b_X12_loan_166 183 = true := by decide +kernel
def b_X12_tell_0 : List z_E := [(.aload_n 0, 1, 0, 0, 0), (.iconst 0, 1, 0, 0, 0), (.putfield 172, 3, 14, 0, 0), (.iload_n 1, 1, 0, 0, 0), (.i2l, 1, 0, 0, 0), (.lconst 0, 1, 0, 0, 0), (.aload_n 0, 1, 0, 0, 0), (.getfield 329, 3, 14, 21, 0), (.iconst 1, 1, 0, 0, 0), (.isub, 1, 0, 0, 0), (.i2l, 1, 0, 0, 0), (.invokestatic 177, 3, 3, 0, 0), (.ifCond .eq 30, 3, 48, 0, 0), (.iload_n 2, 1, 0, 0, 0), (.i2l, 1, 0, 0, 0), (.lconst 0, 1, 0, 0, 0), (.ldc2_w 332, 3, 0, 0, 31), (.invokestatic 177, 3, 3, 0, 0), (.ifCond .eq 18, 3, 48, 0, 0), (.aload_n 0, 1, 0, 0, 0), (.getfield 160, 3, 14, 58, 2), (.bipush 32, 2, 0, 0, 0), (.iload_n 1, 1, 0, 0, 0), (.imul, 1, 0, 0, 0), (.iload_n 2, 1, 0, 0, 0), (.iadd, 1, 0, 0, 0), (.iaload, 1, 0, 0, 0), (.iconst (-1), 1, 0, 0, 0), (.if_icmp .eq 5, 3, 50, 0, 0)]
theorem k_X12_tell_0 : z_chk 14 false cX12_tell 3 0 b_X12_tell_0 48 = true := by decide +kernel
def b_X12_tell_48 : List z_E := [(.iconst 0, 1, 0, 0, 0), (.ireturn, 1, 0, 0, 0)]
theorem k_X12_tell_48 : z_chk 14 false cX12_tell 3 48 b_X12_tell_48 50 = true := by decide +kernel
def b_X12_tell_50 : List z_E := [(.aload_n 0, 1, 0, 0, 0), (.getfield 160, 3, 14, 58, 2), (.bipush 32, 2, 0, 0, 0), (.iload_n 1, 1, 0, 0, 0), (.imul, 1, 0, 0, 0), (.iload_n 2, 1, 0, 0, 0), (.iadd, 1, 0, 0, 0), (.aload_n 0, 1, 0, 0, 0), (.getfield 242, 3, 14, 14, 0), (.iastore, 1, 0, 0, 0), (.iconst 1, 1, 0, 0, 0), (.ireturn, 1, 0, 0, 0)]
theorem k_X12_tell_50 : z_chk 14 false cX12_tell 3 50 b_X12_tell_50 67 = true := by decide +kernel
def b_X12_gap_0 : List z_E := [(.aload_n 0, 1, 0, 0, 0), (.iconst 0, 1, 0, 0, 0), (.putfield 172, 3, 14, 0, 0), (.iload_n 1, 1, 0, 0, 0), (.i2l, 1, 0, 0, 0), (.lconst 0, 1, 0, 0, 0), (.ldc2_w 332, 3, 0, 0, 31), (.invokestatic 177, 3, 3, 0, 0), (.ifCond .eq 17, 3, 31, 0, 0), (.iload_n 2, 1, 0, 0, 0), (.i2l, 1, 0, 0, 0), (.lconst 0, 1, 0, 0, 0), (.aload_n 0, 1, 0, 0, 0), (.getfield 242, 3, 14, 14, 0), (.i2l, 1, 0, 0, 0), (.invokestatic 177, 3, 3, 0, 0), (.ifCond .ne 7, 3, 35, 0, 0)]
theorem k_X12_gap_0 : z_chk 14 false cX12_gap 6 0 b_X12_gap_0 31 = true := by decide +kernel
def b_X12_gap_31 : List z_E := [(.ldc2_w 334, 3, 0, 0, (-1)), (.lreturn, 1, 0, 0, 0)]
theorem k_X12_gap_31 : z_chk 14 false cX12_gap 6 31 b_X12_gap_31 35 = true := by decide +kernel
def b_X12_gap_35 : List z_E := [(.lconst 0, 1, 0, 0, 0), (.lstore_n 3, 1, 0, 0, 0), (.iconst 0, 1, 0, 0, 0), (.istore 5, 2, 0, 0, 0)]
theorem k_X12_gap_35 : z_chk 14 false cX12_gap 6 35 b_X12_gap_35 40 = true := by decide +kernel
def b_X12_gap_40 : List z_E := [(.iload 5, 2, 0, 0, 0), (.aload_n 0, 1, 0, 0, 0), (.getfield 329, 3, 14, 21, 0), (.if_icmp .ge 52, 3, 98, 0, 0), (.aload_n 0, 1, 0, 0, 0), (.getfield 157, 3, 14, 57, 2), (.iload 5, 2, 0, 0, 0), (.iaload, 1, 0, 0, 0), (.iload_n 2, 1, 0, 0, 0), (.if_icmp .gt 35, 3, 92, 0, 0), (.aload_n 0, 1, 0, 0, 0), (.getfield 160, 3, 14, 58, 2), (.bipush 32, 2, 0, 0, 0), (.iload 5, 2, 0, 0, 0), (.imul, 1, 0, 0, 0), (.iload_n 1, 1, 0, 0, 0), (.iadd, 1, 0, 0, 0), (.iaload, 1, 0, 0, 0), (.i2l, 1, 0, 0, 0), (.lconst 0, 1, 0, 0, 0), (.iload_n 2, 1, 0, 0, 0), (.i2l, 1, 0, 0, 0), (.invokestatic 177, 3, 3, 0, 0), (.ifCond .eq 13, 3, 92, 0, 0), (.lload_n 3, 1, 0, 0, 0), (.aload_n 0, 1, 0, 0, 0), (.getfield 163, 3, 14, 59, 2), (.iload 5, 2, 0, 0, 0), (.laload, 1, 0, 0, 0), (.ladd, 1, 0, 0, 0), (.lstore_n 3, 1, 0, 0, 0)]
theorem k_X12_gap_40 : z_chk 14 false cX12_gap 6 40 b_X12_gap_40 92 = true := by decide +kernel
def b_X12_gap_92 : List z_E := [(.iinc 5 1, 3, 0, 0, 0), (.goto (-55), 3, 40, 0, 0)]
theorem k_X12_gap_92 : z_chk 14 false cX12_gap 6 92 b_X12_gap_92 98 = true := by decide +kernel
def b_X12_gap_98 : List z_E := [(.lload_n 3, 1, 0, 0, 0), (.lreturn, 1, 0, 0, 0)]
theorem k_X12_gap_98 : z_chk 14 false cX12_gap 6 98 b_X12_gap_98 100 = true := by decide +kernel
def b_X12_vaultBook_0 : List z_E := [(.lconst 0, 1, 0, 0, 0), (.lstore_n 1, 1, 0, 0, 0), (.iconst 0, 1, 0, 0, 0), (.istore_n 3, 1, 0, 0, 0)]
theorem k_X12_vaultBook_0 : z_chk 14 false cX12_vaultBook 4 0 b_X12_vaultBook_0 4 = true := by decide +kernel
def b_X12_vaultBook_4 : List z_E := [(.iload_n 3, 1, 0, 0, 0), (.aload_n 0, 1, 0, 0, 0), (.getfield 199, 3, 14, 15, 0), (.if_icmp .ge 23, 3, 32, 0, 0), (.lload_n 1, 1, 0, 0, 0), (.aload_n 0, 1, 0, 0, 0), (.iload_n 3, 1, 0, 0, 0), (.aload_n 0, 1, 0, 0, 0), (.getfield 63, 3, 14, 26, 2), (.iload_n 3, 1, 0, 0, 0), (.laload, 1, 0, 0, 0), (.invokevirtual 239, 3, 3, 0, 0), (.ladd, 1, 0, 0, 0), (.lstore_n 1, 1, 0, 0, 0), (.iinc 3 1, 3, 0, 0, 0), (.goto (-25), 3, 4, 0, 0)]
theorem k_X12_vaultBook_4 : z_chk 14 false cX12_vaultBook 4 4 b_X12_vaultBook_4 32 = true := by decide +kernel
def b_X12_vaultBook_32 : List z_E := [(.lload_n 1, 1, 0, 0, 0), (.lreturn, 1, 0, 0, 0)]
theorem k_X12_vaultBook_32 : z_chk 14 false cX12_vaultBook 4 32 b_X12_vaultBook_32 34 = true := by decide +kernel
def b_X12_balances_0 : List z_E := [(.lconst 0, 1, 0, 0, 0), (.lstore_n 1, 1, 0, 0, 0), (.iconst 0, 1, 0, 0, 0), (.istore_n 3, 1, 0, 0, 0)]
theorem k_X12_balances_0 : z_chk 14 false cX12_balances 4 0 b_X12_balances_0 4 = true := by decide +kernel
def b_X12_balances_4 : List z_E := [(.iload_n 3, 1, 0, 0, 0), (.aload_n 0, 1, 0, 0, 0), (.getfield 202, 3, 14, 16, 0), (.if_icmp .ge 18, 3, 27, 0, 0), (.lload_n 1, 1, 0, 0, 0), (.aload_n 0, 1, 0, 0, 0), (.getfield 66, 3, 14, 27, 2), (.iload_n 3, 1, 0, 0, 0), (.laload, 1, 0, 0, 0), (.ladd, 1, 0, 0, 0), (.lstore_n 1, 1, 0, 0, 0), (.iinc 3 1, 3, 0, 0, 0), (.goto (-20), 3, 4, 0, 0)]
theorem k_X12_balances_4 : z_chk 14 false cX12_balances 4 4 b_X12_balances_4 27 = true := by decide +kernel
def b_X12_balances_27 : List z_E := [(.lload_n 1, 1, 0, 0, 0), (.lreturn, 1, 0, 0, 0)]
theorem k_X12_balances_27 : z_chk 14 false cX12_balances 4 27 b_X12_balances_27 29 = true := by decide +kernel
def b_X12_run_0 : List z_E := [(.aload_n 0, 1, 0, 0, 0), (.iconst 0, 1, 0, 0, 0), (.putfield 172, 3, 14, 0, 0), (.lload_n 1, 1, 0, 0, 0), (.lconst 1, 1, 0, 0, 0), (.ldc2_w 271, 3, 0, 0, 1000000000), (.invokestatic 177, 3, 3, 0, 0), (.ifCond .ne 7, 3, 20, 0, 0), (.ldc2_w 256, 3, 0, 0, (-2)), (.lreturn, 1, 0, 0, 0)]
theorem k_X12_run_0 : z_chk 14 false cX12_run 5 0 b_X12_run_0 20 = true := by decide +kernel
def b_X12_run_20 : List z_E := [(.aload_n 0, 1, 0, 0, 0), (.invokevirtual 336, 3, 1, 0, 0), (.lstore_n 3, 1, 0, 0, 0), (.lload_n 3, 1, 0, 0, 0), (.aload_n 0, 1, 0, 0, 0), (.invokevirtual 340, 3, 1, 0, 0), (.lcmp, 1, 0, 0, 0), (.ifCond .lt 9, 3, 40, 0, 0), (.ldc2_w 334, 3, 0, 0, (-1)), (.goto 10, 3, 47, 0, 0)]
theorem k_X12_run_20 : z_chk 14 false cX12_run 5 20 b_X12_run_20 40 = true := by decide +kernel
def b_X12_run_40 : List z_E := [(.lload_n 3, 1, 0, 0, 0), (.lload_n 1, 1, 0, 0, 0), (.ladd, 1, 0, 0, 0), (.lconst 1, 1, 0, 0, 0), (.lsub, 1, 0, 0, 0), (.lload_n 1, 1, 0, 0, 0), (.ldiv, 1, 0, 0, 0)]
theorem k_X12_run_40 : z_chk 14 false cX12_run 5 40 b_X12_run_40 47 = true := by decide +kernel
def b_X12_run_47 : List z_E := [(.lreturn, 1, 0, 0, 0)]
theorem k_X12_run_47 : z_chk 14 false cX12_run 5 47 b_X12_run_47 48 = true := by decide +kernel
def b_X12_accountOf_0 : List z_E := [(.aload_n 0, 1, 0, 0, 0), (.iconst 0, 1, 0, 0, 0), (.putfield 172, 3, 14, 0, 0), (.aload_n 0, 1, 0, 0, 0), (.iload_n 1, 1, 0, 0, 0), (.invokevirtual 205, 3, 2, 0, 0), (.ifCond .ne 6, 3, 16, 0, 0), (.bipush (-2), 2, 0, 0, 0), (.ireturn, 1, 0, 0, 0)]
theorem k_X12_accountOf_0 : z_chk 14 false cX12_accountOf 5 0 b_X12_accountOf_0 16 = true := by decide +kernel
def b_X12_accountOf_16 : List z_E := [(.iload_n 2, 1, 0, 0, 0), (.tableswitch 106 0 3 #[31, 37, 78, 85], 31, 17, 0, 0)]
theorem k_X12_accountOf_16 : z_chk 14 false cX12_accountOf 5 16 b_X12_accountOf_16 48 = true := by decide +kernel
def b_X12_accountOf_48 : List z_E := [(.aload_n 0, 1, 0, 0, 0), (.iload_n 1, 1, 0, 0, 0), (.invokevirtual 221, 3, 2, 0, 0), (.ireturn, 1, 0, 0, 0)]
theorem k_X12_accountOf_48 : z_chk 14 false cX12_accountOf 5 48 b_X12_accountOf_48 54 = true := by decide +kernel
def b_X12_accountOf_54 : List z_E := [(.iconst 0, 1, 0, 0, 0), (.istore_n 3, 1, 0, 0, 0), (.iconst 0, 1, 0, 0, 0), (.istore 4, 2, 0, 0, 0)]
theorem k_X12_accountOf_54 : z_chk 14 false cX12_accountOf 5 54 b_X12_accountOf_54 59 = true := by decide +kernel
def b_X12_accountOf_59 : List z_E := [(.iload 4, 2, 0, 0, 0), (.aload_n 0, 1, 0, 0, 0), (.getfield 218, 3, 14, 20, 0), (.if_icmp .ge 28, 3, 93, 0, 0), (.iload_n 3, 1, 0, 0, 0), (.aload_n 0, 1, 0, 0, 0), (.getfield 151, 3, 14, 55, 2), (.iload 4, 2, 0, 0, 0), (.iaload, 1, 0, 0, 0), (.iload_n 1, 1, 0, 0, 0), (.if_icmp .ne 7, 3, 84, 0, 0), (.iconst 1, 1, 0, 0, 0), (.goto 4, 3, 85, 0, 0)]
theorem k_X12_accountOf_59 : z_chk 14 false cX12_accountOf 5 59 b_X12_accountOf_59 84 = true := by decide +kernel
def b_X12_accountOf_84 : List z_E := [(.iconst 0, 1, 0, 0, 0)]
theorem k_X12_accountOf_84 : z_chk 14 false cX12_accountOf 5 84 b_X12_accountOf_84 85 = true := by decide +kernel
def b_X12_accountOf_85 : List z_E := [(.iadd, 1, 0, 0, 0), (.istore_n 3, 1, 0, 0, 0), (.iinc 4 1, 3, 0, 0, 0), (.goto (-31), 3, 59, 0, 0)]
theorem k_X12_accountOf_85 : z_chk 14 false cX12_accountOf 5 85 b_X12_accountOf_85 93 = true := by decide +kernel
def b_X12_accountOf_93 : List z_E := [(.iload_n 3, 1, 0, 0, 0), (.ireturn, 1, 0, 0, 0)]
theorem k_X12_accountOf_93 : z_chk 14 false cX12_accountOf 5 93 b_X12_accountOf_93 95 = true := by decide +kernel
def b_X12_accountOf_95 : List z_E := [(.aload_n 0, 1, 0, 0, 0), (.getfield 69, 3, 14, 28, 2), (.iload_n 1, 1, 0, 0, 0), (.iaload, 1, 0, 0, 0), (.ireturn, 1, 0, 0, 0)]
theorem k_X12_accountOf_95 : z_chk 14 false cX12_accountOf 5 95 b_X12_accountOf_95 102 = true := by decide +kernel
def b_X12_accountOf_102 : List z_E := [(.aload_n 0, 1, 0, 0, 0), (.getfield 69, 3, 14, 28, 2), (.iload_n 1, 1, 0, 0, 0), (.iaload, 1, 0, 0, 0), (.iconst (-1), 1, 0, 0, 0), (.if_icmp .ne 7, 3, 116, 0, 0), (.iconst (-1), 1, 0, 0, 0), (.goto 9, 3, 122, 0, 0)]
theorem k_X12_accountOf_102 : z_chk 14 false cX12_accountOf 5 102 b_X12_accountOf_102 116 = true := by decide +kernel
def b_X12_accountOf_116 : List z_E := [(.aload_n 0, 1, 0, 0, 0), (.getfield 72, 3, 14, 29, 2), (.iload_n 1, 1, 0, 0, 0), (.iaload, 1, 0, 0, 0)]
theorem k_X12_accountOf_116 : z_chk 14 false cX12_accountOf 5 116 b_X12_accountOf_116 122 = true := by decide +kernel
def b_X12_accountOf_122 : List z_E := [(.ireturn, 1, 0, 0, 0)]
theorem k_X12_accountOf_122 : z_chk 14 false cX12_accountOf 5 122 b_X12_accountOf_122 123 = true := by decide +kernel
def b_X12_accountOf_123 : List z_E := [(.bipush (-2), 2, 0, 0, 0), (.ireturn, 1, 0, 0, 0)]
theorem k_X12_accountOf_123 : z_chk 14 false cX12_accountOf 5 123 b_X12_accountOf_123 126 = true := by decide +kernel
def b_X12_folio_0 : List z_E := [(.aload_n 0, 1, 0, 0, 0), (.iconst 0, 1, 0, 0, 0), (.putfield 172, 3, 14, 0, 0), (.aload_n 0, 1, 0, 0, 0), (.iload_n 1, 1, 0, 0, 0), (.invokevirtual 205, 3, 2, 0, 0), (.ifCond .eq 7, 3, 17, 0, 0), (.iload_n 2, 1, 0, 0, 0), (.ifCond .ge 5, 3, 19, 0, 0)]
theorem k_X12_folio_0 : z_chk 14 false cX12_folio 5 0 b_X12_folio_0 17 = true := by decide +kernel
def b_X12_folio_17 : List z_E := [(.iconst (-1), 1, 0, 0, 0), (.ireturn, 1, 0, 0, 0)]
theorem k_X12_folio_17 : z_chk 14 false cX12_folio 5 17 b_X12_folio_17 19 = true := by decide +kernel
def b_X12_folio_19 : List z_E := [(.iload_n 2, 1, 0, 0, 0), (.istore_n 3, 1, 0, 0, 0), (.iconst 0, 1, 0, 0, 0), (.istore 4, 2, 0, 0, 0)]
theorem k_X12_folio_19 : z_chk 14 false cX12_folio 5 19 b_X12_folio_19 24 = true := by decide +kernel
def b_X12_folio_24 : List z_E := [(.iload 4, 2, 0, 0, 0), (.aload_n 0, 1, 0, 0, 0), (.getfield 218, 3, 14, 20, 0), (.if_icmp .ge 33, 3, 63, 0, 0), (.aload_n 0, 1, 0, 0, 0), (.getfield 151, 3, 14, 55, 2), (.iload 4, 2, 0, 0, 0), (.iaload, 1, 0, 0, 0), (.iload_n 1, 1, 0, 0, 0), (.if_icmp .eq 6, 3, 47, 0, 0), (.goto 13, 3, 57, 0, 0)]
theorem k_X12_folio_24 : z_chk 14 false cX12_folio 5 24 b_X12_folio_24 47 = true := by decide +kernel
def b_X12_folio_47 : List z_E := [(.iload_n 3, 1, 0, 0, 0), (.ifCond .ne 6, 3, 54, 0, 0), (.iload 4, 2, 0, 0, 0), (.ireturn, 1, 0, 0, 0)]
theorem k_X12_folio_47 : z_chk 14 false cX12_folio 5 47 b_X12_folio_47 54 = true := by decide +kernel
def b_X12_folio_54 : List z_E := [(.iinc 3 (-1), 3, 0, 0, 0)]
theorem k_X12_folio_54 : z_chk 14 false cX12_folio 5 54 b_X12_folio_54 57 = true := by decide +kernel
def b_X12_folio_57 : List z_E := [(.iinc 4 1, 3, 0, 0, 0), (.goto (-36), 3, 24, 0, 0)]
theorem k_X12_folio_57 : z_chk 14 false cX12_folio 5 57 b_X12_folio_57 63 = true := by decide +kernel
def b_X12_folio_63 : List z_E := [(.iconst (-1), 1, 0, 0, 0), (.ireturn, 1, 0, 0, 0)]
theorem k_X12_folio_63 : z_chk 14 false cX12_folio 5 63 b_X12_folio_63 65 = true := by decide +kernel
def b_X12_balance_0 : List z_E := [(.aload_n 0, 1, 0, 0, 0), (.iconst 0, 1, 0, 0, 0), (.putfield 172, 3, 14, 0, 0), (.aload_n 0, 1, 0, 0, 0), (.iload_n 1, 1, 0, 0, 0), (.invokevirtual 205, 3, 2, 0, 0), (.ifCond .eq 12, 3, 22, 0, 0), (.aload_n 0, 1, 0, 0, 0), (.getfield 66, 3, 14, 27, 2), (.iload_n 1, 1, 0, 0, 0), (.laload, 1, 0, 0, 0), (.goto 4, 3, 23, 0, 0)]
theorem k_X12_balance_0 : z_chk 14 false cX12_balance 2 0 b_X12_balance_0 22 = true := by decide +kernel
def b_X12_balance_22 : List z_E := [(.lconst 0, 1, 0, 0, 0)]
theorem k_X12_balance_22 : z_chk 14 false cX12_balance 2 22 b_X12_balance_22 23 = true := by decide +kernel
def b_X12_balance_23 : List z_E := [(.lreturn, 1, 0, 0, 0)]
theorem k_X12_balance_23 : z_chk 14 false cX12_balance 2 23 b_X12_balance_23 24 = true := by decide +kernel
def b_X12_written_0 : List z_E := [(.aload_n 0, 1, 0, 0, 0), (.iconst 0, 1, 0, 0, 0), (.putfield 172, 3, 14, 0, 0), (.lconst 0, 1, 0, 0, 0), (.lstore_n 2, 1, 0, 0, 0), (.iconst 0, 1, 0, 0, 0), (.istore 4, 2, 0, 0, 0)]
theorem k_X12_written_0 : z_chk 14 false cX12_written 5 0 b_X12_written_0 10 = true := by decide +kernel
def b_X12_written_10 : List z_E := [(.iload 4, 2, 0, 0, 0), (.aload_n 0, 1, 0, 0, 0), (.getfield 212, 3, 14, 19, 0), (.if_icmp .ge 52, 3, 68, 0, 0), (.aload_n 0, 1, 0, 0, 0), (.getfield 136, 3, 14, 50, 2), (.iload 4, 2, 0, 0, 0), (.iaload, 1, 0, 0, 0), (.iload_n 1, 1, 0, 0, 0), (.if_icmp .ne 35, 3, 62, 0, 0), (.lload_n 2, 1, 0, 0, 0), (.aload_n 0, 1, 0, 0, 0), (.getfield 142, 3, 14, 52, 2), (.iload 4, 2, 0, 0, 0), (.iaload, 1, 0, 0, 0), (.iconst 1, 1, 0, 0, 0), (.if_icmp .ne 13, 3, 52, 0, 0), (.aload_n 0, 1, 0, 0, 0), (.getfield 148, 3, 14, 54, 2), (.iload 4, 2, 0, 0, 0), (.laload, 1, 0, 0, 0), (.goto 11, 3, 60, 0, 0)]
theorem k_X12_written_10 : z_chk 14 false cX12_written 5 10 b_X12_written_10 52 = true := by decide +kernel
def b_X12_written_52 : List z_E := [(.aload_n 0, 1, 0, 0, 0), (.getfield 148, 3, 14, 54, 2), (.iload 4, 2, 0, 0, 0), (.laload, 1, 0, 0, 0), (.lneg, 1, 0, 0, 0)]
theorem k_X12_written_52 : z_chk 14 false cX12_written 5 52 b_X12_written_52 60 = true := by decide +kernel
def b_X12_written_60 : List z_E := [(.ladd, 1, 0, 0, 0), (.lstore_n 2, 1, 0, 0, 0)]
theorem k_X12_written_60 : z_chk 14 false cX12_written 5 60 b_X12_written_60 62 = true := by decide +kernel
def b_X12_written_62 : List z_E := [(.iinc 4 1, 3, 0, 0, 0), (.goto (-55), 3, 10, 0, 0)]
theorem k_X12_written_62 : z_chk 14 false cX12_written 5 62 b_X12_written_62 68 = true := by decide +kernel
def b_X12_written_68 : List z_E := [(.lload_n 2, 1, 0, 0, 0), (.lreturn, 1, 0, 0, 0)]
theorem k_X12_written_68 : z_chk 14 false cX12_written 5 68 b_X12_written_68 70 = true := by decide +kernel
def b_X12_line_0 : List z_E := [(.aload_n 0, 1, 0, 0, 0), (.iconst 0, 1, 0, 0, 0), (.putfield 172, 3, 14, 0, 0), (.iload_n 1, 1, 0, 0, 0), (.i2l, 1, 0, 0, 0), (.lconst 0, 1, 0, 0, 0), (.aload_n 0, 1, 0, 0, 0), (.getfield 212, 3, 14, 19, 0), (.iconst 1, 1, 0, 0, 0), (.isub, 1, 0, 0, 0), (.i2l, 1, 0, 0, 0), (.invokestatic 177, 3, 3, 0, 0), (.ifCond .ne 6, 3, 24, 0, 0), (.bipush (-2), 2, 0, 0, 0), (.ireturn, 1, 0, 0, 0)]
theorem k_X12_line_0 : z_chk 14 false cX12_line 3 0 b_X12_line_0 24 = true := by decide +kernel
def b_X12_line_24 : List z_E := [(.iload_n 2, 1, 0, 0, 0), (.tableswitch 70 0 4 #[35, 42, 49, 56, 63], 35, 25, 0, 0)]
theorem k_X12_line_24 : z_chk 14 false cX12_line 3 24 b_X12_line_24 60 = true := by decide +kernel
def b_X12_line_60 : List z_E := [(.aload_n 0, 1, 0, 0, 0), (.getfield 133, 3, 14, 49, 2), (.iload_n 1, 1, 0, 0, 0), (.iaload, 1, 0, 0, 0), (.ireturn, 1, 0, 0, 0)]
theorem k_X12_line_60 : z_chk 14 false cX12_line 3 60 b_X12_line_60 67 = true := by decide +kernel
def b_X12_line_67 : List z_E := [(.aload_n 0, 1, 0, 0, 0), (.getfield 136, 3, 14, 50, 2), (.iload_n 1, 1, 0, 0, 0), (.iaload, 1, 0, 0, 0), (.ireturn, 1, 0, 0, 0)]
theorem k_X12_line_67 : z_chk 14 false cX12_line 3 67 b_X12_line_67 74 = true := by decide +kernel
def b_X12_line_74 : List z_E := [(.aload_n 0, 1, 0, 0, 0), (.getfield 139, 3, 14, 51, 2), (.iload_n 1, 1, 0, 0, 0), (.iaload, 1, 0, 0, 0), (.ireturn, 1, 0, 0, 0)]
theorem k_X12_line_74 : z_chk 14 false cX12_line 3 74 b_X12_line_74 81 = true := by decide +kernel
def b_X12_line_81 : List z_E := [(.aload_n 0, 1, 0, 0, 0), (.getfield 142, 3, 14, 52, 2), (.iload_n 1, 1, 0, 0, 0), (.iaload, 1, 0, 0, 0), (.ireturn, 1, 0, 0, 0)]
theorem k_X12_line_81 : z_chk 14 false cX12_line 3 81 b_X12_line_81 88 = true := by decide +kernel
def b_X12_line_88 : List z_E := [(.aload_n 0, 1, 0, 0, 0), (.getfield 145, 3, 14, 53, 2), (.iload_n 1, 1, 0, 0, 0), (.iaload, 1, 0, 0, 0), (.ireturn, 1, 0, 0, 0)]
theorem k_X12_line_88 : z_chk 14 false cX12_line 3 88 b_X12_line_88 95 = true := by decide +kernel
def b_X12_line_95 : List z_E := [(.bipush (-2), 2, 0, 0, 0), (.ireturn, 1, 0, 0, 0)]
theorem k_X12_line_95 : z_chk 14 false cX12_line 3 95 b_X12_line_95 98 = true := by decide +kernel
def b_X12_lineSum_0 : List z_E := [(.aload_n 0, 1, 0, 0, 0), (.iconst 0, 1, 0, 0, 0), (.putfield 172, 3, 14, 0, 0), (.iload_n 1, 1, 0, 0, 0), (.i2l, 1, 0, 0, 0), (.lconst 0, 1, 0, 0, 0), (.aload_n 0, 1, 0, 0, 0), (.getfield 212, 3, 14, 19, 0), (.iconst 1, 1, 0, 0, 0), (.isub, 1, 0, 0, 0), (.i2l, 1, 0, 0, 0), (.invokestatic 177, 3, 3, 0, 0), (.ifCond .eq 12, 3, 30, 0, 0), (.aload_n 0, 1, 0, 0, 0), (.getfield 148, 3, 14, 54, 2), (.iload_n 1, 1, 0, 0, 0), (.laload, 1, 0, 0, 0), (.goto 4, 3, 31, 0, 0)]
theorem k_X12_lineSum_0 : z_chk 14 false cX12_lineSum 2 0 b_X12_lineSum_0 30 = true := by decide +kernel
def b_X12_lineSum_30 : List z_E := [(.lconst 0, 1, 0, 0, 0)]
theorem k_X12_lineSum_30 : z_chk 14 false cX12_lineSum 2 30 b_X12_lineSum_30 31 = true := by decide +kernel
def b_X12_lineSum_31 : List z_E := [(.lreturn, 1, 0, 0, 0)]
theorem k_X12_lineSum_31 : z_chk 14 false cX12_lineSum 2 31 b_X12_lineSum_31 32 = true := by decide +kernel
def b_X12_orderOf_0 : List z_E := [(.aload_n 0, 1, 0, 0, 0), (.iconst 0, 1, 0, 0, 0), (.putfield 172, 3, 14, 0, 0), (.iload_n 1, 1, 0, 0, 0), (.i2l, 1, 0, 0, 0), (.lconst 0, 1, 0, 0, 0), (.aload_n 0, 1, 0, 0, 0), (.getfield 215, 3, 14, 18, 0), (.iconst 1, 1, 0, 0, 0), (.isub, 1, 0, 0, 0), (.i2l, 1, 0, 0, 0), (.invokestatic 177, 3, 3, 0, 0), (.ifCond .ne 6, 3, 24, 0, 0), (.bipush (-2), 2, 0, 0, 0), (.ireturn, 1, 0, 0, 0)]
theorem k_X12_orderOf_0 : z_chk 14 false cX12_orderOf 3 0 b_X12_orderOf_0 24 = true := by decide +kernel
def b_X12_orderOf_24 : List z_E := [(.iload_n 2, 1, 0, 0, 0), (.tableswitch 100 0 6 #[43, 50, 57, 64, 71, 78, 85], 43, 25, 0, 0)]
theorem k_X12_orderOf_24 : z_chk 14 false cX12_orderOf 3 24 b_X12_orderOf_24 68 = true := by decide +kernel
def b_X12_orderOf_68 : List z_E := [(.aload_n 0, 1, 0, 0, 0), (.getfield 96, 3, 14, 37, 2), (.iload_n 1, 1, 0, 0, 0), (.iaload, 1, 0, 0, 0), (.ireturn, 1, 0, 0, 0)]
theorem k_X12_orderOf_68 : z_chk 14 false cX12_orderOf 3 68 b_X12_orderOf_68 75 = true := by decide +kernel
def b_X12_orderOf_75 : List z_E := [(.aload_n 0, 1, 0, 0, 0), (.getfield 99, 3, 14, 38, 2), (.iload_n 1, 1, 0, 0, 0), (.iaload, 1, 0, 0, 0), (.ireturn, 1, 0, 0, 0)]
theorem k_X12_orderOf_75 : z_chk 14 false cX12_orderOf 3 75 b_X12_orderOf_75 82 = true := by decide +kernel
def b_X12_orderOf_82 : List z_E := [(.aload_n 0, 1, 0, 0, 0), (.getfield 102, 3, 14, 39, 2), (.iload_n 1, 1, 0, 0, 0), (.iaload, 1, 0, 0, 0), (.ireturn, 1, 0, 0, 0)]
theorem k_X12_orderOf_82 : z_chk 14 false cX12_orderOf 3 82 b_X12_orderOf_82 89 = true := by decide +kernel
def b_X12_orderOf_89 : List z_E := [(.aload_n 0, 1, 0, 0, 0), (.getfield 105, 3, 14, 40, 2), (.iload_n 1, 1, 0, 0, 0), (.iaload, 1, 0, 0, 0), (.ireturn, 1, 0, 0, 0)]
theorem k_X12_orderOf_89 : z_chk 14 false cX12_orderOf 3 89 b_X12_orderOf_89 96 = true := by decide +kernel
def b_X12_orderOf_96 : List z_E := [(.aload_n 0, 1, 0, 0, 0), (.getfield 111, 3, 14, 42, 2), (.iload_n 1, 1, 0, 0, 0), (.iaload, 1, 0, 0, 0), (.ireturn, 1, 0, 0, 0)]
theorem k_X12_orderOf_96 : z_chk 14 false cX12_orderOf 3 96 b_X12_orderOf_96 103 = true := by decide +kernel
def b_X12_orderOf_103 : List z_E := [(.aload_n 0, 1, 0, 0, 0), (.getfield 114, 3, 14, 43, 2), (.iload_n 1, 1, 0, 0, 0), (.iaload, 1, 0, 0, 0), (.ireturn, 1, 0, 0, 0)]
theorem k_X12_orderOf_103 : z_chk 14 false cX12_orderOf 3 103 b_X12_orderOf_103 110 = true := by decide +kernel
def b_X12_orderOf_110 : List z_E := [(.aload_n 0, 1, 0, 0, 0), (.getfield 129, 3, 14, 48, 2), (.iload_n 1, 1, 0, 0, 0), (.baload, 1, 0, 0, 0), (.ifCond .eq 7, 3, 123, 0, 0), (.iconst 1, 1, 0, 0, 0), (.goto 4, 3, 124, 0, 0)]
theorem k_X12_orderOf_110 : z_chk 14 false cX12_orderOf 3 110 b_X12_orderOf_110 123 = true := by decide +kernel
def b_X12_orderOf_123 : List z_E := [(.iconst 0, 1, 0, 0, 0)]
theorem k_X12_orderOf_123 : z_chk 14 false cX12_orderOf 3 123 b_X12_orderOf_123 124 = true := by decide +kernel
def b_X12_orderOf_124 : List z_E := [(.ireturn, 1, 0, 0, 0)]
theorem k_X12_orderOf_124 : z_chk 14 false cX12_orderOf 3 124 b_X12_orderOf_124 125 = true := by decide +kernel
def b_X12_orderOf_125 : List z_E := [(.bipush (-2), 2, 0, 0, 0), (.ireturn, 1, 0, 0, 0)]
theorem k_X12_orderOf_125 : z_chk 14 false cX12_orderOf 3 125 b_X12_orderOf_125 128 = true := by decide +kernel
def b_X12_receipt_0 : List z_E := [(.aload_n 0, 1, 0, 0, 0), (.iconst 0, 1, 0, 0, 0), (.putfield 172, 3, 14, 0, 0), (.iload_n 1, 1, 0, 0, 0), (.i2l, 1, 0, 0, 0), (.lconst 0, 1, 0, 0, 0), (.aload_n 0, 1, 0, 0, 0), (.getfield 228, 3, 14, 17, 0), (.iconst 1, 1, 0, 0, 0), (.isub, 1, 0, 0, 0), (.i2l, 1, 0, 0, 0), (.invokestatic 177, 3, 3, 0, 0), (.ifCond .ne 6, 3, 24, 0, 0), (.bipush (-2), 2, 0, 0, 0), (.ireturn, 1, 0, 0, 0)]
theorem k_X12_receipt_0 : z_chk 14 false cX12_receipt 3 0 b_X12_receipt_0 24 = true := by decide +kernel
def b_X12_receipt_24 : List z_E := [(.iload_n 2, 1, 0, 0, 0), (.tableswitch 82 0 5 #[39, 46, 53, 60, 68, 75], 39, 25, 0, 0)]
theorem k_X12_receipt_24 : z_chk 14 false cX12_receipt 3 24 b_X12_receipt_24 64 = true := by decide +kernel
def b_X12_receipt_64 : List z_E := [(.aload_n 0, 1, 0, 0, 0), (.getfield 75, 3, 14, 30, 2), (.iload_n 1, 1, 0, 0, 0), (.iaload, 1, 0, 0, 0), (.ireturn, 1, 0, 0, 0)]
theorem k_X12_receipt_64 : z_chk 14 false cX12_receipt 3 64 b_X12_receipt_64 71 = true := by decide +kernel
def b_X12_receipt_71 : List z_E := [(.aload_n 0, 1, 0, 0, 0), (.getfield 78, 3, 14, 31, 2), (.iload_n 1, 1, 0, 0, 0), (.iaload, 1, 0, 0, 0), (.ireturn, 1, 0, 0, 0)]
theorem k_X12_receipt_71 : z_chk 14 false cX12_receipt 3 71 b_X12_receipt_71 78 = true := by decide +kernel
def b_X12_receipt_78 : List z_E := [(.aload_n 0, 1, 0, 0, 0), (.getfield 81, 3, 14, 32, 2), (.iload_n 1, 1, 0, 0, 0), (.iaload, 1, 0, 0, 0), (.ireturn, 1, 0, 0, 0)]
theorem k_X12_receipt_78 : z_chk 14 false cX12_receipt 3 78 b_X12_receipt_78 85 = true := by decide +kernel
def b_X12_receipt_85 : List z_E := [(.aload_n 0, 1, 0, 0, 0), (.getfield 90, 3, 14, 35, 2), (.iload_n 1, 1, 0, 0, 0), (.laload, 1, 0, 0, 0), (.l2i, 1, 0, 0, 0), (.ireturn, 1, 0, 0, 0)]
theorem k_X12_receipt_85 : z_chk 14 false cX12_receipt 3 85 b_X12_receipt_85 93 = true := by decide +kernel
def b_X12_receipt_93 : List z_E := [(.aload_n 0, 1, 0, 0, 0), (.getfield 84, 3, 14, 33, 2), (.iload_n 1, 1, 0, 0, 0), (.iaload, 1, 0, 0, 0), (.ireturn, 1, 0, 0, 0)]
theorem k_X12_receipt_93 : z_chk 14 false cX12_receipt 3 93 b_X12_receipt_93 100 = true := by decide +kernel
def b_X12_receipt_100 : List z_E := [(.aload_n 0, 1, 0, 0, 0), (.getfield 87, 3, 14, 34, 2), (.iload_n 1, 1, 0, 0, 0), (.iaload, 1, 0, 0, 0), (.ireturn, 1, 0, 0, 0)]
theorem k_X12_receipt_100 : z_chk 14 false cX12_receipt 3 100 b_X12_receipt_100 107 = true := by decide +kernel
def b_X12_receipt_107 : List z_E := [(.bipush (-2), 2, 0, 0, 0), (.ireturn, 1, 0, 0, 0)]
theorem k_X12_receipt_107 : z_chk 14 false cX12_receipt 3 107 b_X12_receipt_107 110 = true := by decide +kernel
def b_X12_book_0 : List z_E := [(.aload_n 0, 1, 0, 0, 0), (.iconst 0, 1, 0, 0, 0), (.putfield 172, 3, 14, 0, 0), (.iload_n 1, 1, 0, 0, 0), (.i2l, 1, 0, 0, 0), (.lconst 0, 1, 0, 0, 0), (.aload_n 0, 1, 0, 0, 0), (.getfield 228, 3, 14, 17, 0), (.iconst 1, 1, 0, 0, 0), (.isub, 1, 0, 0, 0), (.i2l, 1, 0, 0, 0), (.invokestatic 177, 3, 3, 0, 0), (.ifCond .eq 12, 3, 30, 0, 0), (.aload_n 0, 1, 0, 0, 0), (.getfield 93, 3, 14, 36, 2), (.iload_n 1, 1, 0, 0, 0), (.laload, 1, 0, 0, 0), (.goto 4, 3, 31, 0, 0)]
theorem k_X12_book_0 : z_chk 14 false cX12_book 2 0 b_X12_book_0 30 = true := by decide +kernel
def b_X12_book_30 : List z_E := [(.lconst 0, 1, 0, 0, 0)]
theorem k_X12_book_30 : z_chk 14 false cX12_book 2 30 b_X12_book_30 31 = true := by decide +kernel
def b_X12_book_31 : List z_E := [(.lreturn, 1, 0, 0, 0)]
theorem k_X12_book_31 : z_chk 14 false cX12_book 2 31 b_X12_book_31 32 = true := by decide +kernel
def b_X12_vault_0 : List z_E := [(.aload_n 0, 1, 0, 0, 0), (.iconst 0, 1, 0, 0, 0), (.putfield 172, 3, 14, 0, 0), (.aload_n 0, 1, 0, 0, 0), (.iload_n 1, 1, 0, 0, 0), (.invokevirtual 225, 3, 2, 0, 0), (.ifCond .ne 7, 3, 17, 0, 0), (.ldc2_w 334, 3, 0, 0, (-1)), (.lreturn, 1, 0, 0, 0)]
theorem k_X12_vault_0 : z_chk 14 false cX12_vault 3 0 b_X12_vault_0 17 = true := by decide +kernel
def b_X12_vault_17 : List z_E := [(.iload_n 2, 1, 0, 0, 0), (.ifCond .ne 12, 3, 30, 0, 0), (.aload_n 0, 1, 0, 0, 0), (.getfield 60, 3, 14, 25, 2), (.iload_n 1, 1, 0, 0, 0), (.laload, 1, 0, 0, 0), (.goto 39, 3, 66, 0, 0)]
theorem k_X12_vault_17 : z_chk 14 false cX12_vault 3 17 b_X12_vault_17 30 = true := by decide +kernel
def b_X12_vault_30 : List z_E := [(.iload_n 2, 1, 0, 0, 0), (.iconst 1, 1, 0, 0, 0), (.if_icmp .ne 12, 3, 44, 0, 0), (.aload_n 0, 1, 0, 0, 0), (.getfield 63, 3, 14, 26, 2), (.iload_n 1, 1, 0, 0, 0), (.laload, 1, 0, 0, 0), (.goto 25, 3, 66, 0, 0)]
theorem k_X12_vault_30 : z_chk 14 false cX12_vault 3 30 b_X12_vault_30 44 = true := by decide +kernel
def b_X12_vault_44 : List z_E := [(.iload_n 2, 1, 0, 0, 0), (.iconst 2, 1, 0, 0, 0), (.if_icmp .ne 17, 3, 63, 0, 0), (.aload_n 0, 1, 0, 0, 0), (.iload_n 1, 1, 0, 0, 0), (.aload_n 0, 1, 0, 0, 0), (.getfield 63, 3, 14, 26, 2), (.iload_n 1, 1, 0, 0, 0), (.laload, 1, 0, 0, 0), (.invokevirtual 239, 3, 3, 0, 0), (.goto 6, 3, 66, 0, 0)]
theorem k_X12_vault_44 : z_chk 14 false cX12_vault 3 44 b_X12_vault_44 63 = true := by decide +kernel
def b_X12_vault_63 : List z_E := [(.ldc2_w 334, 3, 0, 0, (-1))]
theorem k_X12_vault_63 : z_chk 14 false cX12_vault 3 63 b_X12_vault_63 66 = true := by decide +kernel
def b_X12_vault_66 : List z_E := [(.lreturn, 1, 0, 0, 0)]
theorem k_X12_vault_66 : z_chk 14 false cX12_vault 3 66 b_X12_vault_66 67 = true := by decide +kernel
def b_X12_count_0 : List z_E := [(.aload_n 0, 1, 0, 0, 0), (.iconst 0, 1, 0, 0, 0), (.putfield 172, 3, 14, 0, 0), (.iconst 0, 1, 0, 0, 0), (.istore_n 2, 1, 0, 0, 0), (.iload_n 1, 1, 0, 0, 0), (.tableswitch 172 0 10 #[60, 65, 70, 75, 80, 115, 120, 125, 130, 135, 140], 60, 8, 0, 0)]
theorem k_X12_count_0 : z_chk 14 false cX12_count 4 0 b_X12_count_0 68 = true := by decide +kernel
def b_X12_count_68 : List z_E := [(.aload_n 0, 1, 0, 0, 0), (.getfield 242, 3, 14, 14, 0), (.ireturn, 1, 0, 0, 0)]
theorem k_X12_count_68 : z_chk 14 false cX12_count 4 68 b_X12_count_68 73 = true := by decide +kernel
def b_X12_count_73 : List z_E := [(.aload_n 0, 1, 0, 0, 0), (.getfield 199, 3, 14, 15, 0), (.ireturn, 1, 0, 0, 0)]
theorem k_X12_count_73 : z_chk 14 false cX12_count 4 73 b_X12_count_73 78 = true := by decide +kernel
def b_X12_count_78 : List z_E := [(.aload_n 0, 1, 0, 0, 0), (.getfield 202, 3, 14, 16, 0), (.ireturn, 1, 0, 0, 0)]
theorem k_X12_count_78 : z_chk 14 false cX12_count 4 78 b_X12_count_78 83 = true := by decide +kernel
def b_X12_count_83 : List z_E := [(.aload_n 0, 1, 0, 0, 0), (.getfield 215, 3, 14, 18, 0), (.ireturn, 1, 0, 0, 0)]
theorem k_X12_count_83 : z_chk 14 false cX12_count 4 83 b_X12_count_83 88 = true := by decide +kernel
def b_X12_count_88 : List z_E := [(.iconst 0, 1, 0, 0, 0), (.istore_n 3, 1, 0, 0, 0)]
theorem k_X12_count_88 : z_chk 14 false cX12_count 4 88 b_X12_count_88 90 = true := by decide +kernel
def b_X12_count_90 : List z_E := [(.iload_n 3, 1, 0, 0, 0), (.aload_n 0, 1, 0, 0, 0), (.getfield 215, 3, 14, 18, 0), (.if_icmp .ge 26, 3, 121, 0, 0), (.iload_n 2, 1, 0, 0, 0), (.aload_n 0, 1, 0, 0, 0), (.getfield 111, 3, 14, 42, 2), (.iload_n 3, 1, 0, 0, 0), (.iaload, 1, 0, 0, 0), (.ifCond .ne 7, 3, 112, 0, 0), (.iconst 1, 1, 0, 0, 0), (.goto 4, 3, 113, 0, 0)]
theorem k_X12_count_90 : z_chk 14 false cX12_count 4 90 b_X12_count_90 112 = true := by decide +kernel
def b_X12_count_112 : List z_E := [(.iconst 0, 1, 0, 0, 0)]
theorem k_X12_count_112 : z_chk 14 false cX12_count 4 112 b_X12_count_112 113 = true := by decide +kernel
def b_X12_count_113 : List z_E := [(.iadd, 1, 0, 0, 0), (.istore_n 2, 1, 0, 0, 0), (.iinc 3 1, 3, 0, 0, 0), (.goto (-28), 3, 90, 0, 0)]
theorem k_X12_count_113 : z_chk 14 false cX12_count 4 113 b_X12_count_113 121 = true := by decide +kernel
def b_X12_count_121 : List z_E := [(.iload_n 2, 1, 0, 0, 0), (.ireturn, 1, 0, 0, 0)]
theorem k_X12_count_121 : z_chk 14 false cX12_count 4 121 b_X12_count_121 123 = true := by decide +kernel
def b_X12_count_123 : List z_E := [(.aload_n 0, 1, 0, 0, 0), (.getfield 228, 3, 14, 17, 0), (.ireturn, 1, 0, 0, 0)]
theorem k_X12_count_123 : z_chk 14 false cX12_count 4 123 b_X12_count_123 128 = true := by decide +kernel
def b_X12_count_128 : List z_E := [(.aload_n 0, 1, 0, 0, 0), (.getfield 212, 3, 14, 19, 0), (.ireturn, 1, 0, 0, 0)]
theorem k_X12_count_128 : z_chk 14 false cX12_count 4 128 b_X12_count_128 133 = true := by decide +kernel
def b_X12_count_133 : List z_E := [(.aload_n 0, 1, 0, 0, 0), (.getfield 218, 3, 14, 20, 0), (.ireturn, 1, 0, 0, 0)]
theorem k_X12_count_133 : z_chk 14 false cX12_count 4 133 b_X12_count_133 138 = true := by decide +kernel
def b_X12_count_138 : List z_E := [(.aload_n 0, 1, 0, 0, 0), (.getfield 48, 3, 14, 13, 0), (.ireturn, 1, 0, 0, 0)]
theorem k_X12_count_138 : z_chk 14 false cX12_count 4 138 b_X12_count_138 143 = true := by decide +kernel
def b_X12_count_143 : List z_E := [(.aload_n 0, 1, 0, 0, 0), (.getfield 329, 3, 14, 21, 0), (.ireturn, 1, 0, 0, 0)]
theorem k_X12_count_143 : z_chk 14 false cX12_count 4 143 b_X12_count_143 148 = true := by decide +kernel
def b_X12_count_148 : List z_E := [(.iconst 0, 1, 0, 0, 0), (.istore_n 3, 1, 0, 0, 0)]
theorem k_X12_count_148 : z_chk 14 false cX12_count 4 148 b_X12_count_148 150 = true := by decide +kernel
def b_X12_count_150 : List z_E := [(.iload_n 3, 1, 0, 0, 0), (.iconst 4, 1, 0, 0, 0), (.if_icmp .ge 26, 3, 178, 0, 0), (.iload_n 2, 1, 0, 0, 0), (.aload_n 0, 1, 0, 0, 0), (.getfield 9, 3, 14, 1, 2), (.iload_n 3, 1, 0, 0, 0), (.iaload, 1, 0, 0, 0), (.ifCond .lt 7, 3, 169, 0, 0), (.iconst 1, 1, 0, 0, 0), (.goto 4, 3, 170, 0, 0)]
theorem k_X12_count_150 : z_chk 14 false cX12_count 4 150 b_X12_count_150 169 = true := by decide +kernel
def b_X12_count_169 : List z_E := [(.iconst 0, 1, 0, 0, 0)]
theorem k_X12_count_169 : z_chk 14 false cX12_count 4 169 b_X12_count_169 170 = true := by decide +kernel
def b_X12_count_170 : List z_E := [(.iadd, 1, 0, 0, 0), (.istore_n 2, 1, 0, 0, 0), (.iinc 3 1, 3, 0, 0, 0), (.goto (-25), 3, 150, 0, 0)]
theorem k_X12_count_170 : z_chk 14 false cX12_count 4 170 b_X12_count_170 178 = true := by decide +kernel
def b_X12_count_178 : List z_E := [(.iload_n 2, 1, 0, 0, 0), (.ireturn, 1, 0, 0, 0)]
theorem k_X12_count_178 : z_chk 14 false cX12_count 4 178 b_X12_count_178 180 = true := by decide +kernel
def b_X12_count_180 : List z_E := [(.iconst (-1), 1, 0, 0, 0), (.ireturn, 1, 0, 0, 0)]
theorem k_X12_count_180 : z_chk 14 false cX12_count 4 180 b_X12_count_180 182 = true := by decide +kernel
def b_X12_sum_0 : List z_E := [(.aload_n 0, 1, 0, 0, 0), (.iconst 0, 1, 0, 0, 0), (.putfield 172, 3, 14, 0, 0), (.iload_n 1, 1, 0, 0, 0), (.tableswitch 59 0 4 #[34, 39, 44, 49, 54], 34, 6, 0, 0)]
theorem k_X12_sum_0 : z_chk 14 false cX12_sum 2 0 b_X12_sum_0 40 = true := by decide +kernel
def b_X12_sum_40 : List z_E := [(.aload_n 0, 1, 0, 0, 0), (.invokevirtual 340, 3, 1, 0, 0), (.lreturn, 1, 0, 0, 0)]
theorem k_X12_sum_40 : z_chk 14 false cX12_sum 2 40 b_X12_sum_40 45 = true := by decide +kernel
def b_X12_sum_45 : List z_E := [(.aload_n 0, 1, 0, 0, 0), (.invokevirtual 336, 3, 1, 0, 0), (.lreturn, 1, 0, 0, 0)]
theorem k_X12_sum_45 : z_chk 14 false cX12_sum 2 45 b_X12_sum_45 50 = true := by decide +kernel
def b_X12_sum_50 : List z_E := [(.aload_n 0, 1, 0, 0, 0), (.getfield 264, 3, 14, 64, 1), (.lreturn, 1, 0, 0, 0)]
theorem k_X12_sum_50 : z_chk 14 false cX12_sum 2 50 b_X12_sum_50 55 = true := by decide +kernel
def b_X12_sum_55 : List z_E := [(.aload_n 0, 1, 0, 0, 0), (.getfield 304, 3, 14, 65, 1), (.lreturn, 1, 0, 0, 0)]
theorem k_X12_sum_55 : z_chk 14 false cX12_sum 2 55 b_X12_sum_55 60 = true := by decide +kernel
def b_X12_sum_60 : List z_E := [(.aload_n 0, 1, 0, 0, 0), (.getfield 307, 3, 14, 66, 1), (.lreturn, 1, 0, 0, 0)]
theorem k_X12_sum_60 : z_chk 14 false cX12_sum 2 60 b_X12_sum_60 65 = true := by decide +kernel
def b_X12_sum_65 : List z_E := [(.lconst 0, 1, 0, 0, 0), (.lreturn, 1, 0, 0, 0)]
theorem k_X12_sum_65 : z_chk 14 false cX12_sum 2 65 b_X12_sum_65 67 = true := by decide +kernel
def b_J9_max_7cf53_0 : List z_E := [(.iload_n 0, 1, 0, 0, 0), (.iload_n 1, 1, 0, 0, 0), (.if_icmp .lt 7, 3, 9, 0, 0), (.iload_n 0, 1, 0, 0, 0), (.goto 4, 3, 10, 0, 0)]
theorem k_J9_max_7cf53_0 : z_chk 15 false cJ9_max_7cf53 2 0 b_J9_max_7cf53_0 9 = true := by decide +kernel
def b_J9_max_7cf53_9 : List z_E := [(.iload_n 1, 1, 0, 0, 0)]
theorem k_J9_max_7cf53_9 : z_chk 15 false cJ9_max_7cf53 2 9 b_J9_max_7cf53_9 10 = true := by decide +kernel
def b_J9_max_7cf53_10 : List z_E := [(.ireturn, 1, 0, 0, 0)]
theorem k_J9_max_7cf53_10 : z_chk 15 false cJ9_max_7cf53 2 10 b_J9_max_7cf53_10 11 = true := by decide +kernel
def b_J9_max_f86c9_0 : List z_E := [(.lload_n 0, 1, 0, 0, 0), (.lload_n 2, 1, 0, 0, 0), (.lcmp, 1, 0, 0, 0), (.ifCond .lt 7, 3, 10, 0, 0), (.lload_n 0, 1, 0, 0, 0), (.goto 4, 3, 11, 0, 0)]
theorem k_J9_max_f86c9_0 : z_chk 15 false cJ9_max_f86c9 4 0 b_J9_max_f86c9_0 10 = true := by decide +kernel
def b_J9_max_f86c9_10 : List z_E := [(.lload_n 2, 1, 0, 0, 0)]
theorem k_J9_max_f86c9_10 : z_chk 15 false cJ9_max_f86c9 4 10 b_J9_max_f86c9_10 11 = true := by decide +kernel
def b_J9_max_f86c9_11 : List z_E := [(.lreturn, 1, 0, 0, 0)]
theorem k_J9_max_f86c9_11 : z_chk 15 false cJ9_max_f86c9 4 11 b_J9_max_f86c9_11 12 = true := by decide +kernel
def b_J9_min_7cf53_0 : List z_E := [(.iload_n 0, 1, 0, 0, 0), (.iload_n 1, 1, 0, 0, 0), (.if_icmp .gt 7, 3, 9, 0, 0), (.iload_n 0, 1, 0, 0, 0), (.goto 4, 3, 10, 0, 0)]
theorem k_J9_min_7cf53_0 : z_chk 15 false cJ9_min_7cf53 2 0 b_J9_min_7cf53_0 9 = true := by decide +kernel
def b_J9_min_7cf53_9 : List z_E := [(.iload_n 1, 1, 0, 0, 0)]
theorem k_J9_min_7cf53_9 : z_chk 15 false cJ9_min_7cf53 2 9 b_J9_min_7cf53_9 10 = true := by decide +kernel
def b_J9_min_7cf53_10 : List z_E := [(.ireturn, 1, 0, 0, 0)]
theorem k_J9_min_7cf53_10 : z_chk 15 false cJ9_min_7cf53 2 10 b_J9_min_7cf53_10 11 = true := by decide +kernel
def b_J9_min_f86c9_0 : List z_E := [(.lload_n 0, 1, 0, 0, 0), (.lload_n 2, 1, 0, 0, 0), (.lcmp, 1, 0, 0, 0), (.ifCond .gt 7, 3, 10, 0, 0), (.lload_n 0, 1, 0, 0, 0), (.goto 4, 3, 11, 0, 0)]
theorem k_J9_min_f86c9_0 : z_chk 15 false cJ9_min_f86c9 4 0 b_J9_min_f86c9_0 10 = true := by decide +kernel
def b_J9_min_f86c9_10 : List z_E := [(.lload_n 2, 1, 0, 0, 0)]
theorem k_J9_min_f86c9_10 : z_chk 15 false cJ9_min_f86c9 4 10 b_J9_min_f86c9_10 11 = true := by decide +kernel
def b_J9_min_f86c9_11 : List z_E := [(.lreturn, 1, 0, 0, 0)]
theorem k_J9_min_f86c9_11 : z_chk 15 false cJ9_min_f86c9 4 11 b_J9_min_f86c9_11 12 = true := by decide +kernel
