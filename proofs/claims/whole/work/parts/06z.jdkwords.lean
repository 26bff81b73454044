/-! the JDK's methods: ArrayList, Integer, copies -/
theorem dJx4a65c_init_da8c8_0 : decode cJx4a65c_init_da8c8 0 = .ok (.aload_n 0, 1) := by decide +kernel
theorem dJx4a65c_init_da8c8_1 : decode cJx4a65c_init_da8c8 1 = .ok (.invokespecial 1, 3) := by decide +kernel
theorem dJx4a65c_init_da8c8_4 : decode cJx4a65c_init_da8c8 4 = .ok (.aload_n 0, 1) := by decide +kernel
theorem dJx4a65c_init_da8c8_5 : decode cJx4a65c_init_da8c8 5 = .ok (.getstatic 39, 3) := by decide +kernel
theorem dJx4a65c_init_da8c8_8 : decode cJx4a65c_init_da8c8 8 = .ok (.putfield 9, 3) := by decide +kernel
theorem dJx4a65c_init_da8c8_11 : decode cJx4a65c_init_da8c8 11 = .ok (.return_, 1) := by decide +kernel
theorem dJxc12de_init_da8c8_0 : decode cJxc12de_init_da8c8 0 = .ok (.aload_n 0, 1) := by decide +kernel
theorem dJxc12de_init_da8c8_1 : decode cJxc12de_init_da8c8 1 = .ok (.invokespecial 1, 3) := by decide +kernel
theorem dJxc12de_init_da8c8_4 : decode cJxc12de_init_da8c8 4 = .ok (.aload_n 0, 1) := by decide +kernel
theorem dJxc12de_init_da8c8_5 : decode cJxc12de_init_da8c8 5 = .ok (.iconst 0, 1) := by decide +kernel
theorem dJxc12de_init_da8c8_6 : decode cJxc12de_init_da8c8 6 = .ok (.putfield 7, 3) := by decide +kernel
theorem dJxc12de_init_da8c8_9 : decode cJxc12de_init_da8c8 9 = .ok (.return_, 1) := by decide +kernel
theorem dJxa1e45_init_da8c8_0 : decode cJxa1e45_init_da8c8 0 = .ok (.aload_n 0, 1) := by decide +kernel
theorem dJxa1e45_init_da8c8_1 : decode cJxa1e45_init_da8c8 1 = .ok (.invokespecial 1, 3) := by decide +kernel
theorem dJxa1e45_init_da8c8_4 : decode cJxa1e45_init_da8c8 4 = .ok (.return_, 1) := by decide +kernel
theorem dJx4a65c_size_8abf5_0 : decode cJx4a65c_size_8abf5 0 = .ok (.aload_n 0, 1) := by decide +kernel
theorem dJx4a65c_size_8abf5_1 : decode cJx4a65c_size_8abf5 1 = .ok (.getfield 48, 3) := by decide +kernel
theorem dJx4a65c_size_8abf5_4 : decode cJx4a65c_size_8abf5 4 = .ok (.ireturn, 1) := by decide +kernel
theorem dJx4a65c_get_915e3_0 : decode cJx4a65c_get_915e3 0 = .ok (.iload_n 1, 1) := by decide +kernel
theorem dJx4a65c_get_915e3_1 : decode cJx4a65c_get_915e3 1 = .ok (.aload_n 0, 1) := by decide +kernel
theorem dJx4a65c_get_915e3_2 : decode cJx4a65c_get_915e3 2 = .ok (.getfield 48, 3) := by decide +kernel
theorem dJx4a65c_get_915e3_5 : decode cJx4a65c_get_915e3 5 = .ok (.invokestatic 118, 3) := by decide +kernel
theorem dJx4a65c_get_915e3_8 : decode cJx4a65c_get_915e3 8 = .ok (.pop, 1) := by decide +kernel
theorem dJx4a65c_get_915e3_9 : decode cJx4a65c_get_915e3 9 = .ok (.aload_n 0, 1) := by decide +kernel
theorem dJx4a65c_get_915e3_10 : decode cJx4a65c_get_915e3 10 = .ok (.iload_n 1, 1) := by decide +kernel
theorem dJx4a65c_get_915e3_11 : decode cJx4a65c_get_915e3 11 = .ok (.invokevirtual 123, 3) := by decide +kernel
theorem dJx4a65c_get_915e3_14 : decode cJx4a65c_get_915e3 14 = .ok (.areturn, 1) := by decide +kernel
theorem dJx4a65c_elementData_915e3_0 : decode cJx4a65c_elementData_915e3 0 = .ok (.aload_n 0, 1) := by decide +kernel
theorem dJx4a65c_elementData_915e3_1 : decode cJx4a65c_elementData_915e3 1 = .ok (.getfield 9, 3) := by decide +kernel
theorem dJx4a65c_elementData_915e3_4 : decode cJx4a65c_elementData_915e3 4 = .ok (.iload_n 1, 1) := by decide +kernel
theorem dJx4a65c_elementData_915e3_5 : decode cJx4a65c_elementData_915e3 5 = .ok (.aaload, 1) := by decide +kernel
theorem dJx4a65c_elementData_915e3_6 : decode cJx4a65c_elementData_915e3 6 = .ok (.areturn, 1) := by decide +kernel
theorem dJ15_checkIndex_7cf53_0 : decode cJ15_checkIndex_7cf53 0 = .ok (.iload_n 0, 1) := by decide +kernel
theorem dJ15_checkIndex_7cf53_1 : decode cJ15_checkIndex_7cf53 1 = .ok (.iload_n 1, 1) := by decide +kernel
theorem dJ15_checkIndex_7cf53_2 : decode cJ15_checkIndex_7cf53 2 = .ok (.aconst_null, 1) := by decide +kernel
theorem dJ15_checkIndex_7cf53_3 : decode cJ15_checkIndex_7cf53 3 = .ok (.invokestatic 105, 3) := by decide +kernel
theorem dJ15_checkIndex_7cf53_6 : decode cJ15_checkIndex_7cf53 6 = .ok (.ireturn, 1) := by decide +kernel
theorem dJ3_checkIndex_8e157_0 : decode cJ3_checkIndex_8e157 0 = .ok (.iload_n 0, 1) := by decide +kernel
theorem dJ3_checkIndex_8e157_1 : decode cJ3_checkIndex_8e157 1 = .ok (.ifCond .lt 8, 3) := by decide +kernel
theorem dJ3_checkIndex_8e157_4 : decode cJ3_checkIndex_8e157 4 = .ok (.iload_n 0, 1) := by decide +kernel
theorem dJ3_checkIndex_8e157_5 : decode cJ3_checkIndex_8e157 5 = .ok (.iload_n 1, 1) := by decide +kernel
theorem dJ3_checkIndex_8e157_6 : decode cJ3_checkIndex_8e157 6 = .ok (.if_icmp .lt 10, 3) := by decide +kernel
theorem dJ3_checkIndex_8e157_9 : decode cJ3_checkIndex_8e157 9 = .ok (.aload_n 2, 1) := by decide +kernel
theorem dJ3_checkIndex_8e157_10 : decode cJ3_checkIndex_8e157 10 = .ok (.iload_n 0, 1) := by decide +kernel
theorem dJ3_checkIndex_8e157_11 : decode cJ3_checkIndex_8e157 11 = .ok (.iload_n 1, 1) := by decide +kernel
theorem dJ3_checkIndex_8e157_12 : decode cJ3_checkIndex_8e157 12 = .ok (.invokestatic 95, 3) := by decide +kernel
theorem dJ3_checkIndex_8e157_15 : decode cJ3_checkIndex_8e157 15 = .ok (.athrow, 1) := by decide +kernel
theorem dJ3_checkIndex_8e157_16 : decode cJ3_checkIndex_8e157 16 = .ok (.iload_n 0, 1) := by decide +kernel
theorem dJ3_checkIndex_8e157_17 : decode cJ3_checkIndex_8e157 17 = .ok (.ireturn, 1) := by decide +kernel
theorem dJx4a65c_add_9ea2d_0 : decode cJx4a65c_add_9ea2d 0 = .ok (.aload_n 0, 1) := by decide +kernel
theorem dJx4a65c_add_9ea2d_1 : decode cJx4a65c_add_9ea2d 1 = .ok (.dup, 1) := by decide +kernel
theorem dJx4a65c_add_9ea2d_2 : decode cJx4a65c_add_9ea2d 2 = .ok (.getfield 63, 3) := by decide +kernel
theorem dJx4a65c_add_9ea2d_5 : decode cJx4a65c_add_9ea2d 5 = .ok (.iconst 1, 1) := by decide +kernel
theorem dJx4a65c_add_9ea2d_6 : decode cJx4a65c_add_9ea2d 6 = .ok (.iadd, 1) := by decide +kernel
theorem dJx4a65c_add_9ea2d_7 : decode cJx4a65c_add_9ea2d 7 = .ok (.putfield 63, 3) := by decide +kernel
theorem dJx4a65c_add_9ea2d_10 : decode cJx4a65c_add_9ea2d 10 = .ok (.aload_n 0, 1) := by decide +kernel
theorem dJx4a65c_add_9ea2d_11 : decode cJx4a65c_add_9ea2d 11 = .ok (.aload_n 1, 1) := by decide +kernel
theorem dJx4a65c_add_9ea2d_12 : decode cJx4a65c_add_9ea2d 12 = .ok (.aload_n 0, 1) := by decide +kernel
theorem dJx4a65c_add_9ea2d_13 : decode cJx4a65c_add_9ea2d 13 = .ok (.getfield 9, 3) := by decide +kernel
theorem dJx4a65c_add_9ea2d_16 : decode cJx4a65c_add_9ea2d 16 = .ok (.aload_n 0, 1) := by decide +kernel
theorem dJx4a65c_add_9ea2d_17 : decode cJx4a65c_add_9ea2d 17 = .ok (.getfield 48, 3) := by decide +kernel
theorem dJx4a65c_add_9ea2d_20 : decode cJx4a65c_add_9ea2d 20 = .ok (.invokevirtual 131, 3) := by decide +kernel
theorem dJx4a65c_add_9ea2d_23 : decode cJx4a65c_add_9ea2d 23 = .ok (.iconst 1, 1) := by decide +kernel
theorem dJx4a65c_add_9ea2d_24 : decode cJx4a65c_add_9ea2d 24 = .ok (.ireturn, 1) := by decide +kernel
theorem dJx4a65c_add_72be8_0 : decode cJx4a65c_add_72be8 0 = .ok (.iload_n 3, 1) := by decide +kernel
theorem dJx4a65c_add_72be8_1 : decode cJx4a65c_add_72be8 1 = .ok (.aload_n 2, 1) := by decide +kernel
theorem dJx4a65c_add_72be8_2 : decode cJx4a65c_add_72be8 2 = .ok (.arraylength, 1) := by decide +kernel
theorem dJx4a65c_add_72be8_3 : decode cJx4a65c_add_72be8 3 = .ok (.if_icmp .ne 8, 3) := by decide +kernel
theorem dJx4a65c_add_72be8_6 : decode cJx4a65c_add_72be8 6 = .ok (.aload_n 0, 1) := by decide +kernel
theorem dJx4a65c_add_72be8_7 : decode cJx4a65c_add_72be8 7 = .ok (.invokevirtual 129, 3) := by decide +kernel
theorem dJx4a65c_add_72be8_10 : decode cJx4a65c_add_72be8 10 = .ok (.astore_n 2, 1) := by decide +kernel
theorem dJx4a65c_add_72be8_11 : decode cJx4a65c_add_72be8 11 = .ok (.aload_n 2, 1) := by decide +kernel
theorem dJx4a65c_add_72be8_12 : decode cJx4a65c_add_72be8 12 = .ok (.iload_n 3, 1) := by decide +kernel
theorem dJx4a65c_add_72be8_13 : decode cJx4a65c_add_72be8 13 = .ok (.aload_n 1, 1) := by decide +kernel
theorem dJx4a65c_add_72be8_14 : decode cJx4a65c_add_72be8 14 = .ok (.aastore, 1) := by decide +kernel
theorem dJx4a65c_add_72be8_15 : decode cJx4a65c_add_72be8 15 = .ok (.aload_n 0, 1) := by decide +kernel
theorem dJx4a65c_add_72be8_16 : decode cJx4a65c_add_72be8 16 = .ok (.iload_n 3, 1) := by decide +kernel
theorem dJx4a65c_add_72be8_17 : decode cJx4a65c_add_72be8 17 = .ok (.iconst 1, 1) := by decide +kernel
theorem dJx4a65c_add_72be8_18 : decode cJx4a65c_add_72be8 18 = .ok (.iadd, 1) := by decide +kernel
theorem dJx4a65c_add_72be8_19 : decode cJx4a65c_add_72be8 19 = .ok (.putfield 48, 3) := by decide +kernel
theorem dJx4a65c_add_72be8_22 : decode cJx4a65c_add_72be8 22 = .ok (.return_, 1) := by decide +kernel
theorem dJx4a65c_grow_d5877_0 : decode cJx4a65c_grow_d5877 0 = .ok (.aload_n 0, 1) := by decide +kernel
theorem dJx4a65c_grow_d5877_1 : decode cJx4a65c_grow_d5877 1 = .ok (.aload_n 0, 1) := by decide +kernel
theorem dJx4a65c_grow_d5877_2 : decode cJx4a65c_grow_d5877 2 = .ok (.getfield 48, 3) := by decide +kernel
theorem dJx4a65c_grow_d5877_5 : decode cJx4a65c_grow_d5877 5 = .ok (.iconst 1, 1) := by decide +kernel
theorem dJx4a65c_grow_d5877_6 : decode cJx4a65c_grow_d5877 6 = .ok (.iadd, 1) := by decide +kernel
theorem dJx4a65c_grow_d5877_7 : decode cJx4a65c_grow_d5877 7 = .ok (.invokevirtual 69, 3) := by decide +kernel
theorem dJx4a65c_grow_d5877_10 : decode cJx4a65c_grow_d5877 10 = .ok (.areturn, 1) := by decide +kernel
theorem dJx4a65c_grow_92f84_0 : decode cJx4a65c_grow_92f84 0 = .ok (.aload_n 0, 1) := by decide +kernel
theorem dJx4a65c_grow_92f84_1 : decode cJx4a65c_grow_92f84 1 = .ok (.getfield 9, 3) := by decide +kernel
theorem dJx4a65c_grow_92f84_4 : decode cJx4a65c_grow_92f84 4 = .ok (.arraylength, 1) := by decide +kernel
theorem dJx4a65c_grow_92f84_5 : decode cJx4a65c_grow_92f84 5 = .ok (.istore_n 2, 1) := by decide +kernel
theorem dJx4a65c_grow_92f84_6 : decode cJx4a65c_grow_92f84 6 = .ok (.iload_n 2, 1) := by decide +kernel
theorem dJx4a65c_grow_92f84_7 : decode cJx4a65c_grow_92f84 7 = .ok (.ifCond .gt 13, 3) := by decide +kernel
theorem dJx4a65c_grow_92f84_10 : decode cJx4a65c_grow_92f84 10 = .ok (.aload_n 0, 1) := by decide +kernel
theorem dJx4a65c_grow_92f84_11 : decode cJx4a65c_grow_92f84 11 = .ok (.getfield 9, 3) := by decide +kernel
theorem dJx4a65c_grow_92f84_14 : decode cJx4a65c_grow_92f84 14 = .ok (.getstatic 39, 3) := by decide +kernel
theorem dJx4a65c_grow_92f84_17 : decode cJx4a65c_grow_92f84 17 = .ok (.if_acmp .eq 28, 3) := by decide +kernel
theorem dJx4a65c_grow_92f84_20 : decode cJx4a65c_grow_92f84 20 = .ok (.iload_n 2, 1) := by decide +kernel
theorem dJx4a65c_grow_92f84_21 : decode cJx4a65c_grow_92f84 21 = .ok (.iload_n 1, 1) := by decide +kernel
theorem dJx4a65c_grow_92f84_22 : decode cJx4a65c_grow_92f84 22 = .ok (.iload_n 2, 1) := by decide +kernel
theorem dJx4a65c_grow_92f84_23 : decode cJx4a65c_grow_92f84 23 = .ok (.isub, 1) := by decide +kernel
theorem dJx4a65c_grow_92f84_24 : decode cJx4a65c_grow_92f84 24 = .ok (.iload_n 2, 1) := by decide +kernel
theorem dJx4a65c_grow_92f84_25 : decode cJx4a65c_grow_92f84 25 = .ok (.iconst 1, 1) := by decide +kernel
theorem dJx4a65c_grow_92f84_26 : decode cJx4a65c_grow_92f84 26 = .ok (.ishr, 1) := by decide +kernel
theorem dJx4a65c_grow_92f84_27 : decode cJx4a65c_grow_92f84 27 = .ok (.invokestatic 73, 3) := by decide +kernel
theorem dJx4a65c_grow_92f84_30 : decode cJx4a65c_grow_92f84 30 = .ok (.istore_n 3, 1) := by decide +kernel
theorem dJx4a65c_grow_92f84_31 : decode cJx4a65c_grow_92f84 31 = .ok (.aload_n 0, 1) := by decide +kernel
theorem dJx4a65c_grow_92f84_32 : decode cJx4a65c_grow_92f84 32 = .ok (.aload_n 0, 1) := by decide +kernel
theorem dJx4a65c_grow_92f84_33 : decode cJx4a65c_grow_92f84 33 = .ok (.getfield 9, 3) := by decide +kernel
theorem dJx4a65c_grow_92f84_36 : decode cJx4a65c_grow_92f84 36 = .ok (.iload_n 3, 1) := by decide +kernel
theorem dJx4a65c_grow_92f84_37 : decode cJx4a65c_grow_92f84 37 = .ok (.invokestatic 66, 3) := by decide +kernel
theorem dJx4a65c_grow_92f84_40 : decode cJx4a65c_grow_92f84 40 = .ok (.dup_x1, 1) := by decide +kernel
theorem dJx4a65c_grow_92f84_41 : decode cJx4a65c_grow_92f84 41 = .ok (.putfield 9, 3) := by decide +kernel
theorem dJx4a65c_grow_92f84_44 : decode cJx4a65c_grow_92f84 44 = .ok (.areturn, 1) := by decide +kernel
theorem dJx4a65c_grow_92f84_45 : decode cJx4a65c_grow_92f84 45 = .ok (.aload_n 0, 1) := by decide +kernel
theorem dJx4a65c_grow_92f84_46 : decode cJx4a65c_grow_92f84 46 = .ok (.bipush 10, 2) := by decide +kernel
theorem dJx4a65c_grow_92f84_48 : decode cJx4a65c_grow_92f84 48 = .ok (.iload_n 1, 1) := by decide +kernel
theorem dJx4a65c_grow_92f84_49 : decode cJx4a65c_grow_92f84 49 = .ok (.invokestatic 79, 3) := by decide +kernel
theorem dJx4a65c_grow_92f84_52 : decode cJx4a65c_grow_92f84 52 = .ok (.anewarray 7, 3) := by decide +kernel
theorem dJx4a65c_grow_92f84_55 : decode cJx4a65c_grow_92f84 55 = .ok (.dup_x1, 1) := by decide +kernel
theorem dJx4a65c_grow_92f84_56 : decode cJx4a65c_grow_92f84 56 = .ok (.putfield 9, 3) := by decide +kernel
theorem dJx4a65c_grow_92f84_59 : decode cJx4a65c_grow_92f84 59 = .ok (.areturn, 1) := by decide +kernel
theorem dJ8_newLength_cabcc_0 : decode cJ8_newLength_cabcc 0 = .ok (.iload_n 0, 1) := by decide +kernel
theorem dJ8_newLength_cabcc_1 : decode cJ8_newLength_cabcc 1 = .ok (.iload_n 1, 1) := by decide +kernel
theorem dJ8_newLength_cabcc_2 : decode cJ8_newLength_cabcc 2 = .ok (.iload_n 2, 1) := by decide +kernel
theorem dJ8_newLength_cabcc_3 : decode cJ8_newLength_cabcc 3 = .ok (.invokestatic 194, 3) := by decide +kernel
theorem dJ8_newLength_cabcc_6 : decode cJ8_newLength_cabcc 6 = .ok (.iadd, 1) := by decide +kernel
theorem dJ8_newLength_cabcc_7 : decode cJ8_newLength_cabcc 7 = .ok (.istore_n 3, 1) := by decide +kernel
theorem dJ8_newLength_cabcc_8 : decode cJ8_newLength_cabcc 8 = .ok (.iconst 0, 1) := by decide +kernel
theorem dJ8_newLength_cabcc_9 : decode cJ8_newLength_cabcc 9 = .ok (.iload_n 3, 1) := by decide +kernel
theorem dJ8_newLength_cabcc_10 : decode cJ8_newLength_cabcc 10 = .ok (.if_icmp .ge 11, 3) := by decide +kernel
theorem dJ8_newLength_cabcc_13 : decode cJ8_newLength_cabcc 13 = .ok (.iload_n 3, 1) := by decide +kernel
theorem dJ8_newLength_cabcc_14 : decode cJ8_newLength_cabcc 14 = .ok (.ldc 200, 2) := by decide +kernel
theorem dJ8_newLength_cabcc_16 : decode cJ8_newLength_cabcc 16 = .ok (.if_icmp .gt 5, 3) := by decide +kernel
theorem dJ8_newLength_cabcc_19 : decode cJ8_newLength_cabcc 19 = .ok (.iload_n 3, 1) := by decide +kernel
theorem dJ8_newLength_cabcc_20 : decode cJ8_newLength_cabcc 20 = .ok (.ireturn, 1) := by decide +kernel
theorem dJ8_newLength_cabcc_21 : decode cJ8_newLength_cabcc 21 = .ok (.iload_n 0, 1) := by decide +kernel
theorem dJ8_newLength_cabcc_22 : decode cJ8_newLength_cabcc 22 = .ok (.iload_n 1, 1) := by decide +kernel
theorem dJ8_newLength_cabcc_23 : decode cJ8_newLength_cabcc 23 = .ok (.invokestatic 201, 3) := by decide +kernel
theorem dJ8_newLength_cabcc_26 : decode cJ8_newLength_cabcc 26 = .ok (.ireturn, 1) := by decide +kernel
theorem dJ7_copyOf_1904c_0 : decode cJ7_copyOf_1904c 0 = .ok (.aload_n 0, 1) := by decide +kernel
theorem dJ7_copyOf_1904c_1 : decode cJ7_copyOf_1904c 1 = .ok (.iload_n 1, 1) := by decide +kernel
theorem dJ7_copyOf_1904c_2 : decode cJ7_copyOf_1904c 2 = .ok (.aload_n 0, 1) := by decide +kernel
theorem dJ7_copyOf_1904c_3 : decode cJ7_copyOf_1904c 3 = .ok (.invokevirtual 86, 3) := by decide +kernel
theorem dJ7_copyOf_1904c_6 : decode cJ7_copyOf_1904c 6 = .ok (.invokestatic 300, 3) := by decide +kernel
theorem dJ7_copyOf_1904c_9 : decode cJ7_copyOf_1904c 9 = .ok (.areturn, 1) := by decide +kernel
theorem dJ7_copyOf_6403c_0 : decode cJ7_copyOf_6403c 0 = .ok (.aload_n 2, 1) := by decide +kernel
theorem dJ7_copyOf_6403c_1 : decode cJ7_copyOf_6403c 1 = .ok (.ldc 110, 2) := by decide +kernel
theorem dJ7_copyOf_6403c_3 : decode cJ7_copyOf_6403c 3 = .ok (.if_acmp .ne 10, 3) := by decide +kernel
theorem dJ7_copyOf_6403c_6 : decode cJ7_copyOf_6403c 6 = .ok (.iload_n 1, 1) := by decide +kernel
theorem dJ7_copyOf_6403c_7 : decode cJ7_copyOf_6403c 7 = .ok (.anewarray 2, 3) := by decide +kernel
theorem dJ7_copyOf_6403c_10 : decode cJ7_copyOf_6403c 10 = .ok (.goto 14, 3) := by decide +kernel
theorem dJ7_copyOf_6403c_13 : decode cJ7_copyOf_6403c 13 = .ok (.aload_n 2, 1) := by decide +kernel
theorem dJ7_copyOf_6403c_14 : decode cJ7_copyOf_6403c 14 = .ok (.invokevirtual 90, 3) := by decide +kernel
theorem dJ7_copyOf_6403c_17 : decode cJ7_copyOf_6403c 17 = .ok (.iload_n 1, 1) := by decide +kernel
theorem dJ7_copyOf_6403c_18 : decode cJ7_copyOf_6403c 18 = .ok (.invokestatic 95, 3) := by decide +kernel
theorem dJ7_copyOf_6403c_21 : decode cJ7_copyOf_6403c 21 = .ok (.checkcast 110, 3) := by decide +kernel
theorem dJ7_copyOf_6403c_24 : decode cJ7_copyOf_6403c 24 = .ok (.astore_n 3, 1) := by decide +kernel
theorem dJ7_copyOf_6403c_25 : decode cJ7_copyOf_6403c 25 = .ok (.aload_n 0, 1) := by decide +kernel
theorem dJ7_copyOf_6403c_26 : decode cJ7_copyOf_6403c 26 = .ok (.iconst 0, 1) := by decide +kernel
theorem dJ7_copyOf_6403c_27 : decode cJ7_copyOf_6403c 27 = .ok (.aload_n 3, 1) := by decide +kernel
theorem dJ7_copyOf_6403c_28 : decode cJ7_copyOf_6403c 28 = .ok (.iconst 0, 1) := by decide +kernel
theorem dJ7_copyOf_6403c_29 : decode cJ7_copyOf_6403c 29 = .ok (.aload_n 0, 1) := by decide +kernel
theorem dJ7_copyOf_6403c_30 : decode cJ7_copyOf_6403c 30 = .ok (.arraylength, 1) := by decide +kernel
theorem dJ7_copyOf_6403c_31 : decode cJ7_copyOf_6403c 31 = .ok (.iload_n 1, 1) := by decide +kernel
theorem dJ7_copyOf_6403c_32 : decode cJ7_copyOf_6403c 32 = .ok (.invokestatic 304, 3) := by decide +kernel
theorem dJ7_copyOf_6403c_35 : decode cJ7_copyOf_6403c 35 = .ok (.invokestatic 150, 3) := by decide +kernel
theorem dJ7_copyOf_6403c_38 : decode cJ7_copyOf_6403c 38 = .ok (.aload_n 3, 1) := by decide +kernel
theorem dJ7_copyOf_6403c_39 : decode cJ7_copyOf_6403c 39 = .ok (.areturn, 1) := by decide +kernel
theorem dJ6_valueOf_2dffe_0 : decode cJ6_valueOf_2dffe 0 = .ok (.iload_n 0, 1) := by decide +kernel
theorem dJ6_valueOf_2dffe_1 : decode cJ6_valueOf_2dffe 1 = .ok (.bipush (-128), 2) := by decide +kernel
theorem dJ6_valueOf_2dffe_3 : decode cJ6_valueOf_2dffe 3 = .ok (.if_icmp .lt 20, 3) := by decide +kernel
theorem dJ6_valueOf_2dffe_6 : decode cJ6_valueOf_2dffe 6 = .ok (.iload_n 0, 1) := by decide +kernel
theorem dJ6_valueOf_2dffe_7 : decode cJ6_valueOf_2dffe 7 = .ok (.getstatic 191, 3) := by decide +kernel
theorem dJ6_valueOf_2dffe_10 : decode cJ6_valueOf_2dffe 10 = .ok (.if_icmp .gt 13, 3) := by decide +kernel
theorem dJ6_valueOf_2dffe_13 : decode cJ6_valueOf_2dffe 13 = .ok (.getstatic 195, 3) := by decide +kernel
theorem dJ6_valueOf_2dffe_16 : decode cJ6_valueOf_2dffe 16 = .ok (.iload_n 0, 1) := by decide +kernel
theorem dJ6_valueOf_2dffe_17 : decode cJ6_valueOf_2dffe 17 = .ok (.sipush 128, 3) := by decide +kernel
theorem dJ6_valueOf_2dffe_20 : decode cJ6_valueOf_2dffe 20 = .ok (.iadd, 1) := by decide +kernel
theorem dJ6_valueOf_2dffe_21 : decode cJ6_valueOf_2dffe 21 = .ok (.aaload, 1) := by decide +kernel
theorem dJ6_valueOf_2dffe_22 : decode cJ6_valueOf_2dffe 22 = .ok (.areturn, 1) := by decide +kernel
theorem dJ6_valueOf_2dffe_23 : decode cJ6_valueOf_2dffe 23 = .ok (.new 1, 3) := by decide +kernel
theorem dJ6_valueOf_2dffe_26 : decode cJ6_valueOf_2dffe 26 = .ok (.dup, 1) := by decide +kernel
theorem dJ6_valueOf_2dffe_27 : decode cJ6_valueOf_2dffe 27 = .ok (.iload_n 0, 1) := by decide +kernel
theorem dJ6_valueOf_2dffe_28 : decode cJ6_valueOf_2dffe 28 = .ok (.invokespecial 199, 3) := by decide +kernel
theorem dJ6_valueOf_2dffe_31 : decode cJ6_valueOf_2dffe 31 = .ok (.areturn, 1) := by decide +kernel
theorem dJ6_init_d00df_0 : decode cJ6_init_d00df 0 = .ok (.aload_n 0, 1) := by decide +kernel
theorem dJ6_init_d00df_1 : decode cJ6_init_d00df 1 = .ok (.invokespecial 202, 3) := by decide +kernel
theorem dJ6_init_d00df_4 : decode cJ6_init_d00df 4 = .ok (.aload_n 0, 1) := by decide +kernel
theorem dJ6_init_d00df_5 : decode cJ6_init_d00df 5 = .ok (.iload_n 1, 1) := by decide +kernel
theorem dJ6_init_d00df_6 : decode cJ6_init_d00df 6 = .ok (.putfield 205, 3) := by decide +kernel
theorem dJ6_init_d00df_9 : decode cJ6_init_d00df 9 = .ok (.return_, 1) := by decide +kernel
theorem dJxd2413_init_da8c8_0 : decode cJxd2413_init_da8c8 0 = .ok (.aload_n 0, 1) := by decide +kernel
theorem dJxd2413_init_da8c8_1 : decode cJxd2413_init_da8c8 1 = .ok (.invokespecial 1, 3) := by decide +kernel
theorem dJxd2413_init_da8c8_4 : decode cJxd2413_init_da8c8 4 = .ok (.return_, 1) := by decide +kernel
theorem dJ6_intValue_8abf5_0 : decode cJ6_intValue_8abf5 0 = .ok (.aload_n 0, 1) := by decide +kernel
theorem dJ6_intValue_8abf5_1 : decode cJ6_intValue_8abf5 1 = .ok (.getfield 205, 3) := by decide +kernel
theorem dJ6_intValue_8abf5_4 : decode cJ6_intValue_8abf5 4 = .ok (.ireturn, 1) := by decide +kernel
theorem dJ9_max_7cf53_0 : decode cJ9_max_7cf53 0 = .ok (.iload_n 0, 1) := by decide +kernel
theorem dJ9_max_7cf53_1 : decode cJ9_max_7cf53 1 = .ok (.iload_n 1, 1) := by decide +kernel
theorem dJ9_max_7cf53_2 : decode cJ9_max_7cf53 2 = .ok (.if_icmp .lt 7, 3) := by decide +kernel
theorem dJ9_max_7cf53_5 : decode cJ9_max_7cf53 5 = .ok (.iload_n 0, 1) := by decide +kernel
theorem dJ9_max_7cf53_6 : decode cJ9_max_7cf53 6 = .ok (.goto 4, 3) := by decide +kernel
theorem dJ9_max_7cf53_9 : decode cJ9_max_7cf53 9 = .ok (.iload_n 1, 1) := by decide +kernel
theorem dJ9_max_7cf53_10 : decode cJ9_max_7cf53 10 = .ok (.ireturn, 1) := by decide +kernel
theorem dJ9_min_7cf53_0 : decode cJ9_min_7cf53 0 = .ok (.iload_n 0, 1) := by decide +kernel
theorem dJ9_min_7cf53_1 : decode cJ9_min_7cf53 1 = .ok (.iload_n 1, 1) := by decide +kernel
theorem dJ9_min_7cf53_2 : decode cJ9_min_7cf53 2 = .ok (.if_icmp .gt 7, 3) := by decide +kernel
theorem dJ9_min_7cf53_5 : decode cJ9_min_7cf53 5 = .ok (.iload_n 0, 1) := by decide +kernel
theorem dJ9_min_7cf53_6 : decode cJ9_min_7cf53 6 = .ok (.goto 4, 3) := by decide +kernel
theorem dJ9_min_7cf53_9 : decode cJ9_min_7cf53 9 = .ok (.iload_n 1, 1) := by decide +kernel
theorem dJ9_min_7cf53_10 : decode cJ9_min_7cf53 10 = .ok (.ireturn, 1) := by decide +kernel
theorem jf_J6_191 : Cond.fieldLink RJ6 191 "java/lang/Integer$IntegerCache" "high" "I" ∈ z_tbl := z_ix 548 (by decide +kernel)
theorem jf_J6_195 : Cond.fieldLink RJ6 195 "java/lang/Integer$IntegerCache" "cache" "[Ljava/lang/Integer;" ∈ z_tbl := z_ix 550 (by decide +kernel)
theorem jf_J6_205 : Cond.fieldLink RJ6 205 "java/lang/Integer" "value" "I" ∈ z_tbl := z_ix 561 (by decide +kernel)
theorem jf_Jx4a65c_9 : Cond.fieldLink RJx4a65c 9 "java/util/ArrayList" "elementData" "[Ljava/lang/Object;" ∈ z_tbl := z_ix 129 (by decide +kernel)
theorem jf_Jx4a65c_39 : Cond.fieldLink RJx4a65c 39 "java/util/ArrayList" "DEFAULTCAPACITY_EMPTY_ELEMENTDATA" "[Ljava/lang/Object;" ∈ z_tbl := z_ix 127 (by decide +kernel)
theorem jf_Jx4a65c_48 : Cond.fieldLink RJx4a65c 48 "java/util/ArrayList" "size" "I" ∈ z_tbl := z_ix 130 (by decide +kernel)
theorem jf_Jx4a65c_63 : Cond.fieldLink RJx4a65c 63 "java/util/ArrayList" "modCount" "I" ∈ z_tbl := z_ix 132 (by decide +kernel)
theorem jf_Jxc12de_7 : Cond.fieldLink RJxc12de 7 "java/util/AbstractList" "modCount" "I" ∈ z_tbl := z_ix 131 (by decide +kernel)
theorem cq_Jxc12de_init_da8c8 : z_cq 2 yJxc12de_init_da8c8 cJxc12de_init_da8c8 1 none 1 := ⟨z_ix 122 (by decide +kernel), z_ix 42 (by decide +kernel), by decide +kernel, by decide, ⟨z_ix 121 (by decide +kernel), rfl, rfl⟩⟩
theorem lk_Jx4a65c_1 : z_ck RJx4a65c 1 2 yJxc12de_init_da8c8 cJxc12de_init_da8c8 1 none 1 := ⟨cq_Jxc12de_init_da8c8, z_ix 120 (by decide +kernel)⟩
theorem cq_J7_copyOf_1904c : z_cq 1 yJ7_copyOf_1904c cJ7_copyOf_1904c 2 (some (.array (.object "java/lang/Object"))) 2 := ⟨z_ix 195 (by decide +kernel), z_ix 47 (by decide +kernel), by decide +kernel, by decide, z_ix 194 (by decide +kernel)⟩
theorem lk_Jx4a65c_66 : z_ck RJx4a65c 66 1 yJ7_copyOf_1904c cJ7_copyOf_1904c 2 (some (.array (.object "java/lang/Object"))) 2 := ⟨cq_J7_copyOf_1904c, z_ix 193 (by decide +kernel)⟩
theorem cq_Jx4a65c_grow_92f84 : z_cq 0 yJx4a65c_grow_92f84 cJx4a65c_grow_92f84 4 (some (.array (.object "java/lang/Object"))) 2 := ⟨z_ix 182 (by decide +kernel), z_ix 43 (by decide +kernel), by decide +kernel, by decide, ⟨z_ix 181 (by decide +kernel), z_ix 2 (by decide +kernel)⟩⟩
theorem lk_Jx4a65c_69 : z_ck RJx4a65c 69 0 yJx4a65c_grow_92f84 cJx4a65c_grow_92f84 4 (some (.array (.object "java/lang/Object"))) 2 := ⟨cq_Jx4a65c_grow_92f84, z_ix 179 (by decide +kernel)⟩
theorem cq_J8_newLength_cabcc : z_cq 1 yJ8_newLength_cabcc cJ8_newLength_cabcc 4 (some .int) 3 := ⟨z_ix 185 (by decide +kernel), z_ix 45 (by decide +kernel), by decide +kernel, by decide, z_ix 184 (by decide +kernel)⟩
theorem lk_Jx4a65c_73 : z_ck RJx4a65c 73 1 yJ8_newLength_cabcc cJ8_newLength_cabcc 4 (some .int) 3 := ⟨cq_J8_newLength_cabcc, z_ix 183 (by decide +kernel)⟩
theorem cj_J9_max_7cf53 : z_cq 1 yJ9_max_7cf53 cJ9_max_7cf53 2 (some .int) 2 := ⟨z_ix 188 (by decide +kernel), z_ix 46 (by decide +kernel), by decide +kernel, by decide, z_ix 187 (by decide +kernel)⟩
theorem lk_Jx4a65c_79 : z_ck RJx4a65c 79 1 yJ9_max_7cf53 cJ9_max_7cf53 2 (some .int) 2 := ⟨cj_J9_max_7cf53, z_ix 227 (by decide +kernel)⟩
theorem cq_J15_checkIndex_7cf53 : z_cq 1 yJ15_checkIndex_7cf53 cJ15_checkIndex_7cf53 2 (some .int) 2 := ⟨z_ix 451 (by decide +kernel), z_ix 55 (by decide +kernel), by decide +kernel, by decide, z_ix 450 (by decide +kernel)⟩
theorem lk_Jx4a65c_118 : z_ck RJx4a65c 118 1 yJ15_checkIndex_7cf53 cJ15_checkIndex_7cf53 2 (some .int) 2 := ⟨cq_J15_checkIndex_7cf53, z_ix 449 (by decide +kernel)⟩
theorem cq_Jx4a65c_elementData_915e3 : z_cq 0 yJx4a65c_elementData_915e3 cJx4a65c_elementData_915e3 2 (some (.object "java/lang/Object")) 2 := ⟨z_ix 458 (by decide +kernel), z_ix 43 (by decide +kernel), by decide +kernel, by decide, ⟨z_ix 456 (by decide +kernel), z_ix 457 (by decide +kernel)⟩⟩
theorem lk_Jx4a65c_123 : z_ck RJx4a65c 123 0 yJx4a65c_elementData_915e3 cJx4a65c_elementData_915e3 2 (some (.object "java/lang/Object")) 2 := ⟨cq_Jx4a65c_elementData_915e3, z_ix 455 (by decide +kernel)⟩
theorem cq_Jx4a65c_grow_d5877 : z_cq 0 yJx4a65c_grow_d5877 cJx4a65c_grow_d5877 1 (some (.array (.object "java/lang/Object"))) 1 := ⟨z_ix 178 (by decide +kernel), z_ix 43 (by decide +kernel), by decide +kernel, by decide, ⟨z_ix 177 (by decide +kernel), z_ix 1 (by decide +kernel)⟩⟩
theorem lk_Jx4a65c_129 : z_ck RJx4a65c 129 0 yJx4a65c_grow_d5877 cJx4a65c_grow_d5877 1 (some (.array (.object "java/lang/Object"))) 1 := ⟨cq_Jx4a65c_grow_d5877, z_ix 175 (by decide +kernel)⟩
theorem cq_Jx4a65c_add_72be8 : z_cq 0 yJx4a65c_add_72be8 cJx4a65c_add_72be8 4 none 4 := ⟨z_ix 174 (by decide +kernel), z_ix 43 (by decide +kernel), by decide +kernel, by decide, ⟨z_ix 173 (by decide +kernel), z_ix 0 (by decide +kernel)⟩⟩
theorem lk_Jx4a65c_131 : z_ck RJx4a65c 131 0 yJx4a65c_add_72be8 cJx4a65c_add_72be8 4 none 4 := ⟨cq_Jx4a65c_add_72be8, z_ix 171 (by decide +kernel)⟩
theorem cq_J3_checkIndex_8e157 : z_cq 1 yJ3_checkIndex_8e157 cJ3_checkIndex_8e157 3 (some .int) 3 := ⟨z_ix 454 (by decide +kernel), z_ix 56 (by decide +kernel), by decide +kernel, by decide, z_ix 453 (by decide +kernel)⟩
theorem lk_J15_105 : z_ck RJ15 105 1 yJ3_checkIndex_8e157 cJ3_checkIndex_8e157 3 (some .int) 3 := ⟨cq_J3_checkIndex_8e157, z_ix 452 (by decide +kernel)⟩
theorem cq_J6_init_d00df : z_cq 2 yJ6_init_d00df cJ6_init_d00df 2 none 2 := ⟨z_ix 556 (by decide +kernel), z_ix 60 (by decide +kernel), by decide +kernel, by decide, ⟨z_ix 555 (by decide +kernel), rfl, rfl⟩⟩
theorem lk_J6_199 : z_ck RJ6 199 2 yJ6_init_d00df cJ6_init_d00df 2 none 2 := ⟨cq_J6_init_d00df, z_ix 554 (by decide +kernel)⟩
theorem cq_Jxd2413_init_da8c8 : z_cq 2 yJxd2413_init_da8c8 cJxd2413_init_da8c8 1 none 1 := ⟨z_ix 559 (by decide +kernel), z_ix 59 (by decide +kernel), by decide +kernel, by decide, ⟨z_ix 558 (by decide +kernel), rfl, rfl⟩⟩
theorem lk_J6_202 : z_ck RJ6 202 2 yJxd2413_init_da8c8 cJxd2413_init_da8c8 1 none 1 := ⟨cq_Jxd2413_init_da8c8, z_ix 557 (by decide +kernel)⟩
theorem cq_J7_copyOf_6403c : z_cq 1 yJ7_copyOf_6403c cJ7_copyOf_6403c 4 (some (.array (.object "java/lang/Object"))) 3 := ⟨z_ix 217 (by decide +kernel), z_ix 47 (by decide +kernel), by decide +kernel, by decide, z_ix 216 (by decide +kernel)⟩
theorem lk_J7_300 : z_ck RJ7 300 1 yJ7_copyOf_6403c cJ7_copyOf_6403c 4 (some (.array (.object "java/lang/Object"))) 3 := ⟨cq_J7_copyOf_6403c, z_ix 215 (by decide +kernel)⟩
theorem cj_J9_min_7cf53 : z_cq 1 yJ9_min_7cf53 cJ9_min_7cf53 2 (some .int) 2 := ⟨z_ix 223 (by decide +kernel), z_ix 46 (by decide +kernel), by decide +kernel, by decide, z_ix 222 (by decide +kernel)⟩
theorem lk_J7_304 : z_ck RJ7 304 1 yJ9_min_7cf53 cJ9_min_7cf53 2 (some .int) 2 := ⟨cj_J9_min_7cf53, z_ix 221 (by decide +kernel)⟩
theorem lk_J8_194 : z_ck RJ8 194 1 yJ9_max_7cf53 cJ9_max_7cf53 2 (some .int) 2 := ⟨cj_J9_max_7cf53, z_ix 186 (by decide +kernel)⟩
theorem cq_Jxa1e45_init_da8c8 : z_cq 2 yJxa1e45_init_da8c8 cJxa1e45_init_da8c8 1 none 1 := ⟨z_ix 125 (by decide +kernel), z_ix 41 (by decide +kernel), by decide +kernel, by decide, ⟨z_ix 124 (by decide +kernel), rfl, rfl⟩⟩
theorem lk_Jxc12de_1 : z_ck RJxc12de 1 2 yJxa1e45_init_da8c8 cJxa1e45_init_da8c8 1 none 1 := ⟨cq_Jxa1e45_init_da8c8, z_ix 123 (by decide +kernel)⟩
theorem cq_Jx4a65c_size_8abf5 : z_cq 0 yJx4a65c_size_8abf5 cJx4a65c_size_8abf5 1 (some .int) 1 := ⟨z_ix 368 (by decide +kernel), z_ix 43 (by decide +kernel), by decide +kernel, by decide, ⟨z_ix 366 (by decide +kernel), z_ix 367 (by decide +kernel)⟩⟩
theorem cq_Jx4a65c_get_915e3 : z_cq 0 yJx4a65c_get_915e3 cJx4a65c_get_915e3 2 (some (.object "java/lang/Object")) 2 := ⟨z_ix 448 (by decide +kernel), z_ix 43 (by decide +kernel), by decide +kernel, by decide, ⟨z_ix 446 (by decide +kernel), z_ix 447 (by decide +kernel)⟩⟩
theorem cq_Jx4a65c_add_9ea2d : z_cq 0 yJx4a65c_add_9ea2d cJx4a65c_add_9ea2d 2 (some .boolean) 2 := ⟨z_ix 170 (by decide +kernel), z_ix 43 (by decide +kernel), by decide +kernel, by decide, ⟨z_ix 168 (by decide +kernel), z_ix 169 (by decide +kernel)⟩⟩
theorem cq_J6_intValue_8abf5 : z_cq 0 yJ6_intValue_8abf5 cJ6_intValue_8abf5 1 (some .int) 1 := ⟨z_ix 867 (by decide +kernel), z_ix 60 (by decide +kernel), by decide +kernel, by decide, ⟨z_ix 865 (by decide +kernel), z_ix 866 (by decide +kernel)⟩⟩
theorem cq_J6_valueOf_2dffe : z_cq 1 yJ6_valueOf_2dffe cJ6_valueOf_2dffe 1 (some (.object "java/lang/Integer")) 1 := ⟨z_ix 547 (by decide +kernel), z_ix 60 (by decide +kernel), by decide +kernel, by decide, z_ix 546 (by decide +kernel)⟩
theorem cq_Jx4a65c_init_da8c8 : z_cq 2 yJx4a65c_init_da8c8 cJx4a65c_init_da8c8 1 none 1 := ⟨z_ix 119 (by decide +kernel), z_ix 43 (by decide +kernel), by decide +kernel, by decide, ⟨z_ix 118 (by decide +kernel), rfl, rfl⟩⟩
theorem jo_Jxa1e45 : Cond.methodLink RJxa1e45 1 Lib.objectInit ∈ z_tbl := z_ix 126 (by decide +kernel)
theorem jo_Jxd2413 : Cond.methodLink RJxd2413 1 Lib.objectInit ∈ z_tbl := z_ix 560 (by decide +kernel)
theorem jc_J6_1 : Cond.classLink RJ6 1 "java/lang/Integer" ∈ z_tbl := z_ix 552 (by decide +kernel)
theorem jc_J7_2 : Cond.classLink RJ7 2 "java/lang/Object" ∈ z_tbl := z_ix 220 (by decide +kernel)
theorem jc_J7_110 : Cond.classLink RJ7 110 "[Ljava/lang/Object;" ∈ z_tbl := z_ix 218 (by decide +kernel)
theorem jc_Jx4a65c_7 : Cond.classLink RJx4a65c 7 "java/lang/Object" ∈ z_tbl := z_ix 228 (by decide +kernel)
theorem jw_same : Cond.sameField "java/util/ArrayList" "java/util/AbstractList" "modCount" "I" ∈ z_tbl := z_ix 133 (by decide +kernel)
theorem jw_cpyN : Cond.native arraycopyName ∈ z_tbl := z_ix 226 (by decide +kernel)
theorem jw_cpyS : Cond.static arraycopyName ∈ z_tbl := z_ix 225 (by decide +kernel)
theorem jw_cpyI : Cond.initialized "java/lang/System" ∈ z_tbl := z_ix 48 (by decide +kernel)
theorem jw_cpyL : Cond.methodLink RJ7 150 arraycopyName ∈ z_tbl := z_ix 224 (by decide +kernel)
theorem jw_gcL : Cond.methodLink RJ7 86 ⟨"java/lang/Object", "getClass", "()Ljava/lang/Class;"⟩ ∈ z_tbl := z_ix 196 (by decide +kernel)
theorem jw_gcI : Cond.instanceMethod ⟨"java/lang/Object", "getClass", "()Ljava/lang/Class;"⟩ ∈ z_tbl := z_ix 197 (by decide +kernel)
theorem jw_gcN : Cond.native ⟨"java/lang/Object", "getClass", "()Ljava/lang/Class;"⟩ ∈ z_tbl := z_ix 214 (by decide +kernel)
theorem jw_gcS : Cond.selects "[Ljava/lang/Object;" ⟨"java/lang/Object", "getClass", "()Ljava/lang/Class;"⟩ ⟨"java/lang/Object", "getClass", "()Ljava/lang/Class;"⟩ ∈ z_tbl := z_ix 1411 (by decide +kernel)
theorem jn_list : Cond.instantiable RJx4a65c 3 ∈ z_tbl := z_ix 116 (by decide +kernel)
theorem jn_int : Cond.instantiable RJ6 1 ∈ z_tbl := z_ix 553 (by decide +kernel)
theorem inzJ6 : ∀ w ∈ wsJ60, w ∈ z_tbl := fun w h => List.mem_filter.mpr ⟨inJ6 w h, List.all_eq_true.mp (show wsJ60.all goodWord = true by decide +kernel) w h⟩
theorem inzJL : ∀ w ∈ wsJx4a65c0, w ∈ z_tbl := fun w h => List.mem_filter.mpr ⟨inJx4a65c w h, List.all_eq_true.mp (show wsJx4a65c0.all goodWord = true by decide +kernel) w h⟩
theorem jk_newLen : Cond.constant RJ8 200 2147483639 ∈ z_tbl := z_ix 189 (by decide +kernel)
theorem jq_J9_max_7cf53 : Cond.static Lib.Math.max.name ∈ z_tbl ∧ Cond.code Lib.Math.max.name Lib.Math.max.code 2 (some .int) ∈ z_tbl := ⟨z_ix 187 (by decide +kernel), z_ix 188 (by decide +kernel)⟩
theorem jq_J9_min_7cf53 : Cond.static Lib.Math.min.name ∈ z_tbl ∧ Cond.code Lib.Math.min.name Lib.Math.min.code 2 (some .int) ∈ z_tbl := ⟨z_ix 222 (by decide +kernel), z_ix 223 (by decide +kernel)⟩
theorem jq_J9_max_f86c9 : Cond.static Lib.MathLoose.max_long.x ∈ z_tbl ∧ Cond.code Lib.MathLoose.max_long.x Lib.MathLoose.max_long.code 4 (some .long) ∈ z_tbl := ⟨z_ix 489 (by decide +kernel), z_ix 490 (by decide +kernel)⟩
theorem jq_J9_min_f86c9 : Cond.static Lib.MathLoose.min_long.x ∈ z_tbl ∧ Cond.code Lib.MathLoose.min_long.x Lib.MathLoose.min_long.code 4 (some .long) ∈ z_tbl := ⟨z_ix 486 (by decide +kernel), z_ix 487 (by decide +kernel)⟩
theorem jq_ini : Cond.initialized "java/lang/Math" ∈ z_tbl := z_ix 46 (by decide +kernel)
theorem jm_J7_304 : Cond.methodLink RJ7 304 Lib.Math.min.name ∈ z_tbl := z_ix 221 (by decide +kernel)
theorem jm_J8_194 : Cond.methodLink RJ8 194 Lib.Math.max.name ∈ z_tbl := z_ix 186 (by decide +kernel)
theorem jm_Jx4a65c_79 : Cond.methodLink RJx4a65c 79 Lib.Math.max.name ∈ z_tbl := z_ix 227 (by decide +kernel)
theorem jm_X1_54 : Cond.methodLink RX1 54 Lib.MathLoose.min_long.x ∈ z_tbl := z_ix 757 (by decide +kernel)
theorem jm_X1_60 : Cond.methodLink RX1 60 Lib.MathLoose.max_long.x ∈ z_tbl := z_ix 758 (by decide +kernel)
theorem jm_X10_37 : Cond.methodLink RX10 37 Lib.MathLoose.min_long.x ∈ z_tbl := z_ix 485 (by decide +kernel)
theorem jm_X10_46 : Cond.methodLink RX10 46 Lib.MathLoose.max_long.x ∈ z_tbl := z_ix 488 (by decide +kernel)
theorem jm_X11_444 : Cond.methodLink RX11 444 Lib.MathLoose.min_long.x ∈ z_tbl := z_ix 731 (by decide +kernel)
theorem jm_X12_283 : Cond.methodLink RX12 283 Lib.MathLoose.min_long.x ∈ z_tbl := z_ix 1287 (by decide +kernel)
theorem jm_X12_296 : Cond.methodLink RX12 296 Lib.MathLoose.max_long.x ∈ z_tbl := z_ix 1292 (by decide +kernel)
theorem jm_X12_299 : Cond.methodLink RX12 299 Lib.Math.min.name ∈ z_tbl := z_ix 1293 (by decide +kernel)
theorem jm_X12_302 : Cond.methodLink RX12 302 Lib.Math.max.name ∈ z_tbl := z_ix 1294 (by decide +kernel)
