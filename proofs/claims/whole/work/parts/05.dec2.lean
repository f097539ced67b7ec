theorem dX1_op_0 : decode cX1_op 0 = .ok (.iload_n 0, 1) := by decide +kernel
theorem dX1_op_1 : decode cX1_op 1 = .ok (.bipush 127, 2) := by decide +kernel
theorem dX1_op_3 : decode cX1_op 3 = .ok (.iand, 1) := by decide +kernel
theorem dX1_op_4 : decode cX1_op 4 = .ok (.ireturn, 1) := by decide +kernel
theorem dX1_rd_0 : decode cX1_rd 0 = .ok (.iload_n 0, 1) := by decide +kernel
theorem dX1_rd_1 : decode cX1_rd 1 = .ok (.bipush 7, 2) := by decide +kernel
theorem dX1_rd_3 : decode cX1_rd 3 = .ok (.iushr, 1) := by decide +kernel
theorem dX1_rd_4 : decode cX1_rd 4 = .ok (.bipush 31, 2) := by decide +kernel
theorem dX1_rd_6 : decode cX1_rd 6 = .ok (.iand, 1) := by decide +kernel
theorem dX1_rd_7 : decode cX1_rd 7 = .ok (.ireturn, 1) := by decide +kernel
theorem dX1_f_0 : decode cX1_f 0 = .ok (.iload_n 0, 1) := by decide +kernel
theorem dX1_f_1 : decode cX1_f 1 = .ok (.bipush 12, 2) := by decide +kernel
theorem dX1_f_3 : decode cX1_f 3 = .ok (.iushr, 1) := by decide +kernel
theorem dX1_f_4 : decode cX1_f 4 = .ok (.bipush 7, 2) := by decide +kernel
theorem dX1_f_6 : decode cX1_f 6 = .ok (.iand, 1) := by decide +kernel
theorem dX1_f_7 : decode cX1_f 7 = .ok (.ireturn, 1) := by decide +kernel
theorem dX1_rs_0 : decode cX1_rs 0 = .ok (.iload_n 0, 1) := by decide +kernel
theorem dX1_rs_1 : decode cX1_rs 1 = .ok (.bipush 15, 2) := by decide +kernel
theorem dX1_rs_3 : decode cX1_rs 3 = .ok (.iushr, 1) := by decide +kernel
theorem dX1_rs_4 : decode cX1_rs 4 = .ok (.bipush 31, 2) := by decide +kernel
theorem dX1_rs_6 : decode cX1_rs 6 = .ok (.iand, 1) := by decide +kernel
theorem dX1_rs_7 : decode cX1_rs 7 = .ok (.ireturn, 1) := by decide +kernel
theorem dX1_rt_0 : decode cX1_rt 0 = .ok (.iload_n 0, 1) := by decide +kernel
theorem dX1_rt_1 : decode cX1_rt 1 = .ok (.bipush 20, 2) := by decide +kernel
theorem dX1_rt_3 : decode cX1_rt 3 = .ok (.iushr, 1) := by decide +kernel
theorem dX1_rt_4 : decode cX1_rt 4 = .ok (.bipush 31, 2) := by decide +kernel
theorem dX1_rt_6 : decode cX1_rt 6 = .ok (.iand, 1) := by decide +kernel
theorem dX1_rt_7 : decode cX1_rt 7 = .ok (.ireturn, 1) := by decide +kernel
theorem dX1_g_0 : decode cX1_g 0 = .ok (.iload_n 0, 1) := by decide +kernel
theorem dX1_g_1 : decode cX1_g 1 = .ok (.bipush 25, 2) := by decide +kernel
theorem dX1_g_3 : decode cX1_g 3 = .ok (.iushr, 1) := by decide +kernel
theorem dX1_g_4 : decode cX1_g 4 = .ok (.ireturn, 1) := by decide +kernel
theorem dX1_numberI_0 : decode cX1_numberI 0 = .ok (.iload_n 0, 1) := by decide +kernel
theorem dX1_numberI_1 : decode cX1_numberI 1 = .ok (.bipush 20, 2) := by decide +kernel
theorem dX1_numberI_3 : decode cX1_numberI 3 = .ok (.ishr, 1) := by decide +kernel
theorem dX1_numberI_4 : decode cX1_numberI 4 = .ok (.ireturn, 1) := by decide +kernel
theorem dX1_numberS_0 : decode cX1_numberS 0 = .ok (.iload_n 0, 1) := by decide +kernel
theorem dX1_numberS_1 : decode cX1_numberS 1 = .ok (.bipush 25, 2) := by decide +kernel
theorem dX1_numberS_3 : decode cX1_numberS 3 = .ok (.ishr, 1) := by decide +kernel
theorem dX1_numberS_4 : decode cX1_numberS 4 = .ok (.iconst 5, 1) := by decide +kernel
theorem dX1_numberS_5 : decode cX1_numberS 5 = .ok (.ishl, 1) := by decide +kernel
theorem dX1_numberS_6 : decode cX1_numberS 6 = .ok (.iload_n 0, 1) := by decide +kernel
theorem dX1_numberS_7 : decode cX1_numberS 7 = .ok (.invokestatic 9, 3) := by decide +kernel
theorem dX1_numberS_10 : decode cX1_numberS 10 = .ok (.ior, 1) := by decide +kernel
theorem dX1_numberS_11 : decode cX1_numberS 11 = .ok (.ireturn, 1) := by decide +kernel
theorem dX1_numberB_0 : decode cX1_numberB 0 = .ok (.iload_n 0, 1) := by decide +kernel
theorem dX1_numberB_1 : decode cX1_numberB 1 = .ok (.bipush 31, 2) := by decide +kernel
theorem dX1_numberB_3 : decode cX1_numberB 3 = .ok (.ishr, 1) := by decide +kernel
theorem dX1_numberB_4 : decode cX1_numberB 4 = .ok (.bipush 12, 2) := by decide +kernel
theorem dX1_numberB_6 : decode cX1_numberB 6 = .ok (.ishl, 1) := by decide +kernel
theorem dX1_numberB_7 : decode cX1_numberB 7 = .ok (.iload_n 0, 1) := by decide +kernel
theorem dX1_numberB_8 : decode cX1_numberB 8 = .ok (.iconst 4, 1) := by decide +kernel
theorem dX1_numberB_9 : decode cX1_numberB 9 = .ok (.ishl, 1) := by decide +kernel
theorem dX1_numberB_10 : decode cX1_numberB 10 = .ok (.sipush 2048, 3) := by decide +kernel
theorem dX1_numberB_13 : decode cX1_numberB 13 = .ok (.iand, 1) := by decide +kernel
theorem dX1_numberB_14 : decode cX1_numberB 14 = .ok (.ior, 1) := by decide +kernel
theorem dX1_numberB_15 : decode cX1_numberB 15 = .ok (.iload_n 0, 1) := by decide +kernel
theorem dX1_numberB_16 : decode cX1_numberB 16 = .ok (.bipush 20, 2) := by decide +kernel
theorem dX1_numberB_18 : decode cX1_numberB 18 = .ok (.iushr, 1) := by decide +kernel
theorem dX1_numberB_19 : decode cX1_numberB 19 = .ok (.sipush 2016, 3) := by decide +kernel
theorem dX1_numberB_22 : decode cX1_numberB 22 = .ok (.iand, 1) := by decide +kernel
theorem dX1_numberB_23 : decode cX1_numberB 23 = .ok (.ior, 1) := by decide +kernel
theorem dX1_numberB_24 : decode cX1_numberB 24 = .ok (.iload_n 0, 1) := by decide +kernel
theorem dX1_numberB_25 : decode cX1_numberB 25 = .ok (.bipush 7, 2) := by decide +kernel
theorem dX1_numberB_27 : decode cX1_numberB 27 = .ok (.iushr, 1) := by decide +kernel
theorem dX1_numberB_28 : decode cX1_numberB 28 = .ok (.bipush 30, 2) := by decide +kernel
theorem dX1_numberB_30 : decode cX1_numberB 30 = .ok (.iand, 1) := by decide +kernel
theorem dX1_numberB_31 : decode cX1_numberB 31 = .ok (.ior, 1) := by decide +kernel
theorem dX1_numberB_32 : decode cX1_numberB 32 = .ok (.ireturn, 1) := by decide +kernel
theorem dX1_numberJ_0 : decode cX1_numberJ 0 = .ok (.iload_n 0, 1) := by decide +kernel
theorem dX1_numberJ_1 : decode cX1_numberJ 1 = .ok (.bipush 31, 2) := by decide +kernel
theorem dX1_numberJ_3 : decode cX1_numberJ 3 = .ok (.ishr, 1) := by decide +kernel
theorem dX1_numberJ_4 : decode cX1_numberJ 4 = .ok (.bipush 20, 2) := by decide +kernel
theorem dX1_numberJ_6 : decode cX1_numberJ 6 = .ok (.ishl, 1) := by decide +kernel
theorem dX1_numberJ_7 : decode cX1_numberJ 7 = .ok (.iload_n 0, 1) := by decide +kernel
theorem dX1_numberJ_8 : decode cX1_numberJ 8 = .ok (.ldc 15, 2) := by decide +kernel
theorem dX1_numberJ_10 : decode cX1_numberJ 10 = .ok (.iand, 1) := by decide +kernel
theorem dX1_numberJ_11 : decode cX1_numberJ 11 = .ok (.ior, 1) := by decide +kernel
theorem dX1_numberJ_12 : decode cX1_numberJ 12 = .ok (.iload_n 0, 1) := by decide +kernel
theorem dX1_numberJ_13 : decode cX1_numberJ 13 = .ok (.bipush 9, 2) := by decide +kernel
theorem dX1_numberJ_15 : decode cX1_numberJ 15 = .ok (.iushr, 1) := by decide +kernel
theorem dX1_numberJ_16 : decode cX1_numberJ 16 = .ok (.sipush 2048, 3) := by decide +kernel
theorem dX1_numberJ_19 : decode cX1_numberJ 19 = .ok (.iand, 1) := by decide +kernel
theorem dX1_numberJ_20 : decode cX1_numberJ 20 = .ok (.ior, 1) := by decide +kernel
theorem dX1_numberJ_21 : decode cX1_numberJ 21 = .ok (.iload_n 0, 1) := by decide +kernel
theorem dX1_numberJ_22 : decode cX1_numberJ 22 = .ok (.bipush 20, 2) := by decide +kernel
theorem dX1_numberJ_24 : decode cX1_numberJ 24 = .ok (.iushr, 1) := by decide +kernel
theorem dX1_numberJ_25 : decode cX1_numberJ 25 = .ok (.sipush 2046, 3) := by decide +kernel
theorem dX1_numberJ_28 : decode cX1_numberJ 28 = .ok (.iand, 1) := by decide +kernel
theorem dX1_numberJ_29 : decode cX1_numberJ 29 = .ok (.ior, 1) := by decide +kernel
theorem dX1_numberJ_30 : decode cX1_numberJ 30 = .ok (.ireturn, 1) := by decide +kernel
theorem dX1_numberU_0 : decode cX1_numberU 0 = .ok (.iload_n 0, 1) := by decide +kernel
theorem dX1_numberU_1 : decode cX1_numberU 1 = .ok (.sipush (-4096), 3) := by decide +kernel
theorem dX1_numberU_4 : decode cX1_numberU 4 = .ok (.iand, 1) := by decide +kernel
theorem dX1_numberU_5 : decode cX1_numberU 5 = .ok (.ireturn, 1) := by decide +kernel
theorem dX1_bitsOfS_0 : decode cX1_bitsOfS 0 = .ok (.iload_n 0, 1) := by decide +kernel
theorem dX1_bitsOfS_1 : decode cX1_bitsOfS 1 = .ok (.iconst 5, 1) := by decide +kernel
theorem dX1_bitsOfS_2 : decode cX1_bitsOfS 2 = .ok (.ishr, 1) := by decide +kernel
theorem dX1_bitsOfS_3 : decode cX1_bitsOfS 3 = .ok (.bipush 25, 2) := by decide +kernel
theorem dX1_bitsOfS_5 : decode cX1_bitsOfS 5 = .ok (.ishl, 1) := by decide +kernel
theorem dX1_bitsOfS_6 : decode cX1_bitsOfS 6 = .ok (.iload_n 0, 1) := by decide +kernel
theorem dX1_bitsOfS_7 : decode cX1_bitsOfS 7 = .ok (.bipush 31, 2) := by decide +kernel
theorem dX1_bitsOfS_9 : decode cX1_bitsOfS 9 = .ok (.iand, 1) := by decide +kernel
theorem dX1_bitsOfS_10 : decode cX1_bitsOfS 10 = .ok (.bipush 7, 2) := by decide +kernel
theorem dX1_bitsOfS_12 : decode cX1_bitsOfS 12 = .ok (.ishl, 1) := by decide +kernel
theorem dX1_bitsOfS_13 : decode cX1_bitsOfS 13 = .ok (.ior, 1) := by decide +kernel
theorem dX1_bitsOfS_14 : decode cX1_bitsOfS 14 = .ok (.ireturn, 1) := by decide +kernel
theorem dX1_bitsOfB_0 : decode cX1_bitsOfB 0 = .ok (.iload_n 0, 1) := by decide +kernel
theorem dX1_bitsOfB_1 : decode cX1_bitsOfB 1 = .ok (.bipush 12, 2) := by decide +kernel
theorem dX1_bitsOfB_3 : decode cX1_bitsOfB 3 = .ok (.ishr, 1) := by decide +kernel
theorem dX1_bitsOfB_4 : decode cX1_bitsOfB 4 = .ok (.bipush 31, 2) := by decide +kernel
theorem dX1_bitsOfB_6 : decode cX1_bitsOfB 6 = .ok (.ishl, 1) := by decide +kernel
theorem dX1_bitsOfB_7 : decode cX1_bitsOfB 7 = .ok (.iload_n 0, 1) := by decide +kernel
theorem dX1_bitsOfB_8 : decode cX1_bitsOfB 8 = .ok (.sipush 2016, 3) := by decide +kernel
theorem dX1_bitsOfB_11 : decode cX1_bitsOfB 11 = .ok (.iand, 1) := by decide +kernel
theorem dX1_bitsOfB_12 : decode cX1_bitsOfB 12 = .ok (.bipush 20, 2) := by decide +kernel
theorem dX1_bitsOfB_14 : decode cX1_bitsOfB 14 = .ok (.ishl, 1) := by decide +kernel
theorem dX1_bitsOfB_15 : decode cX1_bitsOfB 15 = .ok (.ior, 1) := by decide +kernel
theorem dX1_bitsOfB_16 : decode cX1_bitsOfB 16 = .ok (.iload_n 0, 1) := by decide +kernel
theorem dX1_bitsOfB_17 : decode cX1_bitsOfB 17 = .ok (.bipush 30, 2) := by decide +kernel
theorem dX1_bitsOfB_19 : decode cX1_bitsOfB 19 = .ok (.iand, 1) := by decide +kernel
theorem dX1_bitsOfB_20 : decode cX1_bitsOfB 20 = .ok (.bipush 7, 2) := by decide +kernel
theorem dX1_bitsOfB_22 : decode cX1_bitsOfB 22 = .ok (.ishl, 1) := by decide +kernel
theorem dX1_bitsOfB_23 : decode cX1_bitsOfB 23 = .ok (.ior, 1) := by decide +kernel
theorem dX1_bitsOfB_24 : decode cX1_bitsOfB 24 = .ok (.iload_n 0, 1) := by decide +kernel
theorem dX1_bitsOfB_25 : decode cX1_bitsOfB 25 = .ok (.sipush 2048, 3) := by decide +kernel
theorem dX1_bitsOfB_28 : decode cX1_bitsOfB 28 = .ok (.iand, 1) := by decide +kernel
theorem dX1_bitsOfB_29 : decode cX1_bitsOfB 29 = .ok (.iconst 4, 1) := by decide +kernel
theorem dX1_bitsOfB_30 : decode cX1_bitsOfB 30 = .ok (.ishr, 1) := by decide +kernel
theorem dX1_bitsOfB_31 : decode cX1_bitsOfB 31 = .ok (.ior, 1) := by decide +kernel
theorem dX1_bitsOfB_32 : decode cX1_bitsOfB 32 = .ok (.ireturn, 1) := by decide +kernel
theorem dX1_bitsOfJ_0 : decode cX1_bitsOfJ 0 = .ok (.iload_n 0, 1) := by decide +kernel
theorem dX1_bitsOfJ_1 : decode cX1_bitsOfJ 1 = .ok (.bipush 20, 2) := by decide +kernel
theorem dX1_bitsOfJ_3 : decode cX1_bitsOfJ 3 = .ok (.ishr, 1) := by decide +kernel
theorem dX1_bitsOfJ_4 : decode cX1_bitsOfJ 4 = .ok (.bipush 31, 2) := by decide +kernel
theorem dX1_bitsOfJ_6 : decode cX1_bitsOfJ 6 = .ok (.ishl, 1) := by decide +kernel
theorem dX1_bitsOfJ_7 : decode cX1_bitsOfJ 7 = .ok (.iload_n 0, 1) := by decide +kernel
theorem dX1_bitsOfJ_8 : decode cX1_bitsOfJ 8 = .ok (.sipush 2046, 3) := by decide +kernel
theorem dX1_bitsOfJ_11 : decode cX1_bitsOfJ 11 = .ok (.iand, 1) := by decide +kernel
theorem dX1_bitsOfJ_12 : decode cX1_bitsOfJ 12 = .ok (.bipush 20, 2) := by decide +kernel
theorem dX1_bitsOfJ_14 : decode cX1_bitsOfJ 14 = .ok (.ishl, 1) := by decide +kernel
theorem dX1_bitsOfJ_15 : decode cX1_bitsOfJ 15 = .ok (.ior, 1) := by decide +kernel
theorem dX1_bitsOfJ_16 : decode cX1_bitsOfJ 16 = .ok (.iload_n 0, 1) := by decide +kernel
theorem dX1_bitsOfJ_17 : decode cX1_bitsOfJ 17 = .ok (.sipush 2048, 3) := by decide +kernel
theorem dX1_bitsOfJ_20 : decode cX1_bitsOfJ 20 = .ok (.iand, 1) := by decide +kernel
theorem dX1_bitsOfJ_21 : decode cX1_bitsOfJ 21 = .ok (.bipush 9, 2) := by decide +kernel
theorem dX1_bitsOfJ_23 : decode cX1_bitsOfJ 23 = .ok (.ishl, 1) := by decide +kernel
theorem dX1_bitsOfJ_24 : decode cX1_bitsOfJ 24 = .ok (.ior, 1) := by decide +kernel
theorem dX1_bitsOfJ_25 : decode cX1_bitsOfJ 25 = .ok (.iload_n 0, 1) := by decide +kernel
theorem dX1_bitsOfJ_26 : decode cX1_bitsOfJ 26 = .ok (.ldc 15, 2) := by decide +kernel
theorem dX1_bitsOfJ_28 : decode cX1_bitsOfJ 28 = .ok (.iand, 1) := by decide +kernel
theorem dX1_bitsOfJ_29 : decode cX1_bitsOfJ 29 = .ok (.ior, 1) := by decide +kernel
theorem dX1_bitsOfJ_30 : decode cX1_bitsOfJ 30 = .ok (.ireturn, 1) := by decide +kernel
theorem dX2_init_0 : decode cX2_init 0 = .ok (.aload_n 0, 1) := by decide +kernel
theorem dX2_init_1 : decode cX2_init 1 = .ok (.invokespecial 3, 3) := by decide +kernel
theorem dX2_init_4 : decode cX2_init 4 = .ok (.aload_n 0, 1) := by decide +kernel
theorem dX2_init_5 : decode cX2_init 5 = .ok (.bipush 16, 2) := by decide +kernel
theorem dX2_init_7 : decode cX2_init 7 = .ok (.newarray .int, 2) := by decide +kernel
theorem dX2_init_9 : decode cX2_init 9 = .ok (.putfield 9, 3) := by decide +kernel
theorem dX2_init_12 : decode cX2_init 12 = .ok (.aload_n 0, 1) := by decide +kernel
theorem dX2_init_13 : decode cX2_init 13 = .ok (.bipush 16, 2) := by decide +kernel
theorem dX2_init_15 : decode cX2_init 15 = .ok (.newarray .int, 2) := by decide +kernel
theorem dX2_init_17 : decode cX2_init 17 = .ok (.putfield 15, 3) := by decide +kernel
theorem dX2_init_20 : decode cX2_init 20 = .ok (.aload_n 0, 1) := by decide +kernel
theorem dX2_init_21 : decode cX2_init 21 = .ok (.bipush 16, 2) := by decide +kernel
theorem dX2_init_23 : decode cX2_init 23 = .ok (.newarray .int, 2) := by decide +kernel
theorem dX2_init_25 : decode cX2_init 25 = .ok (.putfield 18, 3) := by decide +kernel
theorem dX2_init_28 : decode cX2_init 28 = .ok (.return_, 1) := by decide +kernel
theorem dX2_add_0 : decode cX2_add 0 = .ok (.aload_n 0, 1) := by decide +kernel
theorem dX2_add_1 : decode cX2_add 1 = .ok (.getfield 21, 3) := by decide +kernel
theorem dX2_add_4 : decode cX2_add 4 = .ok (.invokestatic 25, 3) := by decide +kernel
theorem dX2_add_7 : decode cX2_add 7 = .ok (.istore 4, 2) := by decide +kernel
theorem dX2_add_9 : decode cX2_add 9 = .ok (.aload_n 0, 1) := by decide +kernel
theorem dX2_add_10 : decode cX2_add 10 = .ok (.getfield 9, 3) := by decide +kernel
theorem dX2_add_13 : decode cX2_add 13 = .ok (.iload 4, 2) := by decide +kernel
theorem dX2_add_15 : decode cX2_add 15 = .ok (.iload_n 1, 1) := by decide +kernel
theorem dX2_add_16 : decode cX2_add 16 = .ok (.iastore, 1) := by decide +kernel
theorem dX2_add_17 : decode cX2_add 17 = .ok (.aload_n 0, 1) := by decide +kernel
theorem dX2_add_18 : decode cX2_add 18 = .ok (.getfield 15, 3) := by decide +kernel
theorem dX2_add_21 : decode cX2_add 21 = .ok (.iload 4, 2) := by decide +kernel
theorem dX2_add_23 : decode cX2_add 23 = .ok (.iload_n 2, 1) := by decide +kernel
theorem dX2_add_24 : decode cX2_add 24 = .ok (.iastore, 1) := by decide +kernel
theorem dX2_add_25 : decode cX2_add 25 = .ok (.aload_n 0, 1) := by decide +kernel
theorem dX2_add_26 : decode cX2_add 26 = .ok (.getfield 18, 3) := by decide +kernel
theorem dX2_add_29 : decode cX2_add 29 = .ok (.iload 4, 2) := by decide +kernel
theorem dX2_add_31 : decode cX2_add 31 = .ok (.iload_n 3, 1) := by decide +kernel
theorem dX2_add_32 : decode cX2_add 32 = .ok (.iastore, 1) := by decide +kernel
theorem dX2_add_33 : decode cX2_add 33 = .ok (.aload_n 0, 1) := by decide +kernel
theorem dX2_add_34 : decode cX2_add 34 = .ok (.dup, 1) := by decide +kernel
theorem dX2_add_35 : decode cX2_add 35 = .ok (.getfield 21, 3) := by decide +kernel
theorem dX2_add_38 : decode cX2_add 38 = .ok (.iconst 1, 1) := by decide +kernel
theorem dX2_add_39 : decode cX2_add 39 = .ok (.iadd, 1) := by decide +kernel
theorem dX2_add_40 : decode cX2_add 40 = .ok (.putfield 21, 3) := by decide +kernel
theorem dX2_add_43 : decode cX2_add 43 = .ok (.return_, 1) := by decide +kernel
theorem dX2_entry_0 : decode cX2_entry 0 = .ok (.iload_n 1, 1) := by decide +kernel
theorem dX2_entry_1 : decode cX2_entry 1 = .ok (.ifCond .lt 17, 3) := by decide +kernel
theorem dX2_entry_4 : decode cX2_entry 4 = .ok (.iload_n 1, 1) := by decide +kernel
theorem dX2_entry_5 : decode cX2_entry 5 = .ok (.bipush 16, 2) := by decide +kernel
theorem dX2_entry_7 : decode cX2_entry 7 = .ok (.if_icmp .ge 11, 3) := by decide +kernel
theorem dX2_entry_10 : decode cX2_entry 10 = .ok (.iload_n 1, 1) := by decide +kernel
theorem dX2_entry_11 : decode cX2_entry 11 = .ok (.aload_n 0, 1) := by decide +kernel
theorem dX2_entry_12 : decode cX2_entry 12 = .ok (.getfield 21, 3) := by decide +kernel
theorem dX2_entry_15 : decode cX2_entry 15 = .ok (.if_icmp .lt 5, 3) := by decide +kernel
theorem dX2_entry_18 : decode cX2_entry 18 = .ok (.iconst (-1), 1) := by decide +kernel
theorem dX2_entry_19 : decode cX2_entry 19 = .ok (.ireturn, 1) := by decide +kernel
theorem dX2_entry_20 : decode cX2_entry 20 = .ok (.aload_n 0, 1) := by decide +kernel
theorem dX2_entry_21 : decode cX2_entry 21 = .ok (.getfield 21, 3) := by decide +kernel
theorem dX2_entry_24 : decode cX2_entry 24 = .ok (.iconst 1, 1) := by decide +kernel
theorem dX2_entry_25 : decode cX2_entry 25 = .ok (.isub, 1) := by decide +kernel
theorem dX2_entry_26 : decode cX2_entry 26 = .ok (.iload_n 1, 1) := by decide +kernel
theorem dX2_entry_27 : decode cX2_entry 27 = .ok (.isub, 1) := by decide +kernel
theorem dX2_entry_28 : decode cX2_entry 28 = .ok (.invokestatic 25, 3) := by decide +kernel
theorem dX2_entry_31 : decode cX2_entry 31 = .ok (.istore_n 3, 1) := by decide +kernel
theorem dX2_entry_32 : decode cX2_entry 32 = .ok (.iload_n 2, 1) := by decide +kernel
theorem dX2_entry_33 : decode cX2_entry 33 = .ok (.tableswitch 48 0 2 #[27, 34, 41], 27) := by decide +kernel
theorem dX2_entry_60 : decode cX2_entry 60 = .ok (.aload_n 0, 1) := by decide +kernel
theorem dX2_entry_61 : decode cX2_entry 61 = .ok (.getfield 9, 3) := by decide +kernel
theorem dX2_entry_64 : decode cX2_entry 64 = .ok (.iload_n 3, 1) := by decide +kernel
theorem dX2_entry_65 : decode cX2_entry 65 = .ok (.iaload, 1) := by decide +kernel
theorem dX2_entry_66 : decode cX2_entry 66 = .ok (.ireturn, 1) := by decide +kernel
theorem dX2_entry_67 : decode cX2_entry 67 = .ok (.aload_n 0, 1) := by decide +kernel
theorem dX2_entry_68 : decode cX2_entry 68 = .ok (.getfield 15, 3) := by decide +kernel
theorem dX2_entry_71 : decode cX2_entry 71 = .ok (.iload_n 3, 1) := by decide +kernel
theorem dX2_entry_72 : decode cX2_entry 72 = .ok (.iaload, 1) := by decide +kernel
theorem dX2_entry_73 : decode cX2_entry 73 = .ok (.ireturn, 1) := by decide +kernel
theorem dX2_entry_74 : decode cX2_entry 74 = .ok (.aload_n 0, 1) := by decide +kernel
theorem dX2_entry_75 : decode cX2_entry 75 = .ok (.getfield 18, 3) := by decide +kernel
theorem dX2_entry_78 : decode cX2_entry 78 = .ok (.iload_n 3, 1) := by decide +kernel
theorem dX2_entry_79 : decode cX2_entry 79 = .ok (.iaload, 1) := by decide +kernel
theorem dX2_entry_80 : decode cX2_entry 80 = .ok (.ireturn, 1) := by decide +kernel
theorem dX2_entry_81 : decode cX2_entry 81 = .ok (.iconst (-1), 1) := by decide +kernel
theorem dX2_entry_82 : decode cX2_entry 82 = .ok (.ireturn, 1) := by decide +kernel
theorem dX2_placeOf_0 : decode cX2_placeOf 0 = .ok (.iload_n 0, 1) := by decide +kernel
theorem dX2_placeOf_1 : decode cX2_placeOf 1 = .ok (.bipush 16, 2) := by decide +kernel
theorem dX2_placeOf_3 : decode cX2_placeOf 3 = .ok (.invokestatic 29, 3) := by decide +kernel
theorem dX2_placeOf_6 : decode cX2_placeOf 6 = .ok (.ireturn, 1) := by decide +kernel
theorem dX6_init_0 : decode cX6_init 0 = .ok (.aload_n 0, 1) := by decide +kernel
theorem dX6_init_1 : decode cX6_init 1 = .ok (.invokespecial 3, 3) := by decide +kernel
theorem dX6_init_4 : decode cX6_init 4 = .ok (.aload_n 0, 1) := by decide +kernel
theorem dX6_init_5 : decode cX6_init 5 = .ok (.bipush 64, 2) := by decide +kernel
theorem dX6_init_7 : decode cX6_init 7 = .ok (.newarray .int, 2) := by decide +kernel
theorem dX6_init_9 : decode cX6_init 9 = .ok (.putfield 9, 3) := by decide +kernel
theorem dX6_init_12 : decode cX6_init 12 = .ok (.aload_n 0, 1) := by decide +kernel
theorem dX6_init_13 : decode cX6_init 13 = .ok (.iload_n 1, 1) := by decide +kernel
theorem dX6_init_14 : decode cX6_init 14 = .ok (.putfield 15, 3) := by decide +kernel
theorem dX6_init_17 : decode cX6_init 17 = .ok (.return_, 1) := by decide +kernel
theorem dX6_retirement_0 : decode cX6_retirement 0 = .ok (.aload_n 0, 1) := by decide +kernel
theorem dX6_retirement_1 : decode cX6_retirement 1 = .ok (.getfield 15, 3) := by decide +kernel
theorem dX6_retirement_4 : decode cX6_retirement 4 = .ok (.iload_n 1, 1) := by decide +kernel
theorem dX6_retirement_5 : decode cX6_retirement 5 = .ok (.imul, 1) := by decide +kernel
theorem dX6_retirement_6 : decode cX6_retirement 6 = .ok (.iload_n 2, 1) := by decide +kernel
theorem dX6_retirement_7 : decode cX6_retirement 7 = .ok (.isub, 1) := by decide +kernel
theorem dX6_retirement_8 : decode cX6_retirement 8 = .ok (.iconst 4, 1) := by decide +kernel
theorem dX6_retirement_9 : decode cX6_retirement 9 = .ok (.aload_n 0, 1) := by decide +kernel
theorem dX6_retirement_10 : decode cX6_retirement 10 = .ok (.getfield 15, 3) := by decide +kernel
theorem dX6_retirement_13 : decode cX6_retirement 13 = .ok (.imul, 1) := by decide +kernel
theorem dX6_retirement_14 : decode cX6_retirement 14 = .ok (.invokestatic 19, 3) := by decide +kernel
theorem dX6_retirement_17 : decode cX6_retirement 17 = .ok (.istore_n 3, 1) := by decide +kernel
theorem dX6_retirement_18 : decode cX6_retirement 18 = .ok (.iload_n 2, 1) := by decide +kernel
theorem dX6_retirement_19 : decode cX6_retirement 19 = .ok (.iload_n 3, 1) := by decide +kernel
theorem dX6_retirement_20 : decode cX6_retirement 20 = .ok (.iadd, 1) := by decide +kernel
theorem dX6_retirement_21 : decode cX6_retirement 21 = .ok (.aload_n 0, 1) := by decide +kernel
theorem dX6_retirement_22 : decode cX6_retirement 22 = .ok (.getfield 15, 3) := by decide +kernel
theorem dX6_retirement_25 : decode cX6_retirement 25 = .ok (.iadd, 1) := by decide +kernel
theorem dX6_retirement_26 : decode cX6_retirement 26 = .ok (.ireturn, 1) := by decide +kernel
theorem dX8_init_0 : decode cX8_init 0 = .ok (.aload_n 0, 1) := by decide +kernel
theorem dX8_init_1 : decode cX8_init 1 = .ok (.invokespecial 3, 3) := by decide +kernel
theorem dX8_init_4 : decode cX8_init 4 = .ok (.aload_n 0, 1) := by decide +kernel
theorem dX8_init_5 : decode cX8_init 5 = .ok (.bipush 16, 2) := by decide +kernel
theorem dX8_init_7 : decode cX8_init 7 = .ok (.newarray .int, 2) := by decide +kernel
theorem dX8_init_9 : decode cX8_init 9 = .ok (.putfield 9, 3) := by decide +kernel
theorem dX8_init_12 : decode cX8_init 12 = .ok (.aload_n 0, 1) := by decide +kernel
theorem dX8_init_13 : decode cX8_init 13 = .ok (.sipush 128, 3) := by decide +kernel
theorem dX8_init_16 : decode cX8_init 16 = .ok (.newarray .int, 2) := by decide +kernel
theorem dX8_init_18 : decode cX8_init 18 = .ok (.putfield 15, 3) := by decide +kernel
theorem dX8_init_21 : decode cX8_init 21 = .ok (.aload_n 0, 1) := by decide +kernel
theorem dX8_init_22 : decode cX8_init 22 = .ok (.new 18, 3) := by decide +kernel
theorem dX8_init_25 : decode cX8_init 25 = .ok (.dup, 1) := by decide +kernel
theorem dX8_init_26 : decode cX8_init 26 = .ok (.invokespecial 20, 3) := by decide +kernel
theorem dX8_init_29 : decode cX8_init 29 = .ok (.putfield 21, 3) := by decide +kernel
theorem dX8_init_32 : decode cX8_init 32 = .ok (.aload_n 0, 1) := by decide +kernel
theorem dX8_init_33 : decode cX8_init 33 = .ok (.iconst 4, 1) := by decide +kernel
theorem dX8_init_34 : decode cX8_init 34 = .ok (.newarray .int, 2) := by decide +kernel
theorem dX8_init_36 : decode cX8_init 36 = .ok (.putfield 25, 3) := by decide +kernel
theorem dX8_init_39 : decode cX8_init 39 = .ok (.aload_n 0, 1) := by decide +kernel
theorem dX8_init_40 : decode cX8_init 40 = .ok (.iconst 0, 1) := by decide +kernel
theorem dX8_init_41 : decode cX8_init 41 = .ok (.putfield 28, 3) := by decide +kernel
theorem dX8_init_44 : decode cX8_init 44 = .ok (.aload_n 0, 1) := by decide +kernel
theorem dX8_init_45 : decode cX8_init 45 = .ok (.iload_n 1, 1) := by decide +kernel
theorem dX8_init_46 : decode cX8_init 46 = .ok (.putfield 32, 3) := by decide +kernel
theorem dX8_init_49 : decode cX8_init 49 = .ok (.return_, 1) := by decide +kernel
theorem dX8_begin_0 : decode cX8_begin 0 = .ok (.aload_n 0, 1) := by decide +kernel
theorem dX8_begin_1 : decode cX8_begin 1 = .ok (.iconst 1, 1) := by decide +kernel
theorem dX8_begin_2 : decode cX8_begin 2 = .ok (.putfield 28, 3) := by decide +kernel
theorem dX8_begin_5 : decode cX8_begin 5 = .ok (.aload_n 0, 1) := by decide +kernel
theorem dX8_begin_6 : decode cX8_begin 6 = .ok (.iload_n 1, 1) := by decide +kernel
theorem dX8_begin_7 : decode cX8_begin 7 = .ok (.putfield 35, 3) := by decide +kernel
theorem dX8_begin_10 : decode cX8_begin 10 = .ok (.aload_n 0, 1) := by decide +kernel
theorem dX8_begin_11 : decode cX8_begin 11 = .ok (.iload_n 2, 1) := by decide +kernel
theorem dX8_begin_12 : decode cX8_begin 12 = .ok (.putfield 38, 3) := by decide +kernel
theorem dX8_begin_15 : decode cX8_begin 15 = .ok (.return_, 1) := by decide +kernel
theorem dX8_condition_0 : decode cX8_condition 0 = .ok (.iload_n 1, 1) := by decide +kernel
theorem dX8_condition_1 : decode cX8_condition 1 = .ok (.tableswitch 54 0 3 #[31, 36, 41, 49], 31) := by decide +kernel
theorem dX8_condition_32 : decode cX8_condition 32 = .ok (.aload_n 0, 1) := by decide +kernel
theorem dX8_condition_33 : decode cX8_condition 33 = .ok (.getfield 28, 3) := by decide +kernel
theorem dX8_condition_36 : decode cX8_condition 36 = .ok (.ireturn, 1) := by decide +kernel
theorem dX8_condition_37 : decode cX8_condition 37 = .ok (.aload_n 0, 1) := by decide +kernel
theorem dX8_condition_38 : decode cX8_condition 38 = .ok (.getfield 35, 3) := by decide +kernel
theorem dX8_condition_41 : decode cX8_condition 41 = .ok (.ireturn, 1) := by decide +kernel
theorem dX8_condition_42 : decode cX8_condition 42 = .ok (.aload_n 0, 1) := by decide +kernel
theorem dX8_condition_43 : decode cX8_condition 43 = .ok (.getfield 21, 3) := by decide +kernel
theorem dX8_condition_46 : decode cX8_condition 46 = .ok (.getfield 41, 3) := by decide +kernel
theorem dX8_condition_49 : decode cX8_condition 49 = .ok (.ireturn, 1) := by decide +kernel
theorem dX8_condition_50 : decode cX8_condition 50 = .ok (.aload_n 0, 1) := by decide +kernel
theorem dX8_condition_51 : decode cX8_condition 51 = .ok (.getfield 38, 3) := by decide +kernel
theorem dX8_condition_54 : decode cX8_condition 54 = .ok (.ireturn, 1) := by decide +kernel
theorem dX8_condition_55 : decode cX8_condition 55 = .ok (.iload_n 1, 1) := by decide +kernel
theorem dX8_condition_56 : decode cX8_condition 56 = .ok (.iconst 4, 1) := by decide +kernel
theorem dX8_condition_57 : decode cX8_condition 57 = .ok (.if_icmp .lt 20, 3) := by decide +kernel
theorem dX8_condition_60 : decode cX8_condition 60 = .ok (.iload_n 1, 1) := by decide +kernel
theorem dX8_condition_61 : decode cX8_condition 61 = .ok (.bipush 8, 2) := by decide +kernel
theorem dX8_condition_63 : decode cX8_condition 63 = .ok (.if_icmp .ge 14, 3) := by decide +kernel
theorem dX8_condition_66 : decode cX8_condition 66 = .ok (.aload_n 0, 1) := by decide +kernel
theorem dX8_condition_67 : decode cX8_condition 67 = .ok (.getfield 25, 3) := by decide +kernel
theorem dX8_condition_70 : decode cX8_condition 70 = .ok (.iload_n 1, 1) := by decide +kernel
theorem dX8_condition_71 : decode cX8_condition 71 = .ok (.iconst 4, 1) := by decide +kernel
theorem dX8_condition_72 : decode cX8_condition 72 = .ok (.isub, 1) := by decide +kernel
theorem dX8_condition_73 : decode cX8_condition 73 = .ok (.iaload, 1) := by decide +kernel
theorem dX8_condition_74 : decode cX8_condition 74 = .ok (.goto 4, 3) := by decide +kernel
theorem dX8_condition_77 : decode cX8_condition 77 = .ok (.iconst (-1), 1) := by decide +kernel
theorem dX8_condition_78 : decode cX8_condition 78 = .ok (.ireturn, 1) := by decide +kernel
theorem dX8_takeTurn_0 : decode cX8_takeTurn 0 = .ok (.aload_n 0, 1) := by decide +kernel
theorem dX8_takeTurn_1 : decode cX8_takeTurn 1 = .ok (.getfield 28, 3) := by decide +kernel
theorem dX8_takeTurn_4 : decode cX8_takeTurn 4 = .ok (.iconst 1, 1) := by decide +kernel
theorem dX8_takeTurn_5 : decode cX8_takeTurn 5 = .ok (.if_icmp .ne 11, 3) := by decide +kernel
theorem dX8_takeTurn_8 : decode cX8_takeTurn 8 = .ok (.iload_n 1, 1) := by decide +kernel
theorem dX8_takeTurn_9 : decode cX8_takeTurn 9 = .ok (.aload_n 0, 1) := by decide +kernel
theorem dX8_takeTurn_10 : decode cX8_takeTurn 10 = .ok (.getfield 38, 3) := by decide +kernel
theorem dX8_takeTurn_13 : decode cX8_takeTurn 13 = .ok (.if_icmp .ge 5, 3) := by decide +kernel
theorem dX8_takeTurn_16 : decode cX8_takeTurn 16 = .ok (.iconst 0, 1) := by decide +kernel
theorem dX8_takeTurn_17 : decode cX8_takeTurn 17 = .ok (.ireturn, 1) := by decide +kernel
theorem dX8_takeTurn_18 : decode cX8_takeTurn 18 = .ok (.aload_n 0, 1) := by decide +kernel
theorem dX8_takeTurn_19 : decode cX8_takeTurn 19 = .ok (.iload_n 1, 1) := by decide +kernel
theorem dX8_takeTurn_20 : decode cX8_takeTurn 20 = .ok (.aload_n 2, 1) := by decide +kernel
theorem dX8_takeTurn_21 : decode cX8_takeTurn 21 = .ok (.invokevirtual 44, 3) := by decide +kernel
theorem dX8_takeTurn_24 : decode cX8_takeTurn 24 = .ok (.astore_n 3, 1) := by decide +kernel
theorem dX8_takeTurn_25 : decode cX8_takeTurn 25 = .ok (.aload_n 3, 1) := by decide +kernel
theorem dX8_takeTurn_26 : decode cX8_takeTurn 26 = .ok (.getstatic 48, 3) := by decide +kernel
theorem dX8_takeTurn_29 : decode cX8_takeTurn 29 = .ok (.if_acmp .ne 8, 3) := by decide +kernel
theorem dX8_takeTurn_32 : decode cX8_takeTurn 32 = .ok (.aload_n 0, 1) := by decide +kernel
theorem dX8_takeTurn_33 : decode cX8_takeTurn 33 = .ok (.iconst 3, 1) := by decide +kernel
theorem dX8_takeTurn_34 : decode cX8_takeTurn 34 = .ok (.putfield 28, 3) := by decide +kernel
theorem dX8_takeTurn_37 : decode cX8_takeTurn 37 = .ok (.aload_n 3, 1) := by decide +kernel
theorem dX8_takeTurn_38 : decode cX8_takeTurn 38 = .ok (.getstatic 54, 3) := by decide +kernel
theorem dX8_takeTurn_41 : decode cX8_takeTurn 41 = .ok (.if_acmp .eq 5, 3) := by decide +kernel
theorem dX8_takeTurn_44 : decode cX8_takeTurn 44 = .ok (.iconst 0, 1) := by decide +kernel
theorem dX8_takeTurn_45 : decode cX8_takeTurn 45 = .ok (.ireturn, 1) := by decide +kernel
theorem dX8_takeTurn_46 : decode cX8_takeTurn 46 = .ok (.aload_n 0, 1) := by decide +kernel
theorem dX8_takeTurn_47 : decode cX8_takeTurn 47 = .ok (.getfield 21, 3) := by decide +kernel
theorem dX8_takeTurn_50 : decode cX8_takeTurn 50 = .ok (.aload_n 0, 1) := by decide +kernel
theorem dX8_takeTurn_51 : decode cX8_takeTurn 51 = .ok (.getfield 35, 3) := by decide +kernel
theorem dX8_takeTurn_54 : decode cX8_takeTurn 54 = .ok (.iload_n 1, 1) := by decide +kernel
theorem dX8_takeTurn_55 : decode cX8_takeTurn 55 = .ok (.aload_n 0, 1) := by decide +kernel
theorem dX8_takeTurn_56 : decode cX8_takeTurn 56 = .ok (.getfield 57, 3) := by decide +kernel
theorem dX8_takeTurn_59 : decode cX8_takeTurn 59 = .ok (.invokevirtual 60, 3) := by decide +kernel
theorem dX8_takeTurn_62 : decode cX8_takeTurn 62 = .ok (.aload_n 0, 1) := by decide +kernel
theorem dX8_takeTurn_63 : decode cX8_takeTurn 63 = .ok (.aload_n 0, 1) := by decide +kernel
theorem dX8_takeTurn_64 : decode cX8_takeTurn 64 = .ok (.getfield 64, 3) := by decide +kernel
theorem dX8_takeTurn_67 : decode cX8_takeTurn 67 = .ok (.putfield 35, 3) := by decide +kernel
theorem dX8_takeTurn_70 : decode cX8_takeTurn 70 = .ok (.aload_n 0, 1) := by decide +kernel
theorem dX8_takeTurn_71 : decode cX8_takeTurn 71 = .ok (.aload_n 0, 1) := by decide +kernel
theorem dX8_takeTurn_72 : decode cX8_takeTurn 72 = .ok (.getfield 57, 3) := by decide +kernel
theorem dX8_takeTurn_75 : decode cX8_takeTurn 75 = .ok (.putfield 38, 3) := by decide +kernel
theorem dX8_takeTurn_78 : decode cX8_takeTurn 78 = .ok (.iconst 1, 1) := by decide +kernel
theorem dX8_takeTurn_79 : decode cX8_takeTurn 79 = .ok (.ireturn, 1) := by decide +kernel
theorem dX8_attempt_0 : decode cX8_attempt 0 = .ok (.aload_n 0, 1) := by decide +kernel
theorem dX8_attempt_1 : decode cX8_attempt 1 = .ok (.getfield 35, 3) := by decide +kernel
theorem dX8_attempt_4 : decode cX8_attempt 4 = .ok (.invokestatic 67, 3) := by decide +kernel
theorem dX8_attempt_7 : decode cX8_attempt 7 = .ok (.ifCond .eq 13, 3) := by decide +kernel
theorem dX8_attempt_10 : decode cX8_attempt 10 = .ok (.aload_n 0, 1) := by decide +kernel
theorem dX8_attempt_11 : decode cX8_attempt 11 = .ok (.getfield 35, 3) := by decide +kernel
theorem dX8_attempt_14 : decode cX8_attempt 14 = .ok (.invokestatic 71, 3) := by decide +kernel
theorem dX8_attempt_17 : decode cX8_attempt 17 = .ok (.ifCond .ne 7, 3) := by decide +kernel
theorem dX8_attempt_20 : decode cX8_attempt 20 = .ok (.getstatic 48, 3) := by decide +kernel
theorem dX8_attempt_23 : decode cX8_attempt 23 = .ok (.areturn, 1) := by decide +kernel
theorem dX8_attempt_24 : decode cX8_attempt 24 = .ok (.aload_n 0, 1) := by decide +kernel
theorem dX8_attempt_25 : decode cX8_attempt 25 = .ok (.getfield 15, 3) := by decide +kernel
theorem dX8_attempt_28 : decode cX8_attempt 28 = .ok (.aload_n 0, 1) := by decide +kernel
theorem dX8_attempt_29 : decode cX8_attempt 29 = .ok (.getfield 35, 3) := by decide +kernel
theorem dX8_attempt_32 : decode cX8_attempt 32 = .ok (.iconst 2, 1) := by decide +kernel
theorem dX8_attempt_33 : decode cX8_attempt 33 = .ok (.ishr, 1) := by decide +kernel
theorem dX8_attempt_34 : decode cX8_attempt 34 = .ok (.iaload, 1) := by decide +kernel
theorem dX8_attempt_35 : decode cX8_attempt 35 = .ok (.istore_n 3, 1) := by decide +kernel
theorem dX8_attempt_36 : decode cX8_attempt 36 = .ok (.aload_n 0, 1) := by decide +kernel
theorem dX8_attempt_37 : decode cX8_attempt 37 = .ok (.aload_n 0, 1) := by decide +kernel
theorem dX8_attempt_38 : decode cX8_attempt 38 = .ok (.getfield 35, 3) := by decide +kernel
theorem dX8_attempt_41 : decode cX8_attempt 41 = .ok (.iconst 4, 1) := by decide +kernel
theorem dX8_attempt_42 : decode cX8_attempt 42 = .ok (.iadd, 1) := by decide +kernel
theorem dX8_attempt_43 : decode cX8_attempt 43 = .ok (.putfield 64, 3) := by decide +kernel
theorem dX8_attempt_46 : decode cX8_attempt 46 = .ok (.aload_n 0, 1) := by decide +kernel
theorem dX8_attempt_47 : decode cX8_attempt 47 = .ok (.iload_n 1, 1) := by decide +kernel
theorem dX8_attempt_48 : decode cX8_attempt 48 = .ok (.iconst 4, 1) := by decide +kernel
theorem dX8_attempt_49 : decode cX8_attempt 49 = .ok (.iadd, 1) := by decide +kernel
theorem dX8_attempt_50 : decode cX8_attempt 50 = .ok (.putfield 57, 3) := by decide +kernel
theorem dX8_attempt_53 : decode cX8_attempt 53 = .ok (.iload_n 3, 1) := by decide +kernel
theorem dX8_attempt_54 : decode cX8_attempt 54 = .ok (.invokestatic 74, 3) := by decide +kernel
theorem dX8_attempt_57 : decode cX8_attempt 57 = .ok (.lookupswitch 156 #[(3, 115), (11, 143), (19, 131), (35, 123), (51, 137), (55, 91), (99, 109), (103, 103), (111, 97), (115, 150)], 91) := by decide +kernel
theorem dX8_attempt_148 : decode cX8_attempt 148 = .ok (.aload_n 0, 1) := by decide +kernel
theorem dX8_attempt_149 : decode cX8_attempt 149 = .ok (.iload_n 3, 1) := by decide +kernel
theorem dX8_attempt_150 : decode cX8_attempt 150 = .ok (.invokevirtual 80, 3) := by decide +kernel
theorem dX8_attempt_153 : decode cX8_attempt 153 = .ok (.areturn, 1) := by decide +kernel
theorem dX8_attempt_154 : decode cX8_attempt 154 = .ok (.aload_n 0, 1) := by decide +kernel
theorem dX8_attempt_155 : decode cX8_attempt 155 = .ok (.iload_n 3, 1) := by decide +kernel
theorem dX8_attempt_156 : decode cX8_attempt 156 = .ok (.invokevirtual 84, 3) := by decide +kernel
theorem dX8_attempt_159 : decode cX8_attempt 159 = .ok (.areturn, 1) := by decide +kernel
theorem dX8_attempt_160 : decode cX8_attempt 160 = .ok (.aload_n 0, 1) := by decide +kernel
theorem dX8_attempt_161 : decode cX8_attempt 161 = .ok (.iload_n 3, 1) := by decide +kernel
theorem dX8_attempt_162 : decode cX8_attempt 162 = .ok (.invokevirtual 87, 3) := by decide +kernel
theorem dX8_attempt_165 : decode cX8_attempt 165 = .ok (.areturn, 1) := by decide +kernel
theorem dX8_attempt_166 : decode cX8_attempt 166 = .ok (.aload_n 0, 1) := by decide +kernel
theorem dX8_attempt_167 : decode cX8_attempt 167 = .ok (.iload_n 3, 1) := by decide +kernel
theorem dX8_attempt_168 : decode cX8_attempt 168 = .ok (.invokevirtual 90, 3) := by decide +kernel
theorem dX8_attempt_171 : decode cX8_attempt 171 = .ok (.areturn, 1) := by decide +kernel
theorem dX8_attempt_172 : decode cX8_attempt 172 = .ok (.aload_n 0, 1) := by decide +kernel
theorem dX8_attempt_173 : decode cX8_attempt 173 = .ok (.iload_n 3, 1) := by decide +kernel
theorem dX8_attempt_174 : decode cX8_attempt 174 = .ok (.iload_n 1, 1) := by decide +kernel
theorem dX8_attempt_175 : decode cX8_attempt 175 = .ok (.aload_n 2, 1) := by decide +kernel
theorem dX8_attempt_176 : decode cX8_attempt 176 = .ok (.invokevirtual 93, 3) := by decide +kernel
theorem dX8_attempt_179 : decode cX8_attempt 179 = .ok (.areturn, 1) := by decide +kernel
theorem dX8_attempt_180 : decode cX8_attempt 180 = .ok (.aload_n 0, 1) := by decide +kernel
theorem dX8_attempt_181 : decode cX8_attempt 181 = .ok (.iload_n 3, 1) := by decide +kernel
theorem dX8_attempt_182 : decode cX8_attempt 182 = .ok (.iload_n 1, 1) := by decide +kernel
theorem dX8_attempt_183 : decode cX8_attempt 183 = .ok (.aload_n 2, 1) := by decide +kernel
theorem dX8_attempt_184 : decode cX8_attempt 184 = .ok (.invokevirtual 97, 3) := by decide +kernel
theorem dX8_attempt_187 : decode cX8_attempt 187 = .ok (.areturn, 1) := by decide +kernel
theorem dX8_attempt_188 : decode cX8_attempt 188 = .ok (.aload_n 0, 1) := by decide +kernel
theorem dX8_attempt_189 : decode cX8_attempt 189 = .ok (.iload_n 3, 1) := by decide +kernel
theorem dX8_attempt_190 : decode cX8_attempt 190 = .ok (.invokevirtual 100, 3) := by decide +kernel
theorem dX8_attempt_193 : decode cX8_attempt 193 = .ok (.areturn, 1) := by decide +kernel
theorem dX8_attempt_194 : decode cX8_attempt 194 = .ok (.aload_n 0, 1) := by decide +kernel
theorem dX8_attempt_195 : decode cX8_attempt 195 = .ok (.iload_n 3, 1) := by decide +kernel
theorem dX8_attempt_196 : decode cX8_attempt 196 = .ok (.invokevirtual 103, 3) := by decide +kernel
theorem dX8_attempt_199 : decode cX8_attempt 199 = .ok (.areturn, 1) := by decide +kernel
theorem dX8_attempt_200 : decode cX8_attempt 200 = .ok (.aload_n 0, 1) := by decide +kernel
theorem dX8_attempt_201 : decode cX8_attempt 201 = .ok (.iload_n 3, 1) := by decide +kernel
theorem dX8_attempt_202 : decode cX8_attempt 202 = .ok (.iload_n 1, 1) := by decide +kernel
theorem dX8_attempt_203 : decode cX8_attempt 203 = .ok (.invokevirtual 106, 3) := by decide +kernel
theorem dX8_attempt_206 : decode cX8_attempt 206 = .ok (.areturn, 1) := by decide +kernel
theorem dX8_attempt_207 : decode cX8_attempt 207 = .ok (.aload_n 0, 1) := by decide +kernel
theorem dX8_attempt_208 : decode cX8_attempt 208 = .ok (.iload_n 3, 1) := by decide +kernel
theorem dX8_attempt_209 : decode cX8_attempt 209 = .ok (.invokevirtual 110, 3) := by decide +kernel
theorem dX8_attempt_212 : decode cX8_attempt 212 = .ok (.areturn, 1) := by decide +kernel
theorem dX8_attempt_213 : decode cX8_attempt 213 = .ok (.getstatic 48, 3) := by decide +kernel
theorem dX8_attempt_216 : decode cX8_attempt 216 = .ok (.areturn, 1) := by decide +kernel
theorem dX8_loadUpper_0 : decode cX8_loadUpper 0 = .ok (.iload_n 1, 1) := by decide +kernel
theorem dX8_loadUpper_1 : decode cX8_loadUpper 1 = .ok (.invokestatic 113, 3) := by decide +kernel
theorem dX8_loadUpper_4 : decode cX8_loadUpper 4 = .ok (.istore_n 2, 1) := by decide +kernel
theorem dX8_loadUpper_5 : decode cX8_loadUpper 5 = .ok (.iload_n 2, 1) := by decide +kernel
theorem dX8_loadUpper_6 : decode cX8_loadUpper 6 = .ok (.invokestatic 116, 3) := by decide +kernel
theorem dX8_loadUpper_9 : decode cX8_loadUpper 9 = .ok (.ifCond .ne 7, 3) := by decide +kernel
theorem dX8_loadUpper_12 : decode cX8_loadUpper 12 = .ok (.getstatic 48, 3) := by decide +kernel
theorem dX8_loadUpper_15 : decode cX8_loadUpper 15 = .ok (.areturn, 1) := by decide +kernel
theorem dX8_loadUpper_16 : decode cX8_loadUpper 16 = .ok (.aload_n 0, 1) := by decide +kernel
theorem dX8_loadUpper_17 : decode cX8_loadUpper 17 = .ok (.iload_n 2, 1) := by decide +kernel
theorem dX8_loadUpper_18 : decode cX8_loadUpper 18 = .ok (.iload_n 1, 1) := by decide +kernel
theorem dX8_loadUpper_19 : decode cX8_loadUpper 19 = .ok (.invokestatic 119, 3) := by decide +kernel
theorem dX8_loadUpper_22 : decode cX8_loadUpper 22 = .ok (.invokevirtual 122, 3) := by decide +kernel
theorem dX8_loadUpper_25 : decode cX8_loadUpper 25 = .ok (.getstatic 54, 3) := by decide +kernel
theorem dX8_loadUpper_28 : decode cX8_loadUpper 28 = .ok (.areturn, 1) := by decide +kernel
theorem dX8_jump_0 : decode cX8_jump 0 = .ok (.iload_n 1, 1) := by decide +kernel
theorem dX8_jump_1 : decode cX8_jump 1 = .ok (.invokestatic 113, 3) := by decide +kernel
theorem dX8_jump_4 : decode cX8_jump 4 = .ok (.istore_n 2, 1) := by decide +kernel
theorem dX8_jump_5 : decode cX8_jump 5 = .ok (.iload_n 2, 1) := by decide +kernel
theorem dX8_jump_6 : decode cX8_jump 6 = .ok (.invokestatic 116, 3) := by decide +kernel
theorem dX8_jump_9 : decode cX8_jump 9 = .ok (.ifCond .ne 7, 3) := by decide +kernel
theorem dX8_jump_12 : decode cX8_jump 12 = .ok (.getstatic 48, 3) := by decide +kernel
theorem dX8_jump_15 : decode cX8_jump 15 = .ok (.areturn, 1) := by decide +kernel
theorem dX8_jump_16 : decode cX8_jump 16 = .ok (.aload_n 0, 1) := by decide +kernel
theorem dX8_jump_17 : decode cX8_jump 17 = .ok (.iload_n 2, 1) := by decide +kernel
theorem dX8_jump_18 : decode cX8_jump 18 = .ok (.aload_n 0, 1) := by decide +kernel
theorem dX8_jump_19 : decode cX8_jump 19 = .ok (.getfield 64, 3) := by decide +kernel
theorem dX8_jump_22 : decode cX8_jump 22 = .ok (.invokevirtual 122, 3) := by decide +kernel
theorem dX8_jump_25 : decode cX8_jump 25 = .ok (.aload_n 0, 1) := by decide +kernel
theorem dX8_jump_26 : decode cX8_jump 26 = .ok (.aload_n 0, 1) := by decide +kernel
theorem dX8_jump_27 : decode cX8_jump 27 = .ok (.getfield 35, 3) := by decide +kernel
theorem dX8_jump_30 : decode cX8_jump 30 = .ok (.iload_n 1, 1) := by decide +kernel
theorem dX8_jump_31 : decode cX8_jump 31 = .ok (.invokestatic 126, 3) := by decide +kernel
theorem dX8_jump_34 : decode cX8_jump 34 = .ok (.iadd, 1) := by decide +kernel
theorem dX8_jump_35 : decode cX8_jump 35 = .ok (.putfield 64, 3) := by decide +kernel
theorem dX8_jump_38 : decode cX8_jump 38 = .ok (.getstatic 54, 3) := by decide +kernel
theorem dX8_jump_41 : decode cX8_jump 41 = .ok (.areturn, 1) := by decide +kernel
theorem dX8_jumpToRegister_0 : decode cX8_jumpToRegister 0 = .ok (.iload_n 1, 1) := by decide +kernel
theorem dX8_jumpToRegister_1 : decode cX8_jumpToRegister 1 = .ok (.invokestatic 113, 3) := by decide +kernel
theorem dX8_jumpToRegister_4 : decode cX8_jumpToRegister 4 = .ok (.istore_n 2, 1) := by decide +kernel
theorem dX8_jumpToRegister_5 : decode cX8_jumpToRegister 5 = .ok (.iload_n 1, 1) := by decide +kernel
theorem dX8_jumpToRegister_6 : decode cX8_jumpToRegister 6 = .ok (.invokestatic 129, 3) := by decide +kernel
theorem dX8_jumpToRegister_9 : decode cX8_jumpToRegister 9 = .ok (.istore_n 3, 1) := by decide +kernel
theorem dX8_jumpToRegister_10 : decode cX8_jumpToRegister 10 = .ok (.iload_n 1, 1) := by decide +kernel
theorem dX8_jumpToRegister_11 : decode cX8_jumpToRegister 11 = .ok (.invokestatic 132, 3) := by decide +kernel
theorem dX8_jumpToRegister_14 : decode cX8_jumpToRegister 14 = .ok (.ifCond .ne 17, 3) := by decide +kernel
theorem dX8_jumpToRegister_17 : decode cX8_jumpToRegister 17 = .ok (.iload_n 2, 1) := by decide +kernel
theorem dX8_jumpToRegister_18 : decode cX8_jumpToRegister 18 = .ok (.invokestatic 116, 3) := by decide +kernel
theorem dX8_jumpToRegister_21 : decode cX8_jumpToRegister 21 = .ok (.ifCond .eq 10, 3) := by decide +kernel
theorem dX8_jumpToRegister_24 : decode cX8_jumpToRegister 24 = .ok (.iload_n 3, 1) := by decide +kernel
theorem dX8_jumpToRegister_25 : decode cX8_jumpToRegister 25 = .ok (.invokestatic 116, 3) := by decide +kernel
theorem dX8_jumpToRegister_28 : decode cX8_jumpToRegister 28 = .ok (.ifCond .ne 7, 3) := by decide +kernel
theorem dX8_jumpToRegister_31 : decode cX8_jumpToRegister 31 = .ok (.getstatic 48, 3) := by decide +kernel
theorem dX8_jumpToRegister_34 : decode cX8_jumpToRegister 34 = .ok (.areturn, 1) := by decide +kernel
theorem dX8_jumpToRegister_35 : decode cX8_jumpToRegister 35 = .ok (.aload_n 0, 1) := by decide +kernel
theorem dX8_jumpToRegister_36 : decode cX8_jumpToRegister 36 = .ok (.getfield 9, 3) := by decide +kernel
theorem dX8_jumpToRegister_39 : decode cX8_jumpToRegister 39 = .ok (.iload_n 3, 1) := by decide +kernel
theorem dX8_jumpToRegister_40 : decode cX8_jumpToRegister 40 = .ok (.iaload, 1) := by decide +kernel
theorem dX8_jumpToRegister_41 : decode cX8_jumpToRegister 41 = .ok (.iload_n 1, 1) := by decide +kernel
theorem dX8_jumpToRegister_42 : decode cX8_jumpToRegister 42 = .ok (.invokestatic 135, 3) := by decide +kernel
theorem dX8_jumpToRegister_45 : decode cX8_jumpToRegister 45 = .ok (.iadd, 1) := by decide +kernel
theorem dX8_jumpToRegister_46 : decode cX8_jumpToRegister 46 = .ok (.bipush (-2), 2) := by decide +kernel
theorem dX8_jumpToRegister_48 : decode cX8_jumpToRegister 48 = .ok (.iand, 1) := by decide +kernel
theorem dX8_jumpToRegister_49 : decode cX8_jumpToRegister 49 = .ok (.istore 4, 2) := by decide +kernel
theorem dX8_jumpToRegister_51 : decode cX8_jumpToRegister 51 = .ok (.aload_n 0, 1) := by decide +kernel
theorem dX8_jumpToRegister_52 : decode cX8_jumpToRegister 52 = .ok (.iload_n 2, 1) := by decide +kernel
theorem dX8_jumpToRegister_53 : decode cX8_jumpToRegister 53 = .ok (.aload_n 0, 1) := by decide +kernel
theorem dX8_jumpToRegister_54 : decode cX8_jumpToRegister 54 = .ok (.getfield 64, 3) := by decide +kernel
theorem dX8_jumpToRegister_57 : decode cX8_jumpToRegister 57 = .ok (.invokevirtual 122, 3) := by decide +kernel
theorem dX8_jumpToRegister_60 : decode cX8_jumpToRegister 60 = .ok (.aload_n 0, 1) := by decide +kernel
theorem dX8_jumpToRegister_61 : decode cX8_jumpToRegister 61 = .ok (.iload 4, 2) := by decide +kernel
theorem dX8_jumpToRegister_63 : decode cX8_jumpToRegister 63 = .ok (.putfield 64, 3) := by decide +kernel
theorem dX8_jumpToRegister_66 : decode cX8_jumpToRegister 66 = .ok (.getstatic 54, 3) := by decide +kernel
theorem dX8_jumpToRegister_69 : decode cX8_jumpToRegister 69 = .ok (.areturn, 1) := by decide +kernel
theorem dX8_branch_0 : decode cX8_branch 0 = .ok (.iload_n 1, 1) := by decide +kernel
theorem dX8_branch_1 : decode cX8_branch 1 = .ok (.invokestatic 132, 3) := by decide +kernel
theorem dX8_branch_4 : decode cX8_branch 4 = .ok (.istore_n 2, 1) := by decide +kernel
theorem dX8_branch_5 : decode cX8_branch 5 = .ok (.iload_n 1, 1) := by decide +kernel
theorem dX8_branch_6 : decode cX8_branch 6 = .ok (.invokestatic 129, 3) := by decide +kernel
theorem dX8_branch_9 : decode cX8_branch 9 = .ok (.istore_n 3, 1) := by decide +kernel
theorem dX8_branch_10 : decode cX8_branch 10 = .ok (.iload_n 1, 1) := by decide +kernel
theorem dX8_branch_11 : decode cX8_branch 11 = .ok (.invokestatic 138, 3) := by decide +kernel
theorem dX8_branch_14 : decode cX8_branch 14 = .ok (.istore 4, 2) := by decide +kernel
theorem dX8_branch_16 : decode cX8_branch 16 = .ok (.iload_n 2, 1) := by decide +kernel
theorem dX8_branch_17 : decode cX8_branch 17 = .ok (.iconst 2, 1) := by decide +kernel
theorem dX8_branch_18 : decode cX8_branch 18 = .ok (.if_icmp .eq 23, 3) := by decide +kernel
theorem dX8_branch_21 : decode cX8_branch 21 = .ok (.iload_n 2, 1) := by decide +kernel
theorem dX8_branch_22 : decode cX8_branch 22 = .ok (.iconst 3, 1) := by decide +kernel
theorem dX8_branch_23 : decode cX8_branch 23 = .ok (.if_icmp .eq 18, 3) := by decide +kernel
theorem dX8_branch_26 : decode cX8_branch 26 = .ok (.iload_n 3, 1) := by decide +kernel
theorem dX8_branch_27 : decode cX8_branch 27 = .ok (.invokestatic 116, 3) := by decide +kernel
theorem dX8_branch_30 : decode cX8_branch 30 = .ok (.ifCond .eq 11, 3) := by decide +kernel
theorem dX8_branch_33 : decode cX8_branch 33 = .ok (.iload 4, 2) := by decide +kernel
theorem dX8_branch_35 : decode cX8_branch 35 = .ok (.invokestatic 116, 3) := by decide +kernel
theorem dX8_branch_38 : decode cX8_branch 38 = .ok (.ifCond .ne 7, 3) := by decide +kernel
theorem dX8_branch_41 : decode cX8_branch 41 = .ok (.getstatic 48, 3) := by decide +kernel
theorem dX8_branch_44 : decode cX8_branch 44 = .ok (.areturn, 1) := by decide +kernel
theorem dX8_branch_45 : decode cX8_branch 45 = .ok (.iload_n 2, 1) := by decide +kernel
theorem dX8_branch_46 : decode cX8_branch 46 = .ok (.aload_n 0, 1) := by decide +kernel
theorem dX8_branch_47 : decode cX8_branch 47 = .ok (.getfield 9, 3) := by decide +kernel
theorem dX8_branch_50 : decode cX8_branch 50 = .ok (.iload_n 3, 1) := by decide +kernel
theorem dX8_branch_51 : decode cX8_branch 51 = .ok (.iaload, 1) := by decide +kernel
theorem dX8_branch_52 : decode cX8_branch 52 = .ok (.aload_n 0, 1) := by decide +kernel
theorem dX8_branch_53 : decode cX8_branch 53 = .ok (.getfield 9, 3) := by decide +kernel
theorem dX8_branch_56 : decode cX8_branch 56 = .ok (.iload 4, 2) := by decide +kernel
theorem dX8_branch_58 : decode cX8_branch 58 = .ok (.iaload, 1) := by decide +kernel
theorem dX8_branch_59 : decode cX8_branch 59 = .ok (.invokestatic 141, 3) := by decide +kernel
theorem dX8_branch_62 : decode cX8_branch 62 = .ok (.ifCond .eq 16, 3) := by decide +kernel
theorem dX8_branch_65 : decode cX8_branch 65 = .ok (.aload_n 0, 1) := by decide +kernel
theorem dX8_branch_66 : decode cX8_branch 66 = .ok (.aload_n 0, 1) := by decide +kernel
theorem dX8_branch_67 : decode cX8_branch 67 = .ok (.getfield 35, 3) := by decide +kernel
theorem dX8_branch_70 : decode cX8_branch 70 = .ok (.iload_n 1, 1) := by decide +kernel
theorem dX8_branch_71 : decode cX8_branch 71 = .ok (.invokestatic 145, 3) := by decide +kernel
theorem dX8_branch_74 : decode cX8_branch 74 = .ok (.iadd, 1) := by decide +kernel
theorem dX8_branch_75 : decode cX8_branch 75 = .ok (.putfield 64, 3) := by decide +kernel
theorem dX8_branch_78 : decode cX8_branch 78 = .ok (.getstatic 54, 3) := by decide +kernel
theorem dX8_branch_81 : decode cX8_branch 81 = .ok (.areturn, 1) := by decide +kernel
theorem dX8_isSo_0 : decode cX8_isSo 0 = .ok (.iload_n 0, 1) := by decide +kernel
theorem dX8_isSo_1 : decode cX8_isSo 1 = .ok (.tableswitch 93 0 6 #[43, 54, 93, 93, 65, 76, 87], 43) := by decide +kernel
theorem dX8_isSo_44 : decode cX8_isSo 44 = .ok (.iload_n 1, 1) := by decide +kernel
theorem dX8_isSo_45 : decode cX8_isSo 45 = .ok (.iload_n 2, 1) := by decide +kernel
theorem dX8_isSo_46 : decode cX8_isSo 46 = .ok (.if_icmp .ne 7, 3) := by decide +kernel
theorem dX8_isSo_49 : decode cX8_isSo 49 = .ok (.iconst 1, 1) := by decide +kernel
theorem dX8_isSo_50 : decode cX8_isSo 50 = .ok (.goto 4, 3) := by decide +kernel
theorem dX8_isSo_53 : decode cX8_isSo 53 = .ok (.iconst 0, 1) := by decide +kernel
theorem dX8_isSo_54 : decode cX8_isSo 54 = .ok (.ireturn, 1) := by decide +kernel
theorem dX8_isSo_55 : decode cX8_isSo 55 = .ok (.iload_n 1, 1) := by decide +kernel
theorem dX8_isSo_56 : decode cX8_isSo 56 = .ok (.iload_n 2, 1) := by decide +kernel
theorem dX8_isSo_57 : decode cX8_isSo 57 = .ok (.if_icmp .eq 7, 3) := by decide +kernel
theorem dX8_isSo_60 : decode cX8_isSo 60 = .ok (.iconst 1, 1) := by decide +kernel
theorem dX8_isSo_61 : decode cX8_isSo 61 = .ok (.goto 4, 3) := by decide +kernel
theorem dX8_isSo_64 : decode cX8_isSo 64 = .ok (.iconst 0, 1) := by decide +kernel
theorem dX8_isSo_65 : decode cX8_isSo 65 = .ok (.ireturn, 1) := by decide +kernel
theorem dX8_isSo_66 : decode cX8_isSo 66 = .ok (.iload_n 1, 1) := by decide +kernel
theorem dX8_isSo_67 : decode cX8_isSo 67 = .ok (.iload_n 2, 1) := by decide +kernel
theorem dX8_isSo_68 : decode cX8_isSo 68 = .ok (.if_icmp .ge 7, 3) := by decide +kernel
theorem dX8_isSo_71 : decode cX8_isSo 71 = .ok (.iconst 1, 1) := by decide +kernel
theorem dX8_isSo_72 : decode cX8_isSo 72 = .ok (.goto 4, 3) := by decide +kernel
theorem dX8_isSo_75 : decode cX8_isSo 75 = .ok (.iconst 0, 1) := by decide +kernel
theorem dX8_isSo_76 : decode cX8_isSo 76 = .ok (.ireturn, 1) := by decide +kernel
theorem dX8_isSo_77 : decode cX8_isSo 77 = .ok (.iload_n 1, 1) := by decide +kernel
theorem dX8_isSo_78 : decode cX8_isSo 78 = .ok (.iload_n 2, 1) := by decide +kernel
theorem dX8_isSo_79 : decode cX8_isSo 79 = .ok (.if_icmp .lt 7, 3) := by decide +kernel
theorem dX8_isSo_82 : decode cX8_isSo 82 = .ok (.iconst 1, 1) := by decide +kernel
theorem dX8_isSo_83 : decode cX8_isSo 83 = .ok (.goto 4, 3) := by decide +kernel
theorem dX8_isSo_86 : decode cX8_isSo 86 = .ok (.iconst 0, 1) := by decide +kernel
theorem dX8_isSo_87 : decode cX8_isSo 87 = .ok (.ireturn, 1) := by decide +kernel
theorem dX8_isSo_88 : decode cX8_isSo 88 = .ok (.iload_n 1, 1) := by decide +kernel
theorem dX8_isSo_89 : decode cX8_isSo 89 = .ok (.iload_n 2, 1) := by decide +kernel
theorem dX8_isSo_90 : decode cX8_isSo 90 = .ok (.invokestatic 148, 3) := by decide +kernel
theorem dX8_isSo_93 : decode cX8_isSo 93 = .ok (.ireturn, 1) := by decide +kernel
theorem dX8_isSo_94 : decode cX8_isSo 94 = .ok (.iload_n 1, 1) := by decide +kernel
theorem dX8_isSo_95 : decode cX8_isSo 95 = .ok (.iload_n 2, 1) := by decide +kernel
theorem dX8_isSo_96 : decode cX8_isSo 96 = .ok (.invokestatic 148, 3) := by decide +kernel
theorem dX8_isSo_99 : decode cX8_isSo 99 = .ok (.ifCond .ne 7, 3) := by decide +kernel
theorem dX8_isSo_102 : decode cX8_isSo 102 = .ok (.iconst 1, 1) := by decide +kernel
theorem dX8_isSo_103 : decode cX8_isSo 103 = .ok (.goto 4, 3) := by decide +kernel
theorem dX8_isSo_106 : decode cX8_isSo 106 = .ok (.iconst 0, 1) := by decide +kernel
theorem dX8_isSo_107 : decode cX8_isSo 107 = .ok (.ireturn, 1) := by decide +kernel
theorem dX8_isBelowUnsigned_0 : decode cX8_isBelowUnsigned 0 = .ok (.iload_n 0, 1) := by decide +kernel
theorem dX8_isBelowUnsigned_1 : decode cX8_isBelowUnsigned 1 = .ok (.i2l, 1) := by decide +kernel
theorem dX8_isBelowUnsigned_2 : decode cX8_isBelowUnsigned 2 = .ok (.ldc2_w 152, 3) := by decide +kernel
theorem dX8_isBelowUnsigned_5 : decode cX8_isBelowUnsigned 5 = .ok (.land, 1) := by decide +kernel
theorem dX8_isBelowUnsigned_6 : decode cX8_isBelowUnsigned 6 = .ok (.iload_n 1, 1) := by decide +kernel
theorem dX8_isBelowUnsigned_7 : decode cX8_isBelowUnsigned 7 = .ok (.i2l, 1) := by decide +kernel
theorem dX8_isBelowUnsigned_8 : decode cX8_isBelowUnsigned 8 = .ok (.ldc2_w 152, 3) := by decide +kernel
theorem dX8_isBelowUnsigned_11 : decode cX8_isBelowUnsigned 11 = .ok (.land, 1) := by decide +kernel
theorem dX8_isBelowUnsigned_12 : decode cX8_isBelowUnsigned 12 = .ok (.lcmp, 1) := by decide +kernel
theorem dX8_isBelowUnsigned_13 : decode cX8_isBelowUnsigned 13 = .ok (.ifCond .ge 7, 3) := by decide +kernel
theorem dX8_isBelowUnsigned_16 : decode cX8_isBelowUnsigned 16 = .ok (.iconst 1, 1) := by decide +kernel
theorem dX8_isBelowUnsigned_17 : decode cX8_isBelowUnsigned 17 = .ok (.goto 4, 3) := by decide +kernel
theorem dX8_isBelowUnsigned_20 : decode cX8_isBelowUnsigned 20 = .ok (.iconst 0, 1) := by decide +kernel
theorem dX8_isBelowUnsigned_21 : decode cX8_isBelowUnsigned 21 = .ok (.ireturn, 1) := by decide +kernel
theorem dX8_load_0 : decode cX8_load 0 = .ok (.iload_n 1, 1) := by decide +kernel
theorem dX8_load_1 : decode cX8_load 1 = .ok (.invokestatic 132, 3) := by decide +kernel
theorem dX8_load_4 : decode cX8_load 4 = .ok (.istore 4, 2) := by decide +kernel
theorem dX8_load_6 : decode cX8_load 6 = .ok (.iload_n 1, 1) := by decide +kernel
theorem dX8_load_7 : decode cX8_load 7 = .ok (.invokestatic 113, 3) := by decide +kernel
theorem dX8_load_10 : decode cX8_load 10 = .ok (.istore 5, 2) := by decide +kernel
theorem dX8_load_12 : decode cX8_load 12 = .ok (.iload_n 1, 1) := by decide +kernel
theorem dX8_load_13 : decode cX8_load 13 = .ok (.invokestatic 129, 3) := by decide +kernel
theorem dX8_load_16 : decode cX8_load 16 = .ok (.istore 6, 2) := by decide +kernel
theorem dX8_load_18 : decode cX8_load 18 = .ok (.iload 4, 2) := by decide +kernel
theorem dX8_load_20 : decode cX8_load 20 = .ok (.iconst 2, 1) := by decide +kernel
theorem dX8_load_21 : decode cX8_load 21 = .ok (.if_icmp .eq 14, 3) := by decide +kernel
theorem dX8_load_24 : decode cX8_load 24 = .ok (.iload 4, 2) := by decide +kernel
theorem dX8_load_26 : decode cX8_load 26 = .ok (.ifCond .eq 9, 3) := by decide +kernel
theorem dX8_load_29 : decode cX8_load 29 = .ok (.iload 4, 2) := by decide +kernel
theorem dX8_load_31 : decode cX8_load 31 = .ok (.iconst 4, 1) := by decide +kernel
theorem dX8_load_32 : decode cX8_load 32 = .ok (.if_icmp .ne 7, 3) := by decide +kernel
theorem dX8_load_35 : decode cX8_load 35 = .ok (.iconst 1, 1) := by decide +kernel
theorem dX8_load_36 : decode cX8_load 36 = .ok (.goto 4, 3) := by decide +kernel
theorem dX8_load_39 : decode cX8_load 39 = .ok (.iconst 0, 1) := by decide +kernel
theorem dX8_load_40 : decode cX8_load 40 = .ok (.istore 7, 2) := by decide +kernel
theorem dX8_load_42 : decode cX8_load 42 = .ok (.iload 7, 2) := by decide +kernel
theorem dX8_load_44 : decode cX8_load 44 = .ok (.ifCond .eq 19, 3) := by decide +kernel
theorem dX8_load_47 : decode cX8_load 47 = .ok (.iload 5, 2) := by decide +kernel
theorem dX8_load_49 : decode cX8_load 49 = .ok (.invokestatic 116, 3) := by decide +kernel
theorem dX8_load_52 : decode cX8_load 52 = .ok (.ifCond .eq 11, 3) := by decide +kernel
theorem dX8_load_55 : decode cX8_load 55 = .ok (.iload 6, 2) := by decide +kernel
theorem dX8_load_57 : decode cX8_load 57 = .ok (.invokestatic 116, 3) := by decide +kernel
theorem dX8_load_60 : decode cX8_load 60 = .ok (.ifCond .ne 7, 3) := by decide +kernel
theorem dX8_load_63 : decode cX8_load 63 = .ok (.getstatic 48, 3) := by decide +kernel
theorem dX8_load_66 : decode cX8_load 66 = .ok (.areturn, 1) := by decide +kernel
theorem dX8_load_67 : decode cX8_load 67 = .ok (.aload_n 0, 1) := by decide +kernel
theorem dX8_load_68 : decode cX8_load 68 = .ok (.getfield 9, 3) := by decide +kernel
theorem dX8_load_71 : decode cX8_load 71 = .ok (.iload 6, 2) := by decide +kernel
theorem dX8_load_73 : decode cX8_load 73 = .ok (.iaload, 1) := by decide +kernel
theorem dX8_load_74 : decode cX8_load 74 = .ok (.iload_n 1, 1) := by decide +kernel
theorem dX8_load_75 : decode cX8_load 75 = .ok (.invokestatic 135, 3) := by decide +kernel
theorem dX8_load_78 : decode cX8_load 78 = .ok (.iadd, 1) := by decide +kernel
theorem dX8_load_79 : decode cX8_load 79 = .ok (.istore 8, 2) := by decide +kernel
theorem dX8_load_81 : decode cX8_load 81 = .ok (.aload_n 0, 1) := by decide +kernel
theorem dX8_load_82 : decode cX8_load 82 = .ok (.iload 8, 2) := by decide +kernel
theorem dX8_load_84 : decode cX8_load 84 = .ok (.iload 4, 2) := by decide +kernel
theorem dX8_load_86 : decode cX8_load 86 = .ok (.invokevirtual 154, 3) := by decide +kernel
theorem dX8_load_89 : decode cX8_load 89 = .ok (.ifCond .ne 7, 3) := by decide +kernel
theorem dX8_load_92 : decode cX8_load 92 = .ok (.getstatic 48, 3) := by decide +kernel
theorem dX8_load_95 : decode cX8_load 95 = .ok (.areturn, 1) := by decide +kernel
theorem dX8_load_96 : decode cX8_load 96 = .ok (.aload_n 0, 1) := by decide +kernel
theorem dX8_load_97 : decode cX8_load 97 = .ok (.iload 8, 2) := by decide +kernel
theorem dX8_load_99 : decode cX8_load 99 = .ok (.aload_n 3, 1) := by decide +kernel
theorem dX8_load_100 : decode cX8_load 100 = .ok (.invokevirtual 157, 3) := by decide +kernel
theorem dX8_load_103 : decode cX8_load 103 = .ok (.iload 8, 2) := by decide +kernel
theorem dX8_load_105 : decode cX8_load 105 = .ok (.invokestatic 161, 3) := by decide +kernel
theorem dX8_load_108 : decode cX8_load 108 = .ok (.iaload, 1) := by decide +kernel
theorem dX8_load_109 : decode cX8_load 109 = .ok (.istore 9, 2) := by decide +kernel
theorem dX8_load_111 : decode cX8_load 111 = .ok (.iload 9, 2) := by decide +kernel
theorem dX8_load_113 : decode cX8_load 113 = .ok (.iload 8, 2) := by decide +kernel
theorem dX8_load_115 : decode cX8_load 115 = .ok (.invokestatic 164, 3) := by decide +kernel
theorem dX8_load_118 : decode cX8_load 118 = .ok (.iushr, 1) := by decide +kernel
theorem dX8_load_119 : decode cX8_load 119 = .ok (.sipush 255, 3) := by decide +kernel
theorem dX8_load_122 : decode cX8_load 122 = .ok (.iand, 1) := by decide +kernel
theorem dX8_load_123 : decode cX8_load 123 = .ok (.istore 10, 2) := by decide +kernel
theorem dX8_load_125 : decode cX8_load 125 = .ok (.iload 4, 2) := by decide +kernel
theorem dX8_load_127 : decode cX8_load 127 = .ok (.ifCond .ne 11, 3) := by decide +kernel
theorem dX8_load_130 : decode cX8_load 130 = .ok (.iload 10, 2) := by decide +kernel
theorem dX8_load_132 : decode cX8_load 132 = .ok (.i2b, 1) := by decide +kernel
theorem dX8_load_133 : decode cX8_load 133 = .ok (.istore 9, 2) := by decide +kernel
theorem dX8_load_135 : decode cX8_load 135 = .ok (.goto 13, 3) := by decide +kernel
theorem dX8_load_138 : decode cX8_load 138 = .ok (.iload 4, 2) := by decide +kernel
theorem dX8_load_140 : decode cX8_load 140 = .ok (.iconst 4, 1) := by decide +kernel
theorem dX8_load_141 : decode cX8_load 141 = .ok (.if_icmp .ne 7, 3) := by decide +kernel
theorem dX8_load_144 : decode cX8_load 144 = .ok (.iload 10, 2) := by decide +kernel
theorem dX8_load_146 : decode cX8_load 146 = .ok (.istore 9, 2) := by decide +kernel
theorem dX8_load_148 : decode cX8_load 148 = .ok (.aload_n 0, 1) := by decide +kernel
theorem dX8_load_149 : decode cX8_load 149 = .ok (.iload 5, 2) := by decide +kernel
theorem dX8_load_151 : decode cX8_load 151 = .ok (.iload 9, 2) := by decide +kernel
theorem dX8_load_153 : decode cX8_load 153 = .ok (.invokevirtual 122, 3) := by decide +kernel
theorem dX8_load_156 : decode cX8_load 156 = .ok (.aload_n 0, 1) := by decide +kernel
theorem dX8_load_157 : decode cX8_load 157 = .ok (.iload 8, 2) := by decide +kernel
theorem dX8_load_159 : decode cX8_load 159 = .ok (.iload_n 2, 1) := by decide +kernel
theorem dX8_load_160 : decode cX8_load 160 = .ok (.aload_n 3, 1) := by decide +kernel
theorem dX8_load_161 : decode cX8_load 161 = .ok (.invokevirtual 167, 3) := by decide +kernel
theorem dX8_load_164 : decode cX8_load 164 = .ok (.getstatic 54, 3) := by decide +kernel
theorem dX8_load_167 : decode cX8_load 167 = .ok (.areturn, 1) := by decide +kernel
theorem dX8_save_0 : decode cX8_save 0 = .ok (.iload_n 1, 1) := by decide +kernel
theorem dX8_save_1 : decode cX8_save 1 = .ok (.invokestatic 132, 3) := by decide +kernel
theorem dX8_save_4 : decode cX8_save 4 = .ok (.istore 4, 2) := by decide +kernel
theorem dX8_save_6 : decode cX8_save 6 = .ok (.iload_n 1, 1) := by decide +kernel
theorem dX8_save_7 : decode cX8_save 7 = .ok (.invokestatic 129, 3) := by decide +kernel
theorem dX8_save_10 : decode cX8_save 10 = .ok (.istore 5, 2) := by decide +kernel
theorem dX8_save_12 : decode cX8_save 12 = .ok (.iload_n 1, 1) := by decide +kernel
theorem dX8_save_13 : decode cX8_save 13 = .ok (.invokestatic 138, 3) := by decide +kernel
theorem dX8_save_16 : decode cX8_save 16 = .ok (.istore 6, 2) := by decide +kernel
theorem dX8_save_18 : decode cX8_save 18 = .ok (.iload 4, 2) := by decide +kernel
theorem dX8_save_20 : decode cX8_save 20 = .ok (.iconst 2, 1) := by decide +kernel
theorem dX8_save_21 : decode cX8_save 21 = .ok (.if_icmp .eq 8, 3) := by decide +kernel
theorem dX8_save_24 : decode cX8_save 24 = .ok (.iload 4, 2) := by decide +kernel
theorem dX8_save_26 : decode cX8_save 26 = .ok (.ifCond .ne 7, 3) := by decide +kernel
theorem dX8_save_29 : decode cX8_save 29 = .ok (.iconst 1, 1) := by decide +kernel
theorem dX8_save_30 : decode cX8_save 30 = .ok (.goto 4, 3) := by decide +kernel
theorem dX8_save_33 : decode cX8_save 33 = .ok (.iconst 0, 1) := by decide +kernel
theorem dX8_save_34 : decode cX8_save 34 = .ok (.istore 7, 2) := by decide +kernel
theorem dX8_save_36 : decode cX8_save 36 = .ok (.iload 7, 2) := by decide +kernel
theorem dX8_save_38 : decode cX8_save 38 = .ok (.ifCond .eq 19, 3) := by decide +kernel
theorem dX8_save_41 : decode cX8_save 41 = .ok (.iload 5, 2) := by decide +kernel
theorem dX8_save_43 : decode cX8_save 43 = .ok (.invokestatic 116, 3) := by decide +kernel
theorem dX8_save_46 : decode cX8_save 46 = .ok (.ifCond .eq 11, 3) := by decide +kernel
theorem dX8_save_49 : decode cX8_save 49 = .ok (.iload 6, 2) := by decide +kernel
theorem dX8_save_51 : decode cX8_save 51 = .ok (.invokestatic 116, 3) := by decide +kernel
theorem dX8_save_54 : decode cX8_save 54 = .ok (.ifCond .ne 7, 3) := by decide +kernel
theorem dX8_save_57 : decode cX8_save 57 = .ok (.getstatic 48, 3) := by decide +kernel
theorem dX8_save_60 : decode cX8_save 60 = .ok (.areturn, 1) := by decide +kernel
theorem dX8_save_61 : decode cX8_save 61 = .ok (.aload_n 0, 1) := by decide +kernel
theorem dX8_save_62 : decode cX8_save 62 = .ok (.getfield 9, 3) := by decide +kernel
theorem dX8_save_65 : decode cX8_save 65 = .ok (.iload 5, 2) := by decide +kernel
theorem dX8_save_67 : decode cX8_save 67 = .ok (.iaload, 1) := by decide +kernel
theorem dX8_save_68 : decode cX8_save 68 = .ok (.iload_n 1, 1) := by decide +kernel
theorem dX8_save_69 : decode cX8_save 69 = .ok (.invokestatic 171, 3) := by decide +kernel
theorem dX8_save_72 : decode cX8_save 72 = .ok (.iadd, 1) := by decide +kernel
theorem dX8_save_73 : decode cX8_save 73 = .ok (.istore 8, 2) := by decide +kernel
theorem dX8_save_75 : decode cX8_save 75 = .ok (.aload_n 0, 1) := by decide +kernel
theorem dX8_save_76 : decode cX8_save 76 = .ok (.iload 8, 2) := by decide +kernel
theorem dX8_save_78 : decode cX8_save 78 = .ok (.iload 4, 2) := by decide +kernel
theorem dX8_save_80 : decode cX8_save 80 = .ok (.invokevirtual 154, 3) := by decide +kernel
theorem dX8_save_83 : decode cX8_save 83 = .ok (.ifCond .ne 7, 3) := by decide +kernel
theorem dX8_save_86 : decode cX8_save 86 = .ok (.getstatic 48, 3) := by decide +kernel
theorem dX8_save_89 : decode cX8_save 89 = .ok (.areturn, 1) := by decide +kernel
theorem dX8_save_90 : decode cX8_save 90 = .ok (.iload 4, 2) := by decide +kernel
theorem dX8_save_92 : decode cX8_save 92 = .ok (.iconst 2, 1) := by decide +kernel
theorem dX8_save_93 : decode cX8_save 93 = .ok (.if_icmp .ne 7, 3) := by decide +kernel
theorem dX8_save_96 : decode cX8_save 96 = .ok (.iconst (-1), 1) := by decide +kernel
theorem dX8_save_97 : decode cX8_save 97 = .ok (.goto 12, 3) := by decide +kernel
theorem dX8_save_100 : decode cX8_save 100 = .ok (.sipush 255, 3) := by decide +kernel
theorem dX8_save_103 : decode cX8_save 103 = .ok (.iload 8, 2) := by decide +kernel
theorem dX8_save_105 : decode cX8_save 105 = .ok (.invokestatic 164, 3) := by decide +kernel
theorem dX8_save_108 : decode cX8_save 108 = .ok (.ishl, 1) := by decide +kernel
theorem dX8_save_109 : decode cX8_save 109 = .ok (.istore 9, 2) := by decide +kernel
theorem dX8_save_111 : decode cX8_save 111 = .ok (.iload 4, 2) := by decide +kernel
theorem dX8_save_113 : decode cX8_save 113 = .ok (.iconst 2, 1) := by decide +kernel
theorem dX8_save_114 : decode cX8_save 114 = .ok (.if_icmp .ne 13, 3) := by decide +kernel
theorem dX8_save_117 : decode cX8_save 117 = .ok (.aload_n 0, 1) := by decide +kernel
theorem dX8_save_118 : decode cX8_save 118 = .ok (.getfield 9, 3) := by decide +kernel
theorem dX8_save_121 : decode cX8_save 121 = .ok (.iload 6, 2) := by decide +kernel
theorem dX8_save_123 : decode cX8_save 123 = .ok (.iaload, 1) := by decide +kernel
theorem dX8_save_124 : decode cX8_save 124 = .ok (.goto 16, 3) := by decide +kernel
theorem dX8_save_127 : decode cX8_save 127 = .ok (.aload_n 0, 1) := by decide +kernel
theorem dX8_save_128 : decode cX8_save 128 = .ok (.getfield 9, 3) := by decide +kernel
theorem dX8_save_131 : decode cX8_save 131 = .ok (.iload 6, 2) := by decide +kernel
theorem dX8_save_133 : decode cX8_save 133 = .ok (.iaload, 1) := by decide +kernel
theorem dX8_save_134 : decode cX8_save 134 = .ok (.iload 8, 2) := by decide +kernel
theorem dX8_save_136 : decode cX8_save 136 = .ok (.invokestatic 164, 3) := by decide +kernel
theorem dX8_save_139 : decode cX8_save 139 = .ok (.ishl, 1) := by decide +kernel
theorem dX8_save_140 : decode cX8_save 140 = .ok (.istore 10, 2) := by decide +kernel
theorem dX8_save_142 : decode cX8_save 142 = .ok (.aload_n 0, 1) := by decide +kernel
theorem dX8_save_143 : decode cX8_save 143 = .ok (.iload 8, 2) := by decide +kernel
theorem dX8_save_145 : decode cX8_save 145 = .ok (.aload_n 3, 1) := by decide +kernel
theorem dX8_save_146 : decode cX8_save 146 = .ok (.invokevirtual 157, 3) := by decide +kernel
theorem dX8_save_149 : decode cX8_save 149 = .ok (.astore 11, 2) := by decide +kernel
theorem dX8_save_151 : decode cX8_save 151 = .ok (.iload 8, 2) := by decide +kernel
theorem dX8_save_153 : decode cX8_save 153 = .ok (.invokestatic 161, 3) := by decide +kernel
theorem dX8_save_156 : decode cX8_save 156 = .ok (.istore 12, 2) := by decide +kernel
theorem dX8_save_158 : decode cX8_save 158 = .ok (.aload 11, 2) := by decide +kernel
theorem dX8_save_160 : decode cX8_save 160 = .ok (.iload 12, 2) := by decide +kernel
theorem dX8_save_162 : decode cX8_save 162 = .ok (.aload 11, 2) := by decide +kernel
theorem dX8_save_164 : decode cX8_save 164 = .ok (.iload 12, 2) := by decide +kernel
theorem dX8_save_166 : decode cX8_save 166 = .ok (.iaload, 1) := by decide +kernel
theorem dX8_save_167 : decode cX8_save 167 = .ok (.iload 9, 2) := by decide +kernel
theorem dX8_save_169 : decode cX8_save 169 = .ok (.iconst (-1), 1) := by decide +kernel
theorem dX8_save_170 : decode cX8_save 170 = .ok (.ixor, 1) := by decide +kernel
theorem dX8_save_171 : decode cX8_save 171 = .ok (.iand, 1) := by decide +kernel
theorem dX8_save_172 : decode cX8_save 172 = .ok (.iload 10, 2) := by decide +kernel
theorem dX8_save_174 : decode cX8_save 174 = .ok (.iload 9, 2) := by decide +kernel
theorem dX8_save_176 : decode cX8_save 176 = .ok (.iand, 1) := by decide +kernel
theorem dX8_save_177 : decode cX8_save 177 = .ok (.ior, 1) := by decide +kernel
theorem dX8_save_178 : decode cX8_save 178 = .ok (.iastore, 1) := by decide +kernel
theorem dX8_save_179 : decode cX8_save 179 = .ok (.aload_n 0, 1) := by decide +kernel
theorem dX8_save_180 : decode cX8_save 180 = .ok (.iload 8, 2) := by decide +kernel
theorem dX8_save_182 : decode cX8_save 182 = .ok (.iload_n 2, 1) := by decide +kernel
theorem dX8_save_183 : decode cX8_save 183 = .ok (.aload_n 3, 1) := by decide +kernel
theorem dX8_save_184 : decode cX8_save 184 = .ok (.invokevirtual 167, 3) := by decide +kernel
theorem dX8_save_187 : decode cX8_save 187 = .ok (.getstatic 54, 3) := by decide +kernel
theorem dX8_save_190 : decode cX8_save 190 = .ok (.areturn, 1) := by decide +kernel
theorem dX8_canReach_0 : decode cX8_canReach 0 = .ok (.iload_n 1, 1) := by decide +kernel
theorem dX8_canReach_1 : decode cX8_canReach 1 = .ok (.sipush 4096, 3) := by decide +kernel
theorem dX8_canReach_4 : decode cX8_canReach 4 = .ok (.iconst 4, 1) := by decide +kernel
theorem dX8_canReach_5 : decode cX8_canReach 5 = .ok (.aload_n 0, 1) := by decide +kernel
theorem dX8_canReach_6 : decode cX8_canReach 6 = .ok (.getfield 174, 3) := by decide +kernel
theorem dX8_canReach_9 : decode cX8_canReach 9 = .ok (.imul, 1) := by decide +kernel
theorem dX8_canReach_10 : decode cX8_canReach 10 = .ok (.iadd, 1) := by decide +kernel
theorem dX8_canReach_11 : decode cX8_canReach 11 = .ok (.if_icmp .lt 21, 3) := by decide +kernel
theorem dX8_canReach_14 : decode cX8_canReach 14 = .ok (.iload_n 1, 1) := by decide +kernel
theorem dX8_canReach_15 : decode cX8_canReach 15 = .ok (.sipush 4096, 3) := by decide +kernel
theorem dX8_canReach_18 : decode cX8_canReach 18 = .ok (.iconst 4, 1) := by decide +kernel
theorem dX8_canReach_19 : decode cX8_canReach 19 = .ok (.aload_n 0, 1) := by decide +kernel
theorem dX8_canReach_20 : decode cX8_canReach 20 = .ok (.getfield 177, 3) := by decide +kernel
theorem dX8_canReach_23 : decode cX8_canReach 23 = .ok (.imul, 1) := by decide +kernel
theorem dX8_canReach_24 : decode cX8_canReach 24 = .ok (.iadd, 1) := by decide +kernel
theorem dX8_canReach_25 : decode cX8_canReach 25 = .ok (.if_icmp .ge 7, 3) := by decide +kernel
theorem dX8_canReach_28 : decode cX8_canReach 28 = .ok (.iconst 1, 1) := by decide +kernel
theorem dX8_canReach_29 : decode cX8_canReach 29 = .ok (.goto 4, 3) := by decide +kernel
theorem dX8_canReach_32 : decode cX8_canReach 32 = .ok (.iconst 0, 1) := by decide +kernel
theorem dX8_canReach_33 : decode cX8_canReach 33 = .ok (.istore_n 3, 1) := by decide +kernel
theorem dX8_canReach_34 : decode cX8_canReach 34 = .ok (.iload_n 1, 1) := by decide +kernel
theorem dX8_canReach_35 : decode cX8_canReach 35 = .ok (.invokestatic 67, 3) := by decide +kernel
theorem dX8_canReach_38 : decode cX8_canReach 38 = .ok (.ifCond .ne 7, 3) := by decide +kernel
theorem dX8_canReach_41 : decode cX8_canReach 41 = .ok (.iload_n 3, 1) := by decide +kernel
theorem dX8_canReach_42 : decode cX8_canReach 42 = .ok (.ifCond .eq 19, 3) := by decide +kernel
theorem dX8_canReach_45 : decode cX8_canReach 45 = .ok (.iload_n 2, 1) := by decide +kernel
theorem dX8_canReach_46 : decode cX8_canReach 46 = .ok (.iconst 2, 1) := by decide +kernel
theorem dX8_canReach_47 : decode cX8_canReach 47 = .ok (.if_icmp .ne 10, 3) := by decide +kernel
theorem dX8_canReach_50 : decode cX8_canReach 50 = .ok (.iload_n 1, 1) := by decide +kernel
theorem dX8_canReach_51 : decode cX8_canReach 51 = .ok (.invokestatic 71, 3) := by decide +kernel
theorem dX8_canReach_54 : decode cX8_canReach 54 = .ok (.ifCond .eq 7, 3) := by decide +kernel
theorem dX8_canReach_57 : decode cX8_canReach 57 = .ok (.iconst 1, 1) := by decide +kernel
theorem dX8_canReach_58 : decode cX8_canReach 58 = .ok (.goto 4, 3) := by decide +kernel
theorem dX8_canReach_61 : decode cX8_canReach 61 = .ok (.iconst 0, 1) := by decide +kernel
theorem dX8_canReach_62 : decode cX8_canReach 62 = .ok (.ireturn, 1) := by decide +kernel
theorem dX8_rowOf_0 : decode cX8_rowOf 0 = .ok (.iload_n 1, 1) := by decide +kernel
theorem dX8_rowOf_1 : decode cX8_rowOf 1 = .ok (.invokestatic 67, 3) := by decide +kernel
theorem dX8_rowOf_4 : decode cX8_rowOf 4 = .ok (.ifCond .eq 10, 3) := by decide +kernel
theorem dX8_rowOf_7 : decode cX8_rowOf 7 = .ok (.aload_n 0, 1) := by decide +kernel
theorem dX8_rowOf_8 : decode cX8_rowOf 8 = .ok (.getfield 15, 3) := by decide +kernel
theorem dX8_rowOf_11 : decode cX8_rowOf 11 = .ok (.goto 7, 3) := by decide +kernel
theorem dX8_rowOf_14 : decode cX8_rowOf 14 = .ok (.aload_n 2, 1) := by decide +kernel
theorem dX8_rowOf_15 : decode cX8_rowOf 15 = .ok (.getfield 180, 3) := by decide +kernel
theorem dX8_rowOf_18 : decode cX8_rowOf 18 = .ok (.areturn, 1) := by decide +kernel
theorem dX8_placeOf_0 : decode cX8_placeOf 0 = .ok (.iload_n 0, 1) := by decide +kernel
theorem dX8_placeOf_1 : decode cX8_placeOf 1 = .ok (.invokestatic 67, 3) := by decide +kernel
theorem dX8_placeOf_4 : decode cX8_placeOf 4 = .ok (.ifCond .eq 7, 3) := by decide +kernel
theorem dX8_placeOf_7 : decode cX8_placeOf 7 = .ok (.iload_n 0, 1) := by decide +kernel
theorem dX8_placeOf_8 : decode cX8_placeOf 8 = .ok (.goto 8, 3) := by decide +kernel
theorem dX8_placeOf_11 : decode cX8_placeOf 11 = .ok (.iload_n 0, 1) := by decide +kernel
theorem dX8_placeOf_12 : decode cX8_placeOf 12 = .ok (.sipush 4096, 3) := by decide +kernel
theorem dX8_placeOf_15 : decode cX8_placeOf 15 = .ok (.isub, 1) := by decide +kernel
theorem dX8_placeOf_16 : decode cX8_placeOf 16 = .ok (.iconst 2, 1) := by decide +kernel
theorem dX8_placeOf_17 : decode cX8_placeOf 17 = .ok (.ishr, 1) := by decide +kernel
theorem dX8_placeOf_18 : decode cX8_placeOf 18 = .ok (.ireturn, 1) := by decide +kernel
theorem dX8_bitOf_0 : decode cX8_bitOf 0 = .ok (.iload_n 0, 1) := by decide +kernel
theorem dX8_bitOf_1 : decode cX8_bitOf 1 = .ok (.iconst 3, 1) := by decide +kernel
theorem dX8_bitOf_2 : decode cX8_bitOf 2 = .ok (.iand, 1) := by decide +kernel
theorem dX8_bitOf_3 : decode cX8_bitOf 3 = .ok (.iconst 3, 1) := by decide +kernel
theorem dX8_bitOf_4 : decode cX8_bitOf 4 = .ok (.ishl, 1) := by decide +kernel
theorem dX8_bitOf_5 : decode cX8_bitOf 5 = .ok (.ireturn, 1) := by decide +kernel
theorem dX8_setRetirement_0 : decode cX8_setRetirement 0 = .ok (.iload_n 1, 1) := by decide +kernel
theorem dX8_setRetirement_1 : decode cX8_setRetirement 1 = .ok (.invokestatic 67, 3) := by decide +kernel
theorem dX8_setRetirement_4 : decode cX8_setRetirement 4 = .ok (.ifCond .ne 16, 3) := by decide +kernel
theorem dX8_setRetirement_7 : decode cX8_setRetirement 7 = .ok (.aload_n 0, 1) := by decide +kernel
theorem dX8_setRetirement_8 : decode cX8_setRetirement 8 = .ok (.aload_n 3, 1) := by decide +kernel
theorem dX8_setRetirement_9 : decode cX8_setRetirement 9 = .ok (.aload_n 0, 1) := by decide +kernel
theorem dX8_setRetirement_10 : decode cX8_setRetirement 10 = .ok (.getfield 32, 3) := by decide +kernel
theorem dX8_setRetirement_13 : decode cX8_setRetirement 13 = .ok (.iload_n 2, 1) := by decide +kernel
theorem dX8_setRetirement_14 : decode cX8_setRetirement 14 = .ok (.invokevirtual 185, 3) := by decide +kernel
theorem dX8_setRetirement_17 : decode cX8_setRetirement 17 = .ok (.putfield 57, 3) := by decide +kernel
theorem dX8_setRetirement_20 : decode cX8_setRetirement 20 = .ok (.return_, 1) := by decide +kernel
theorem dX8_computeWithNumber_0 : decode cX8_computeWithNumber 0 = .ok (.iload_n 1, 1) := by decide +kernel
theorem dX8_computeWithNumber_1 : decode cX8_computeWithNumber 1 = .ok (.invokestatic 132, 3) := by decide +kernel
theorem dX8_computeWithNumber_4 : decode cX8_computeWithNumber 4 = .ok (.istore_n 2, 1) := by decide +kernel
theorem dX8_computeWithNumber_5 : decode cX8_computeWithNumber 5 = .ok (.iload_n 1, 1) := by decide +kernel
theorem dX8_computeWithNumber_6 : decode cX8_computeWithNumber 6 = .ok (.invokestatic 188, 3) := by decide +kernel
theorem dX8_computeWithNumber_9 : decode cX8_computeWithNumber 9 = .ok (.istore_n 3, 1) := by decide +kernel
theorem dX8_computeWithNumber_10 : decode cX8_computeWithNumber 10 = .ok (.iload_n 1, 1) := by decide +kernel
theorem dX8_computeWithNumber_11 : decode cX8_computeWithNumber 11 = .ok (.invokestatic 113, 3) := by decide +kernel
theorem dX8_computeWithNumber_14 : decode cX8_computeWithNumber 14 = .ok (.istore 4, 2) := by decide +kernel
theorem dX8_computeWithNumber_16 : decode cX8_computeWithNumber 16 = .ok (.iload_n 1, 1) := by decide +kernel
theorem dX8_computeWithNumber_17 : decode cX8_computeWithNumber 17 = .ok (.invokestatic 129, 3) := by decide +kernel
theorem dX8_computeWithNumber_20 : decode cX8_computeWithNumber 20 = .ok (.istore 5, 2) := by decide +kernel
theorem dX8_computeWithNumber_22 : decode cX8_computeWithNumber 22 = .ok (.iload_n 2, 1) := by decide +kernel
theorem dX8_computeWithNumber_23 : decode cX8_computeWithNumber 23 = .ok (.iconst 1, 1) := by decide +kernel
theorem dX8_computeWithNumber_24 : decode cX8_computeWithNumber 24 = .ok (.if_icmp .ne 7, 3) := by decide +kernel
theorem dX8_computeWithNumber_27 : decode cX8_computeWithNumber 27 = .ok (.iload_n 3, 1) := by decide +kernel
theorem dX8_computeWithNumber_28 : decode cX8_computeWithNumber 28 = .ok (.ifCond .ne 18, 3) := by decide +kernel
theorem dX8_computeWithNumber_31 : decode cX8_computeWithNumber 31 = .ok (.iload_n 2, 1) := by decide +kernel
theorem dX8_computeWithNumber_32 : decode cX8_computeWithNumber 32 = .ok (.iconst 5, 1) := by decide +kernel
theorem dX8_computeWithNumber_33 : decode cX8_computeWithNumber 33 = .ok (.if_icmp .ne 17, 3) := by decide +kernel
theorem dX8_computeWithNumber_36 : decode cX8_computeWithNumber 36 = .ok (.iload_n 3, 1) := by decide +kernel
theorem dX8_computeWithNumber_37 : decode cX8_computeWithNumber 37 = .ok (.ifCond .eq 13, 3) := by decide +kernel
theorem dX8_computeWithNumber_40 : decode cX8_computeWithNumber 40 = .ok (.iload_n 3, 1) := by decide +kernel
theorem dX8_computeWithNumber_41 : decode cX8_computeWithNumber 41 = .ok (.bipush 32, 2) := by decide +kernel
theorem dX8_computeWithNumber_43 : decode cX8_computeWithNumber 43 = .ok (.if_icmp .eq 7, 3) := by decide +kernel
theorem dX8_computeWithNumber_46 : decode cX8_computeWithNumber 46 = .ok (.iconst 1, 1) := by decide +kernel
theorem dX8_computeWithNumber_47 : decode cX8_computeWithNumber 47 = .ok (.goto 4, 3) := by decide +kernel
theorem dX8_computeWithNumber_50 : decode cX8_computeWithNumber 50 = .ok (.iconst 0, 1) := by decide +kernel
theorem dX8_computeWithNumber_51 : decode cX8_computeWithNumber 51 = .ok (.istore 6, 2) := by decide +kernel
theorem dX8_computeWithNumber_53 : decode cX8_computeWithNumber 53 = .ok (.iload 6, 2) := by decide +kernel
theorem dX8_computeWithNumber_55 : decode cX8_computeWithNumber 55 = .ok (.ifCond .ne 19, 3) := by decide +kernel
theorem dX8_computeWithNumber_58 : decode cX8_computeWithNumber 58 = .ok (.iload 4, 2) := by decide +kernel
theorem dX8_computeWithNumber_60 : decode cX8_computeWithNumber 60 = .ok (.invokestatic 116, 3) := by decide +kernel
theorem dX8_computeWithNumber_63 : decode cX8_computeWithNumber 63 = .ok (.ifCond .eq 11, 3) := by decide +kernel
theorem dX8_computeWithNumber_66 : decode cX8_computeWithNumber 66 = .ok (.iload 5, 2) := by decide +kernel
theorem dX8_computeWithNumber_68 : decode cX8_computeWithNumber 68 = .ok (.invokestatic 116, 3) := by decide +kernel
theorem dX8_computeWithNumber_71 : decode cX8_computeWithNumber 71 = .ok (.ifCond .ne 7, 3) := by decide +kernel
theorem dX8_computeWithNumber_74 : decode cX8_computeWithNumber 74 = .ok (.getstatic 48, 3) := by decide +kernel
theorem dX8_computeWithNumber_77 : decode cX8_computeWithNumber 77 = .ok (.areturn, 1) := by decide +kernel
theorem dX8_computeWithNumber_78 : decode cX8_computeWithNumber 78 = .ok (.iload_n 2, 1) := by decide +kernel
theorem dX8_computeWithNumber_79 : decode cX8_computeWithNumber 79 = .ok (.iconst 5, 1) := by decide +kernel
theorem dX8_computeWithNumber_80 : decode cX8_computeWithNumber 80 = .ok (.if_icmp .ne 13, 3) := by decide +kernel
theorem dX8_computeWithNumber_83 : decode cX8_computeWithNumber 83 = .ok (.iload_n 3, 1) := by decide +kernel
theorem dX8_computeWithNumber_84 : decode cX8_computeWithNumber 84 = .ok (.bipush 32, 2) := by decide +kernel
theorem dX8_computeWithNumber_86 : decode cX8_computeWithNumber 86 = .ok (.if_icmp .ne 7, 3) := by decide +kernel
theorem dX8_computeWithNumber_89 : decode cX8_computeWithNumber 89 = .ok (.iconst 1, 1) := by decide +kernel
theorem dX8_computeWithNumber_90 : decode cX8_computeWithNumber 90 = .ok (.goto 4, 3) := by decide +kernel
theorem dX8_computeWithNumber_93 : decode cX8_computeWithNumber 93 = .ok (.iconst 0, 1) := by decide +kernel
theorem dX8_computeWithNumber_94 : decode cX8_computeWithNumber 94 = .ok (.istore 7, 2) := by decide +kernel
theorem dX8_computeWithNumber_96 : decode cX8_computeWithNumber 96 = .ok (.aload_n 0, 1) := by decide +kernel
theorem dX8_computeWithNumber_97 : decode cX8_computeWithNumber 97 = .ok (.iload 4, 2) := by decide +kernel
theorem dX8_computeWithNumber_99 : decode cX8_computeWithNumber 99 = .ok (.iload_n 2, 1) := by decide +kernel
theorem dX8_computeWithNumber_100 : decode cX8_computeWithNumber 100 = .ok (.iload 7, 2) := by decide +kernel
theorem dX8_computeWithNumber_102 : decode cX8_computeWithNumber 102 = .ok (.aload_n 0, 1) := by decide +kernel
theorem dX8_computeWithNumber_103 : decode cX8_computeWithNumber 103 = .ok (.getfield 9, 3) := by decide +kernel
theorem dX8_computeWithNumber_106 : decode cX8_computeWithNumber 106 = .ok (.iload 5, 2) := by decide +kernel
theorem dX8_computeWithNumber_108 : decode cX8_computeWithNumber 108 = .ok (.iaload, 1) := by decide +kernel
theorem dX8_computeWithNumber_109 : decode cX8_computeWithNumber 109 = .ok (.iload_n 1, 1) := by decide +kernel
theorem dX8_computeWithNumber_110 : decode cX8_computeWithNumber 110 = .ok (.invokestatic 135, 3) := by decide +kernel
theorem dX8_computeWithNumber_113 : decode cX8_computeWithNumber 113 = .ok (.invokestatic 191, 3) := by decide +kernel
theorem dX8_computeWithNumber_116 : decode cX8_computeWithNumber 116 = .ok (.invokevirtual 122, 3) := by decide +kernel
theorem dX8_computeWithNumber_119 : decode cX8_computeWithNumber 119 = .ok (.getstatic 54, 3) := by decide +kernel
theorem dX8_computeWithNumber_122 : decode cX8_computeWithNumber 122 = .ok (.areturn, 1) := by decide +kernel
theorem dX8_computeWithRegister_0 : decode cX8_computeWithRegister 0 = .ok (.iload_n 1, 1) := by decide +kernel
theorem dX8_computeWithRegister_1 : decode cX8_computeWithRegister 1 = .ok (.invokestatic 132, 3) := by decide +kernel
theorem dX8_computeWithRegister_4 : decode cX8_computeWithRegister 4 = .ok (.istore_n 2, 1) := by decide +kernel
theorem dX8_computeWithRegister_5 : decode cX8_computeWithRegister 5 = .ok (.iload_n 1, 1) := by decide +kernel
theorem dX8_computeWithRegister_6 : decode cX8_computeWithRegister 6 = .ok (.invokestatic 188, 3) := by decide +kernel
theorem dX8_computeWithRegister_9 : decode cX8_computeWithRegister 9 = .ok (.istore_n 3, 1) := by decide +kernel
theorem dX8_computeWithRegister_10 : decode cX8_computeWithRegister 10 = .ok (.iload_n 1, 1) := by decide +kernel
theorem dX8_computeWithRegister_11 : decode cX8_computeWithRegister 11 = .ok (.invokestatic 113, 3) := by decide +kernel
theorem dX8_computeWithRegister_14 : decode cX8_computeWithRegister 14 = .ok (.istore 4, 2) := by decide +kernel
theorem dX8_computeWithRegister_16 : decode cX8_computeWithRegister 16 = .ok (.iload_n 1, 1) := by decide +kernel
theorem dX8_computeWithRegister_17 : decode cX8_computeWithRegister 17 = .ok (.invokestatic 129, 3) := by decide +kernel
theorem dX8_computeWithRegister_20 : decode cX8_computeWithRegister 20 = .ok (.istore 5, 2) := by decide +kernel
theorem dX8_computeWithRegister_22 : decode cX8_computeWithRegister 22 = .ok (.iload_n 1, 1) := by decide +kernel
theorem dX8_computeWithRegister_23 : decode cX8_computeWithRegister 23 = .ok (.invokestatic 138, 3) := by decide +kernel
theorem dX8_computeWithRegister_26 : decode cX8_computeWithRegister 26 = .ok (.istore 6, 2) := by decide +kernel
theorem dX8_computeWithRegister_28 : decode cX8_computeWithRegister 28 = .ok (.iload_n 3, 1) := by decide +kernel
theorem dX8_computeWithRegister_29 : decode cX8_computeWithRegister 29 = .ok (.ifCond .eq 18, 3) := by decide +kernel
theorem dX8_computeWithRegister_32 : decode cX8_computeWithRegister 32 = .ok (.iload_n 3, 1) := by decide +kernel
theorem dX8_computeWithRegister_33 : decode cX8_computeWithRegister 33 = .ok (.bipush 32, 2) := by decide +kernel
theorem dX8_computeWithRegister_35 : decode cX8_computeWithRegister 35 = .ok (.if_icmp .ne 16, 3) := by decide +kernel
theorem dX8_computeWithRegister_38 : decode cX8_computeWithRegister 38 = .ok (.iload_n 2, 1) := by decide +kernel
theorem dX8_computeWithRegister_39 : decode cX8_computeWithRegister 39 = .ok (.ifCond .eq 8, 3) := by decide +kernel
theorem dX8_computeWithRegister_42 : decode cX8_computeWithRegister 42 = .ok (.iload_n 2, 1) := by decide +kernel
theorem dX8_computeWithRegister_43 : decode cX8_computeWithRegister 43 = .ok (.iconst 5, 1) := by decide +kernel
theorem dX8_computeWithRegister_44 : decode cX8_computeWithRegister 44 = .ok (.if_icmp .ne 7, 3) := by decide +kernel
theorem dX8_computeWithRegister_47 : decode cX8_computeWithRegister 47 = .ok (.iconst 1, 1) := by decide +kernel
theorem dX8_computeWithRegister_48 : decode cX8_computeWithRegister 48 = .ok (.goto 4, 3) := by decide +kernel
theorem dX8_computeWithRegister_51 : decode cX8_computeWithRegister 51 = .ok (.iconst 0, 1) := by decide +kernel
theorem dX8_computeWithRegister_52 : decode cX8_computeWithRegister 52 = .ok (.istore 7, 2) := by decide +kernel
theorem dX8_computeWithRegister_54 : decode cX8_computeWithRegister 54 = .ok (.iload 7, 2) := by decide +kernel
theorem dX8_computeWithRegister_56 : decode cX8_computeWithRegister 56 = .ok (.ifCond .eq 27, 3) := by decide +kernel
theorem dX8_computeWithRegister_59 : decode cX8_computeWithRegister 59 = .ok (.iload 4, 2) := by decide +kernel
theorem dX8_computeWithRegister_61 : decode cX8_computeWithRegister 61 = .ok (.invokestatic 116, 3) := by decide +kernel
theorem dX8_computeWithRegister_64 : decode cX8_computeWithRegister 64 = .ok (.ifCond .eq 19, 3) := by decide +kernel
theorem dX8_computeWithRegister_67 : decode cX8_computeWithRegister 67 = .ok (.iload 5, 2) := by decide +kernel
theorem dX8_computeWithRegister_69 : decode cX8_computeWithRegister 69 = .ok (.invokestatic 116, 3) := by decide +kernel
theorem dX8_computeWithRegister_72 : decode cX8_computeWithRegister 72 = .ok (.ifCond .eq 11, 3) := by decide +kernel
theorem dX8_computeWithRegister_75 : decode cX8_computeWithRegister 75 = .ok (.iload 6, 2) := by decide +kernel
theorem dX8_computeWithRegister_77 : decode cX8_computeWithRegister 77 = .ok (.invokestatic 116, 3) := by decide +kernel
theorem dX8_computeWithRegister_80 : decode cX8_computeWithRegister 80 = .ok (.ifCond .ne 7, 3) := by decide +kernel
theorem dX8_computeWithRegister_83 : decode cX8_computeWithRegister 83 = .ok (.getstatic 48, 3) := by decide +kernel
theorem dX8_computeWithRegister_86 : decode cX8_computeWithRegister 86 = .ok (.areturn, 1) := by decide +kernel
theorem dX8_computeWithRegister_87 : decode cX8_computeWithRegister 87 = .ok (.aload_n 0, 1) := by decide +kernel
theorem dX8_computeWithRegister_88 : decode cX8_computeWithRegister 88 = .ok (.iload 4, 2) := by decide +kernel
theorem dX8_computeWithRegister_90 : decode cX8_computeWithRegister 90 = .ok (.iload_n 2, 1) := by decide +kernel
theorem dX8_computeWithRegister_91 : decode cX8_computeWithRegister 91 = .ok (.iload_n 3, 1) := by decide +kernel
theorem dX8_computeWithRegister_92 : decode cX8_computeWithRegister 92 = .ok (.bipush 32, 2) := by decide +kernel
theorem dX8_computeWithRegister_94 : decode cX8_computeWithRegister 94 = .ok (.if_icmp .ne 7, 3) := by decide +kernel
theorem dX8_computeWithRegister_97 : decode cX8_computeWithRegister 97 = .ok (.iconst 1, 1) := by decide +kernel
theorem dX8_computeWithRegister_98 : decode cX8_computeWithRegister 98 = .ok (.goto 4, 3) := by decide +kernel
theorem dX8_computeWithRegister_101 : decode cX8_computeWithRegister 101 = .ok (.iconst 0, 1) := by decide +kernel
theorem dX8_computeWithRegister_102 : decode cX8_computeWithRegister 102 = .ok (.aload_n 0, 1) := by decide +kernel
theorem dX8_computeWithRegister_103 : decode cX8_computeWithRegister 103 = .ok (.getfield 9, 3) := by decide +kernel
theorem dX8_computeWithRegister_106 : decode cX8_computeWithRegister 106 = .ok (.iload 5, 2) := by decide +kernel
theorem dX8_computeWithRegister_108 : decode cX8_computeWithRegister 108 = .ok (.iaload, 1) := by decide +kernel
theorem dX8_computeWithRegister_109 : decode cX8_computeWithRegister 109 = .ok (.aload_n 0, 1) := by decide +kernel
theorem dX8_computeWithRegister_110 : decode cX8_computeWithRegister 110 = .ok (.getfield 9, 3) := by decide +kernel
theorem dX8_computeWithRegister_113 : decode cX8_computeWithRegister 113 = .ok (.iload 6, 2) := by decide +kernel
theorem dX8_computeWithRegister_115 : decode cX8_computeWithRegister 115 = .ok (.iaload, 1) := by decide +kernel
theorem dX8_computeWithRegister_116 : decode cX8_computeWithRegister 116 = .ok (.invokestatic 191, 3) := by decide +kernel
theorem dX8_computeWithRegister_119 : decode cX8_computeWithRegister 119 = .ok (.invokevirtual 122, 3) := by decide +kernel
theorem dX8_computeWithRegister_122 : decode cX8_computeWithRegister 122 = .ok (.getstatic 54, 3) := by decide +kernel
theorem dX8_computeWithRegister_125 : decode cX8_computeWithRegister 125 = .ok (.areturn, 1) := by decide +kernel
theorem dX8_compute_0 : decode cX8_compute 0 = .ok (.iload_n 0, 1) := by decide +kernel
theorem dX8_compute_1 : decode cX8_compute 1 = .ok (.tableswitch 108 0 6 #[43, 57, 61, 72, 86, 90, 104], 43) := by decide +kernel
theorem dX8_compute_44 : decode cX8_compute 44 = .ok (.iload_n 1, 1) := by decide +kernel
theorem dX8_compute_45 : decode cX8_compute 45 = .ok (.ifCond .eq 9, 3) := by decide +kernel
theorem dX8_compute_48 : decode cX8_compute 48 = .ok (.iload_n 2, 1) := by decide +kernel
theorem dX8_compute_49 : decode cX8_compute 49 = .ok (.iload_n 3, 1) := by decide +kernel
theorem dX8_compute_50 : decode cX8_compute 50 = .ok (.isub, 1) := by decide +kernel
theorem dX8_compute_51 : decode cX8_compute 51 = .ok (.goto 6, 3) := by decide +kernel
theorem dX8_compute_54 : decode cX8_compute 54 = .ok (.iload_n 2, 1) := by decide +kernel
theorem dX8_compute_55 : decode cX8_compute 55 = .ok (.iload_n 3, 1) := by decide +kernel
theorem dX8_compute_56 : decode cX8_compute 56 = .ok (.iadd, 1) := by decide +kernel
theorem dX8_compute_57 : decode cX8_compute 57 = .ok (.ireturn, 1) := by decide +kernel
theorem dX8_compute_58 : decode cX8_compute 58 = .ok (.iload_n 2, 1) := by decide +kernel
theorem dX8_compute_59 : decode cX8_compute 59 = .ok (.iload_n 3, 1) := by decide +kernel
theorem dX8_compute_60 : decode cX8_compute 60 = .ok (.ishl, 1) := by decide +kernel
theorem dX8_compute_61 : decode cX8_compute 61 = .ok (.ireturn, 1) := by decide +kernel
theorem dX8_compute_62 : decode cX8_compute 62 = .ok (.iload_n 2, 1) := by decide +kernel
theorem dX8_compute_63 : decode cX8_compute 63 = .ok (.iload_n 3, 1) := by decide +kernel
theorem dX8_compute_64 : decode cX8_compute 64 = .ok (.if_icmp .ge 7, 3) := by decide +kernel
theorem dX8_compute_67 : decode cX8_compute 67 = .ok (.iconst 1, 1) := by decide +kernel
theorem dX8_compute_68 : decode cX8_compute 68 = .ok (.goto 4, 3) := by decide +kernel
theorem dX8_compute_71 : decode cX8_compute 71 = .ok (.iconst 0, 1) := by decide +kernel
theorem dX8_compute_72 : decode cX8_compute 72 = .ok (.ireturn, 1) := by decide +kernel
theorem dX8_compute_73 : decode cX8_compute 73 = .ok (.iload_n 2, 1) := by decide +kernel
theorem dX8_compute_74 : decode cX8_compute 74 = .ok (.iload_n 3, 1) := by decide +kernel
theorem dX8_compute_75 : decode cX8_compute 75 = .ok (.invokestatic 148, 3) := by decide +kernel
theorem dX8_compute_78 : decode cX8_compute 78 = .ok (.ifCond .eq 7, 3) := by decide +kernel
theorem dX8_compute_81 : decode cX8_compute 81 = .ok (.iconst 1, 1) := by decide +kernel
theorem dX8_compute_82 : decode cX8_compute 82 = .ok (.goto 4, 3) := by decide +kernel
theorem dX8_compute_85 : decode cX8_compute 85 = .ok (.iconst 0, 1) := by decide +kernel
theorem dX8_compute_86 : decode cX8_compute 86 = .ok (.ireturn, 1) := by decide +kernel
theorem dX8_compute_87 : decode cX8_compute 87 = .ok (.iload_n 2, 1) := by decide +kernel
theorem dX8_compute_88 : decode cX8_compute 88 = .ok (.iload_n 3, 1) := by decide +kernel
theorem dX8_compute_89 : decode cX8_compute 89 = .ok (.ixor, 1) := by decide +kernel
theorem dX8_compute_90 : decode cX8_compute 90 = .ok (.ireturn, 1) := by decide +kernel
theorem dX8_compute_91 : decode cX8_compute 91 = .ok (.iload_n 1, 1) := by decide +kernel
theorem dX8_compute_92 : decode cX8_compute 92 = .ok (.ifCond .eq 9, 3) := by decide +kernel
theorem dX8_compute_95 : decode cX8_compute 95 = .ok (.iload_n 2, 1) := by decide +kernel
theorem dX8_compute_96 : decode cX8_compute 96 = .ok (.iload_n 3, 1) := by decide +kernel
theorem dX8_compute_97 : decode cX8_compute 97 = .ok (.ishr, 1) := by decide +kernel
theorem dX8_compute_98 : decode cX8_compute 98 = .ok (.goto 6, 3) := by decide +kernel
theorem dX8_compute_101 : decode cX8_compute 101 = .ok (.iload_n 2, 1) := by decide +kernel
theorem dX8_compute_102 : decode cX8_compute 102 = .ok (.iload_n 3, 1) := by decide +kernel
theorem dX8_compute_103 : decode cX8_compute 103 = .ok (.iushr, 1) := by decide +kernel
theorem dX8_compute_104 : decode cX8_compute 104 = .ok (.ireturn, 1) := by decide +kernel
theorem dX8_compute_105 : decode cX8_compute 105 = .ok (.iload_n 2, 1) := by decide +kernel
theorem dX8_compute_106 : decode cX8_compute 106 = .ok (.iload_n 3, 1) := by decide +kernel
theorem dX8_compute_107 : decode cX8_compute 107 = .ok (.ior, 1) := by decide +kernel
theorem dX8_compute_108 : decode cX8_compute 108 = .ok (.ireturn, 1) := by decide +kernel
theorem dX8_compute_109 : decode cX8_compute 109 = .ok (.iload_n 2, 1) := by decide +kernel
theorem dX8_compute_110 : decode cX8_compute 110 = .ok (.iload_n 3, 1) := by decide +kernel
theorem dX8_compute_111 : decode cX8_compute 111 = .ok (.iand, 1) := by decide +kernel
theorem dX8_compute_112 : decode cX8_compute 112 = .ok (.ireturn, 1) := by decide +kernel
theorem dX8_timed_0 : decode cX8_timed 0 = .ok (.iload_n 1, 1) := by decide +kernel
theorem dX8_timed_1 : decode cX8_timed 1 = .ok (.invokestatic 132, 3) := by decide +kernel
theorem dX8_timed_4 : decode cX8_timed 4 = .ok (.istore_n 3, 1) := by decide +kernel
theorem dX8_timed_5 : decode cX8_timed 5 = .ok (.iload_n 1, 1) := by decide +kernel
theorem dX8_timed_6 : decode cX8_timed 6 = .ok (.invokestatic 113, 3) := by decide +kernel
theorem dX8_timed_9 : decode cX8_timed 9 = .ok (.istore 4, 2) := by decide +kernel
theorem dX8_timed_11 : decode cX8_timed 11 = .ok (.iload_n 3, 1) := by decide +kernel
theorem dX8_timed_12 : decode cX8_timed 12 = .ok (.ifCond .ne 12, 3) := by decide +kernel
theorem dX8_timed_15 : decode cX8_timed 15 = .ok (.aload_n 0, 1) := by decide +kernel
theorem dX8_timed_16 : decode cX8_timed 16 = .ok (.iload 4, 2) := by decide +kernel
theorem dX8_timed_18 : decode cX8_timed 18 = .ok (.iload_n 1, 1) := by decide +kernel
theorem dX8_timed_19 : decode cX8_timed 19 = .ok (.iload_n 2, 1) := by decide +kernel
theorem dX8_timed_20 : decode cX8_timed 20 = .ok (.invokevirtual 195, 3) := by decide +kernel
theorem dX8_timed_23 : decode cX8_timed 23 = .ok (.areturn, 1) := by decide +kernel
theorem dX8_timed_24 : decode cX8_timed 24 = .ok (.iload_n 3, 1) := by decide +kernel
theorem dX8_timed_25 : decode cX8_timed 25 = .ok (.iconst 1, 1) := by decide +kernel
theorem dX8_timed_26 : decode cX8_timed 26 = .ok (.if_icmp .ne 11, 3) := by decide +kernel
theorem dX8_timed_29 : decode cX8_timed 29 = .ok (.iload 4, 2) := by decide +kernel
theorem dX8_timed_31 : decode cX8_timed 31 = .ok (.invokestatic 116, 3) := by decide +kernel
theorem dX8_timed_34 : decode cX8_timed 34 = .ok (.ifCond .ne 7, 3) := by decide +kernel
theorem dX8_timed_37 : decode cX8_timed 37 = .ok (.getstatic 48, 3) := by decide +kernel
theorem dX8_timed_40 : decode cX8_timed 40 = .ok (.areturn, 1) := by decide +kernel
theorem dX8_timed_41 : decode cX8_timed 41 = .ok (.aload_n 0, 1) := by decide +kernel
theorem dX8_timed_42 : decode cX8_timed 42 = .ok (.iload 4, 2) := by decide +kernel
theorem dX8_timed_44 : decode cX8_timed 44 = .ok (.iload_n 2, 1) := by decide +kernel
theorem dX8_timed_45 : decode cX8_timed 45 = .ok (.invokevirtual 122, 3) := by decide +kernel
theorem dX8_timed_48 : decode cX8_timed 48 = .ok (.getstatic 54, 3) := by decide +kernel
theorem dX8_timed_51 : decode cX8_timed 51 = .ok (.areturn, 1) := by decide +kernel
theorem dX8_setTimer_0 : decode cX8_setTimer 0 = .ok (.iload_n 2, 1) := by decide +kernel
theorem dX8_setTimer_1 : decode cX8_setTimer 1 = .ok (.invokestatic 129, 3) := by decide +kernel
theorem dX8_setTimer_4 : decode cX8_setTimer 4 = .ok (.istore 4, 2) := by decide +kernel
theorem dX8_setTimer_6 : decode cX8_setTimer 6 = .ok (.iload_n 1, 1) := by decide +kernel
theorem dX8_setTimer_7 : decode cX8_setTimer 7 = .ok (.iconst 4, 1) := by decide +kernel
theorem dX8_setTimer_8 : decode cX8_setTimer 8 = .ok (.if_icmp .ge 11, 3) := by decide +kernel
theorem dX8_setTimer_11 : decode cX8_setTimer 11 = .ok (.iload 4, 2) := by decide +kernel
theorem dX8_setTimer_13 : decode cX8_setTimer 13 = .ok (.invokestatic 116, 3) := by decide +kernel
theorem dX8_setTimer_16 : decode cX8_setTimer 16 = .ok (.ifCond .ne 7, 3) := by decide +kernel
theorem dX8_setTimer_19 : decode cX8_setTimer 19 = .ok (.getstatic 48, 3) := by decide +kernel
theorem dX8_setTimer_22 : decode cX8_setTimer 22 = .ok (.areturn, 1) := by decide +kernel
theorem dX8_setTimer_23 : decode cX8_setTimer 23 = .ok (.iload_n 3, 1) := by decide +kernel
theorem dX8_setTimer_24 : decode cX8_setTimer 24 = .ok (.aload_n 0, 1) := by decide +kernel
theorem dX8_setTimer_25 : decode cX8_setTimer 25 = .ok (.getfield 25, 3) := by decide +kernel
theorem dX8_setTimer_28 : decode cX8_setTimer 28 = .ok (.iload_n 1, 1) := by decide +kernel
theorem dX8_setTimer_29 : decode cX8_setTimer 29 = .ok (.iaload, 1) := by decide +kernel
theorem dX8_setTimer_30 : decode cX8_setTimer 30 = .ok (.if_icmp .ge 7, 3) := by decide +kernel
theorem dX8_setTimer_33 : decode cX8_setTimer 33 = .ok (.getstatic 199, 3) := by decide +kernel
theorem dX8_setTimer_36 : decode cX8_setTimer 36 = .ok (.areturn, 1) := by decide +kernel
theorem dX8_setTimer_37 : decode cX8_setTimer 37 = .ok (.iload_n 3, 1) := by decide +kernel
theorem dX8_setTimer_38 : decode cX8_setTimer 38 = .ok (.i2l, 1) := by decide +kernel
theorem dX8_setTimer_39 : decode cX8_setTimer 39 = .ok (.aload_n 0, 1) := by decide +kernel
theorem dX8_setTimer_40 : decode cX8_setTimer 40 = .ok (.getfield 9, 3) := by decide +kernel
theorem dX8_setTimer_43 : decode cX8_setTimer 43 = .ok (.iload 4, 2) := by decide +kernel
theorem dX8_setTimer_45 : decode cX8_setTimer 45 = .ok (.iaload, 1) := by decide +kernel
theorem dX8_setTimer_46 : decode cX8_setTimer 46 = .ok (.i2l, 1) := by decide +kernel
theorem dX8_setTimer_47 : decode cX8_setTimer 47 = .ok (.ladd, 1) := by decide +kernel
theorem dX8_setTimer_48 : decode cX8_setTimer 48 = .ok (.iload_n 2, 1) := by decide +kernel
theorem dX8_setTimer_49 : decode cX8_setTimer 49 = .ok (.invokestatic 135, 3) := by decide +kernel
theorem dX8_setTimer_52 : decode cX8_setTimer 52 = .ok (.i2l, 1) := by decide +kernel
theorem dX8_setTimer_53 : decode cX8_setTimer 53 = .ok (.ladd, 1) := by decide +kernel
theorem dX8_setTimer_54 : decode cX8_setTimer 54 = .ok (.lstore 5, 2) := by decide +kernel
theorem dX8_setTimer_56 : decode cX8_setTimer 56 = .ok (.aload_n 0, 1) := by decide +kernel
theorem dX8_setTimer_57 : decode cX8_setTimer 57 = .ok (.getfield 25, 3) := by decide +kernel
theorem dX8_setTimer_60 : decode cX8_setTimer 60 = .ok (.iload_n 1, 1) := by decide +kernel
theorem dX8_setTimer_61 : decode cX8_setTimer 61 = .ok (.ldc2_w 202, 3) := by decide +kernel
theorem dX8_setTimer_64 : decode cX8_setTimer 64 = .ok (.iload_n 3, 1) := by decide +kernel
theorem dX8_setTimer_65 : decode cX8_setTimer 65 = .ok (.i2l, 1) := by decide +kernel
theorem dX8_setTimer_66 : decode cX8_setTimer 66 = .ok (.lload 5, 2) := by decide +kernel
theorem dX8_setTimer_68 : decode cX8_setTimer 68 = .ok (.invokestatic 204, 3) := by decide +kernel
theorem dX8_setTimer_71 : decode cX8_setTimer 71 = .ok (.invokestatic 210, 3) := by decide +kernel
theorem dX8_setTimer_74 : decode cX8_setTimer 74 = .ok (.l2i, 1) := by decide +kernel
theorem dX8_setTimer_75 : decode cX8_setTimer 75 = .ok (.iastore, 1) := by decide +kernel
theorem dX8_setTimer_76 : decode cX8_setTimer 76 = .ok (.getstatic 54, 3) := by decide +kernel
theorem dX8_setTimer_79 : decode cX8_setTimer 79 = .ok (.areturn, 1) := by decide +kernel
theorem dX8_halt_0 : decode cX8_halt 0 = .ok (.iload_n 1, 1) := by decide +kernel
theorem dX8_halt_1 : decode cX8_halt 1 = .ok (.bipush 115, 2) := by decide +kernel
theorem dX8_halt_3 : decode cX8_halt 3 = .ok (.if_icmp .eq 7, 3) := by decide +kernel
theorem dX8_halt_6 : decode cX8_halt 6 = .ok (.getstatic 48, 3) := by decide +kernel
theorem dX8_halt_9 : decode cX8_halt 9 = .ok (.areturn, 1) := by decide +kernel
theorem dX8_halt_10 : decode cX8_halt 10 = .ok (.aload_n 0, 1) := by decide +kernel
theorem dX8_halt_11 : decode cX8_halt 11 = .ok (.iconst 2, 1) := by decide +kernel
theorem dX8_halt_12 : decode cX8_halt 12 = .ok (.putfield 28, 3) := by decide +kernel
theorem dX8_halt_15 : decode cX8_halt 15 = .ok (.getstatic 54, 3) := by decide +kernel
theorem dX8_halt_18 : decode cX8_halt 18 = .ok (.areturn, 1) := by decide +kernel
theorem dX8_setRegister_0 : decode cX8_setRegister 0 = .ok (.iload_n 1, 1) := by decide +kernel
theorem dX8_setRegister_1 : decode cX8_setRegister 1 = .ok (.ifCond .eq 10, 3) := by decide +kernel
theorem dX8_setRegister_4 : decode cX8_setRegister 4 = .ok (.aload_n 0, 1) := by decide +kernel
theorem dX8_setRegister_5 : decode cX8_setRegister 5 = .ok (.getfield 9, 3) := by decide +kernel
theorem dX8_setRegister_8 : decode cX8_setRegister 8 = .ok (.iload_n 1, 1) := by decide +kernel
theorem dX8_setRegister_9 : decode cX8_setRegister 9 = .ok (.iload_n 2, 1) := by decide +kernel
theorem dX8_setRegister_10 : decode cX8_setRegister 10 = .ok (.iastore, 1) := by decide +kernel
theorem dX8_setRegister_11 : decode cX8_setRegister 11 = .ok (.return_, 1) := by decide +kernel
theorem dX8_isInStore_0 : decode cX8_isInStore 0 = .ok (.iload_n 0, 1) := by decide +kernel
theorem dX8_isInStore_1 : decode cX8_isInStore 1 = .ok (.ifCond .lt 14, 3) := by decide +kernel
theorem dX8_isInStore_4 : decode cX8_isInStore 4 = .ok (.iload_n 0, 1) := by decide +kernel
theorem dX8_isInStore_5 : decode cX8_isInStore 5 = .ok (.sipush 512, 3) := by decide +kernel
theorem dX8_isInStore_8 : decode cX8_isInStore 8 = .ok (.if_icmp .ge 7, 3) := by decide +kernel
theorem dX8_isInStore_11 : decode cX8_isInStore 11 = .ok (.iconst 1, 1) := by decide +kernel
theorem dX8_isInStore_12 : decode cX8_isInStore 12 = .ok (.goto 4, 3) := by decide +kernel
theorem dX8_isInStore_15 : decode cX8_isInStore 15 = .ok (.iconst 0, 1) := by decide +kernel
theorem dX8_isInStore_16 : decode cX8_isInStore 16 = .ok (.ireturn, 1) := by decide +kernel
theorem dX8_isAligned_0 : decode cX8_isAligned 0 = .ok (.iload_n 0, 1) := by decide +kernel
theorem dX8_isAligned_1 : decode cX8_isAligned 1 = .ok (.iconst 3, 1) := by decide +kernel
theorem dX8_isAligned_2 : decode cX8_isAligned 2 = .ok (.iand, 1) := by decide +kernel
theorem dX8_isAligned_3 : decode cX8_isAligned 3 = .ok (.ifCond .ne 7, 3) := by decide +kernel
theorem dX8_isAligned_6 : decode cX8_isAligned 6 = .ok (.iconst 1, 1) := by decide +kernel
theorem dX8_isAligned_7 : decode cX8_isAligned 7 = .ok (.goto 4, 3) := by decide +kernel
theorem dX8_isAligned_10 : decode cX8_isAligned 10 = .ok (.iconst 0, 1) := by decide +kernel
theorem dX8_isAligned_11 : decode cX8_isAligned 11 = .ok (.ireturn, 1) := by decide +kernel
theorem dX10_init_0 : decode cX10_init 0 = .ok (.aload_n 0, 1) := by decide +kernel
theorem dX10_init_1 : decode cX10_init 1 = .ok (.invokespecial 1, 3) := by decide +kernel
theorem dX10_init_4 : decode cX10_init 4 = .ok (.aload_n 0, 1) := by decide +kernel
theorem dX10_init_5 : decode cX10_init 5 = .ok (.new 7, 3) := by decide +kernel
theorem dX10_init_8 : decode cX10_init 8 = .ok (.dup, 1) := by decide +kernel
theorem dX10_init_9 : decode cX10_init 9 = .ok (.iconst 1, 1) := by decide +kernel
theorem dX10_init_10 : decode cX10_init 10 = .ok (.bipush 8, 2) := by decide +kernel
theorem dX10_init_12 : decode cX10_init 12 = .ok (.iload_n 1, 1) := by decide +kernel
theorem dX10_init_13 : decode cX10_init 13 = .ok (.invokestatic 11, 3) := by decide +kernel
theorem dX10_init_16 : decode cX10_init 16 = .ok (.invokestatic 17, 3) := by decide +kernel
theorem dX10_init_19 : decode cX10_init 19 = .ok (.invokespecial 20, 3) := by decide +kernel
theorem dX10_init_22 : decode cX10_init 22 = .ok (.putfield 23, 3) := by decide +kernel
theorem dX10_init_25 : decode cX10_init 25 = .ok (.aload_n 0, 1) := by decide +kernel
theorem dX10_init_26 : decode cX10_init 26 = .ok (.iconst 4, 1) := by decide +kernel
theorem dX10_init_27 : decode cX10_init 27 = .ok (.anewarray 27, 3) := by decide +kernel
theorem dX10_init_30 : decode cX10_init 30 = .ok (.putfield 29, 3) := by decide +kernel
theorem dX10_init_33 : decode cX10_init 33 = .ok (.iconst 0, 1) := by decide +kernel
theorem dX10_init_34 : decode cX10_init 34 = .ok (.istore_n 2, 1) := by decide +kernel
theorem dX10_init_35 : decode cX10_init 35 = .ok (.iload_n 2, 1) := by decide +kernel
theorem dX10_init_36 : decode cX10_init 36 = .ok (.iconst 4, 1) := by decide +kernel
theorem dX10_init_37 : decode cX10_init 37 = .ok (.if_icmp .ge 23, 3) := by decide +kernel
theorem dX10_init_40 : decode cX10_init 40 = .ok (.aload_n 0, 1) := by decide +kernel
theorem dX10_init_41 : decode cX10_init 41 = .ok (.getfield 29, 3) := by decide +kernel
theorem dX10_init_44 : decode cX10_init 44 = .ok (.iload_n 2, 1) := by decide +kernel
theorem dX10_init_45 : decode cX10_init 45 = .ok (.new 27, 3) := by decide +kernel
theorem dX10_init_48 : decode cX10_init 48 = .ok (.dup, 1) := by decide +kernel
theorem dX10_init_49 : decode cX10_init 49 = .ok (.iload_n 2, 1) := by decide +kernel
theorem dX10_init_50 : decode cX10_init 50 = .ok (.invokespecial 33, 3) := by decide +kernel
theorem dX10_init_53 : decode cX10_init 53 = .ok (.aastore, 1) := by decide +kernel
theorem dX10_init_54 : decode cX10_init 54 = .ok (.iinc 2 1, 3) := by decide +kernel
theorem dX10_init_57 : decode cX10_init 57 = .ok (.goto (-22), 3) := by decide +kernel
theorem dX10_init_60 : decode cX10_init 60 = .ok (.aload_n 0, 1) := by decide +kernel
theorem dX10_init_61 : decode cX10_init 61 = .ok (.new 34, 3) := by decide +kernel
theorem dX10_init_64 : decode cX10_init 64 = .ok (.dup, 1) := by decide +kernel
theorem dX10_init_65 : decode cX10_init 65 = .ok (.invokespecial 36, 3) := by decide +kernel
theorem dX10_init_68 : decode cX10_init 68 = .ok (.putfield 37, 3) := by decide +kernel
theorem dX10_init_71 : decode cX10_init 71 = .ok (.aload_n 0, 1) := by decide +kernel
theorem dX10_init_72 : decode cX10_init 72 = .ok (.new 41, 3) := by decide +kernel
theorem dX10_init_75 : decode cX10_init 75 = .ok (.dup, 1) := by decide +kernel
theorem dX10_init_76 : decode cX10_init 76 = .ok (.invokespecial 43, 3) := by decide +kernel
theorem dX10_init_79 : decode cX10_init 79 = .ok (.putfield 44, 3) := by decide +kernel
theorem dX10_init_82 : decode cX10_init 82 = .ok (.return_, 1) := by decide +kernel
theorem dX10_type_0 : decode cX10_type 0 = .ok (.lload_n 1, 1) := by decide +kernel
theorem dX10_type_1 : decode cX10_type 1 = .ok (.iload_n 3, 1) := by decide +kernel
theorem dX10_type_2 : decode cX10_type 2 = .ok (.invokestatic 48, 3) := by decide +kernel
theorem dX10_type_5 : decode cX10_type 5 = .ok (.ifCond .ne 11, 3) := by decide +kernel
theorem dX10_type_8 : decode cX10_type 8 = .ok (.new 52, 3) := by decide +kernel
theorem dX10_type_11 : decode cX10_type 11 = .ok (.dup, 1) := by decide +kernel
theorem dX10_type_12 : decode cX10_type 12 = .ok (.invokespecial 54, 3) := by decide +kernel
theorem dX10_type_15 : decode cX10_type 15 = .ok (.athrow, 1) := by decide +kernel
theorem dX10_type_16 : decode cX10_type 16 = .ok (.aload_n 0, 1) := by decide +kernel
theorem dX10_type_17 : decode cX10_type 17 = .ok (.getfield 37, 3) := by decide +kernel
theorem dX10_type_20 : decode cX10_type 20 = .ok (.getfield 55, 3) := by decide +kernel
theorem dX10_type_23 : decode cX10_type 23 = .ok (.iload_n 3, 1) := by decide +kernel
theorem dX10_type_24 : decode cX10_type 24 = .ok (.iadd, 1) := by decide +kernel
theorem dX10_type_25 : decode cX10_type 25 = .ok (.sipush 400, 3) := by decide +kernel
theorem dX10_type_28 : decode cX10_type 28 = .ok (.if_icmp .le 11, 3) := by decide +kernel
theorem dX10_type_31 : decode cX10_type 31 = .ok (.new 59, 3) := by decide +kernel
theorem dX10_type_34 : decode cX10_type 34 = .ok (.dup, 1) := by decide +kernel
theorem dX10_type_35 : decode cX10_type 35 = .ok (.invokespecial 61, 3) := by decide +kernel
theorem dX10_type_38 : decode cX10_type 38 = .ok (.athrow, 1) := by decide +kernel
theorem dX10_type_39 : decode cX10_type 39 = .ok (.aload_n 0, 1) := by decide +kernel
theorem dX10_type_40 : decode cX10_type 40 = .ok (.getfield 37, 3) := by decide +kernel
theorem dX10_type_43 : decode cX10_type 43 = .ok (.lload_n 1, 1) := by decide +kernel
theorem dX10_type_44 : decode cX10_type 44 = .ok (.iload_n 3, 1) := by decide +kernel
theorem dX10_type_45 : decode cX10_type 45 = .ok (.invokevirtual 62, 3) := by decide +kernel
theorem dX10_type_48 : decode cX10_type 48 = .ok (.aload_n 0, 1) := by decide +kernel
theorem dX10_type_49 : decode cX10_type 49 = .ok (.getfield 37, 3) := by decide +kernel
theorem dX10_type_52 : decode cX10_type 52 = .ok (.getfield 55, 3) := by decide +kernel
theorem dX10_type_55 : decode cX10_type 55 = .ok (.ireturn, 1) := by decide +kernel
theorem dX10_clear_0 : decode cX10_clear 0 = .ok (.aload_n 0, 1) := by decide +kernel
theorem dX10_clear_1 : decode cX10_clear 1 = .ok (.getfield 37, 3) := by decide +kernel
theorem dX10_clear_4 : decode cX10_clear 4 = .ok (.getfield 55, 3) := by decide +kernel
theorem dX10_clear_7 : decode cX10_clear 7 = .ok (.istore_n 1, 1) := by decide +kernel
theorem dX10_clear_8 : decode cX10_clear 8 = .ok (.aload_n 0, 1) := by decide +kernel
theorem dX10_clear_9 : decode cX10_clear 9 = .ok (.getfield 37, 3) := by decide +kernel
theorem dX10_clear_12 : decode cX10_clear 12 = .ok (.iconst 0, 1) := by decide +kernel
theorem dX10_clear_13 : decode cX10_clear 13 = .ok (.putfield 55, 3) := by decide +kernel
theorem dX10_clear_16 : decode cX10_clear 16 = .ok (.iload_n 1, 1) := by decide +kernel
theorem dX10_clear_17 : decode cX10_clear 17 = .ok (.ireturn, 1) := by decide +kernel
theorem dX10_assemble_0 : decode cX10_assemble 0 = .ok (.iload_n 1, 1) := by decide +kernel
theorem dX10_assemble_1 : decode cX10_assemble 1 = .ok (.iload_n 2, 1) := by decide +kernel
theorem dX10_assemble_2 : decode cX10_assemble 2 = .ok (.invokestatic 66, 3) := by decide +kernel
theorem dX10_assemble_5 : decode cX10_assemble 5 = .ok (.ifCond .ne 11, 3) := by decide +kernel
theorem dX10_assemble_8 : decode cX10_assemble 8 = .ok (.new 70, 3) := by decide +kernel
theorem dX10_assemble_11 : decode cX10_assemble 11 = .ok (.dup, 1) := by decide +kernel
theorem dX10_assemble_12 : decode cX10_assemble 12 = .ok (.invokespecial 72, 3) := by decide +kernel
theorem dX10_assemble_15 : decode cX10_assemble 15 = .ok (.athrow, 1) := by decide +kernel
theorem dX10_assemble_16 : decode cX10_assemble 16 = .ok (.aload_n 0, 1) := by decide +kernel
theorem dX10_assemble_17 : decode cX10_assemble 17 = .ok (.getfield 44, 3) := by decide +kernel
theorem dX10_assemble_20 : decode cX10_assemble 20 = .ok (.aload_n 0, 1) := by decide +kernel
theorem dX10_assemble_21 : decode cX10_assemble 21 = .ok (.getfield 37, 3) := by decide +kernel
theorem dX10_assemble_24 : decode cX10_assemble 24 = .ok (.iload_n 2, 1) := by decide +kernel
theorem dX10_assemble_25 : decode cX10_assemble 25 = .ok (.invokevirtual 73, 3) := by decide +kernel
theorem dX10_assemble_28 : decode cX10_assemble 28 = .ok (.aload_n 0, 1) := by decide +kernel
theorem dX10_assemble_29 : decode cX10_assemble 29 = .ok (.getfield 44, 3) := by decide +kernel
theorem dX10_assemble_32 : decode cX10_assemble 32 = .ok (.getfield 77, 3) := by decide +kernel
theorem dX10_assemble_35 : decode cX10_assemble 35 = .ok (.ifCond .eq 11, 3) := by decide +kernel
theorem dX10_assemble_38 : decode cX10_assemble 38 = .ok (.new 52, 3) := by decide +kernel
theorem dX10_assemble_41 : decode cX10_assemble 41 = .ok (.dup, 1) := by decide +kernel
theorem dX10_assemble_42 : decode cX10_assemble 42 = .ok (.invokespecial 54, 3) := by decide +kernel
theorem dX10_assemble_45 : decode cX10_assemble 45 = .ok (.athrow, 1) := by decide +kernel
theorem dX10_assemble_46 : decode cX10_assemble 46 = .ok (.aload_n 0, 1) := by decide +kernel
theorem dX10_assemble_47 : decode cX10_assemble 47 = .ok (.getfield 44, 3) := by decide +kernel
theorem dX10_assemble_50 : decode cX10_assemble 50 = .ok (.getfield 80, 3) := by decide +kernel
theorem dX10_assemble_53 : decode cX10_assemble 53 = .ok (.iconst 0, 1) := by decide +kernel
theorem dX10_assemble_54 : decode cX10_assemble 54 = .ok (.aload_n 0, 1) := by decide +kernel
theorem dX10_assemble_55 : decode cX10_assemble 55 = .ok (.getfield 29, 3) := by decide +kernel
theorem dX10_assemble_58 : decode cX10_assemble 58 = .ok (.iload_n 1, 1) := by decide +kernel
theorem dX10_assemble_59 : decode cX10_assemble 59 = .ok (.aaload, 1) := by decide +kernel
theorem dX10_assemble_60 : decode cX10_assemble 60 = .ok (.getfield 84, 3) := by decide +kernel
theorem dX10_assemble_63 : decode cX10_assemble 63 = .ok (.iload_n 2, 1) := by decide +kernel
theorem dX10_assemble_64 : decode cX10_assemble 64 = .ok (.aload_n 0, 1) := by decide +kernel
theorem dX10_assemble_65 : decode cX10_assemble 65 = .ok (.getfield 44, 3) := by decide +kernel
theorem dX10_assemble_68 : decode cX10_assemble 68 = .ok (.getfield 87, 3) := by decide +kernel
theorem dX10_assemble_71 : decode cX10_assemble 71 = .ok (.invokestatic 90, 3) := by decide +kernel
theorem dX10_assemble_74 : decode cX10_assemble 74 = .ok (.aload_n 0, 1) := by decide +kernel
theorem dX10_assemble_75 : decode cX10_assemble 75 = .ok (.getfield 44, 3) := by decide +kernel
theorem dX10_assemble_78 : decode cX10_assemble 78 = .ok (.getfield 87, 3) := by decide +kernel
theorem dX10_assemble_81 : decode cX10_assemble 81 = .ok (.ireturn, 1) := by decide +kernel
theorem dX10_fault_0 : decode cX10_fault 0 = .ok (.iload_n 1, 1) := by decide +kernel
theorem dX10_fault_1 : decode cX10_fault 1 = .ok (.ifCond .ne 11, 3) := by decide +kernel
theorem dX10_fault_4 : decode cX10_fault 4 = .ok (.aload_n 0, 1) := by decide +kernel
theorem dX10_fault_5 : decode cX10_fault 5 = .ok (.getfield 44, 3) := by decide +kernel
theorem dX10_fault_8 : decode cX10_fault 8 = .ok (.getfield 77, 3) := by decide +kernel
theorem dX10_fault_11 : decode cX10_fault 11 = .ok (.ireturn, 1) := by decide +kernel
theorem dX10_fault_12 : decode cX10_fault 12 = .ok (.iload_n 1, 1) := by decide +kernel
theorem dX10_fault_13 : decode cX10_fault 13 = .ok (.iconst 1, 1) := by decide +kernel
theorem dX10_fault_14 : decode cX10_fault 14 = .ok (.if_icmp .ne 13, 3) := by decide +kernel
theorem dX10_fault_17 : decode cX10_fault 17 = .ok (.aload_n 0, 1) := by decide +kernel
theorem dX10_fault_18 : decode cX10_fault 18 = .ok (.getfield 44, 3) := by decide +kernel
theorem dX10_fault_21 : decode cX10_fault 21 = .ok (.getfield 96, 3) := by decide +kernel
theorem dX10_fault_24 : decode cX10_fault 24 = .ok (.goto 4, 3) := by decide +kernel
theorem dX10_fault_27 : decode cX10_fault 27 = .ok (.iconst 0, 1) := by decide +kernel
theorem dX10_fault_28 : decode cX10_fault 28 = .ok (.ireturn, 1) := by decide +kernel
theorem dX10_peek_0 : decode cX10_peek 0 = .ok (.iload_n 1, 1) := by decide +kernel
theorem dX10_peek_1 : decode cX10_peek 1 = .ok (.iload_n 2, 1) := by decide +kernel
theorem dX10_peek_2 : decode cX10_peek 2 = .ok (.invokestatic 66, 3) := by decide +kernel
theorem dX10_peek_5 : decode cX10_peek 5 = .ok (.ifCond .eq 17, 3) := by decide +kernel
theorem dX10_peek_8 : decode cX10_peek 8 = .ok (.aload_n 0, 1) := by decide +kernel
theorem dX10_peek_9 : decode cX10_peek 9 = .ok (.getfield 29, 3) := by decide +kernel
theorem dX10_peek_12 : decode cX10_peek 12 = .ok (.iload_n 1, 1) := by decide +kernel
theorem dX10_peek_13 : decode cX10_peek 13 = .ok (.aaload, 1) := by decide +kernel
theorem dX10_peek_14 : decode cX10_peek 14 = .ok (.getfield 84, 3) := by decide +kernel
theorem dX10_peek_17 : decode cX10_peek 17 = .ok (.iload_n 2, 1) := by decide +kernel
theorem dX10_peek_18 : decode cX10_peek 18 = .ok (.iaload, 1) := by decide +kernel
theorem dX10_peek_19 : decode cX10_peek 19 = .ok (.goto 4, 3) := by decide +kernel
theorem dX10_peek_22 : decode cX10_peek 22 = .ok (.iconst 0, 1) := by decide +kernel
theorem dX10_peek_23 : decode cX10_peek 23 = .ok (.ireturn, 1) := by decide +kernel
theorem dX10_poke_0 : decode cX10_poke 0 = .ok (.iload_n 1, 1) := by decide +kernel
theorem dX10_poke_1 : decode cX10_poke 1 = .ok (.iload_n 2, 1) := by decide +kernel
theorem dX10_poke_2 : decode cX10_poke 2 = .ok (.invokestatic 66, 3) := by decide +kernel
theorem dX10_poke_5 : decode cX10_poke 5 = .ok (.ifCond .ne 5, 3) := by decide +kernel
theorem dX10_poke_8 : decode cX10_poke 8 = .ok (.iconst 0, 1) := by decide +kernel
theorem dX10_poke_9 : decode cX10_poke 9 = .ok (.ireturn, 1) := by decide +kernel
theorem dX10_poke_10 : decode cX10_poke 10 = .ok (.aload_n 0, 1) := by decide +kernel
theorem dX10_poke_11 : decode cX10_poke 11 = .ok (.getfield 29, 3) := by decide +kernel
theorem dX10_poke_14 : decode cX10_poke 14 = .ok (.iload_n 1, 1) := by decide +kernel
theorem dX10_poke_15 : decode cX10_poke 15 = .ok (.aaload, 1) := by decide +kernel
theorem dX10_poke_16 : decode cX10_poke 16 = .ok (.getfield 84, 3) := by decide +kernel
theorem dX10_poke_19 : decode cX10_poke 19 = .ok (.iload_n 2, 1) := by decide +kernel
theorem dX10_poke_20 : decode cX10_poke 20 = .ok (.iload_n 3, 1) := by decide +kernel
theorem dX10_poke_21 : decode cX10_poke 21 = .ok (.iastore, 1) := by decide +kernel
theorem dX10_poke_22 : decode cX10_poke 22 = .ok (.iconst 1, 1) := by decide +kernel
theorem dX10_poke_23 : decode cX10_poke 23 = .ok (.ireturn, 1) := by decide +kernel
theorem dX10_shared_0 : decode cX10_shared 0 = .ok (.iload_n 1, 1) := by decide +kernel
theorem dX10_shared_1 : decode cX10_shared 1 = .ok (.ifCond .lt 21, 3) := by decide +kernel
theorem dX10_shared_4 : decode cX10_shared 4 = .ok (.iload_n 1, 1) := by decide +kernel
theorem dX10_shared_5 : decode cX10_shared 5 = .ok (.bipush 64, 2) := by decide +kernel
theorem dX10_shared_7 : decode cX10_shared 7 = .ok (.if_icmp .ge 15, 3) := by decide +kernel
theorem dX10_shared_10 : decode cX10_shared 10 = .ok (.aload_n 0, 1) := by decide +kernel
theorem dX10_shared_11 : decode cX10_shared 11 = .ok (.getfield 23, 3) := by decide +kernel
theorem dX10_shared_14 : decode cX10_shared 14 = .ok (.getfield 99, 3) := by decide +kernel
theorem dX10_shared_17 : decode cX10_shared 17 = .ok (.iload_n 1, 1) := by decide +kernel
theorem dX10_shared_18 : decode cX10_shared 18 = .ok (.iaload, 1) := by decide +kernel
theorem dX10_shared_19 : decode cX10_shared 19 = .ok (.goto 4, 3) := by decide +kernel
theorem dX10_shared_22 : decode cX10_shared 22 = .ok (.iconst 0, 1) := by decide +kernel
theorem dX10_shared_23 : decode cX10_shared 23 = .ok (.ireturn, 1) := by decide +kernel
theorem dX10_part_0 : decode cX10_part 0 = .ok (.iload_n 1, 1) := by decide +kernel
theorem dX10_part_1 : decode cX10_part 1 = .ok (.invokestatic 100, 3) := by decide +kernel
theorem dX10_part_4 : decode cX10_part 4 = .ok (.ifCond .eq 18, 3) := by decide +kernel
theorem dX10_part_7 : decode cX10_part 7 = .ok (.iload_n 2, 1) := by decide +kernel
theorem dX10_part_8 : decode cX10_part 8 = .ok (.ifCond .lt 14, 3) := by decide +kernel
theorem dX10_part_11 : decode cX10_part 11 = .ok (.iload_n 2, 1) := by decide +kernel
theorem dX10_part_12 : decode cX10_part 12 = .ok (.iload_n 3, 1) := by decide +kernel
theorem dX10_part_13 : decode cX10_part 13 = .ok (.if_icmp .gt 9, 3) := by decide +kernel
theorem dX10_part_16 : decode cX10_part 16 = .ok (.iload_n 3, 1) := by decide +kernel
theorem dX10_part_17 : decode cX10_part 17 = .ok (.bipush 64, 2) := by decide +kernel
theorem dX10_part_19 : decode cX10_part 19 = .ok (.if_icmp .le 5, 3) := by decide +kernel
theorem dX10_part_22 : decode cX10_part 22 = .ok (.iconst 0, 1) := by decide +kernel
theorem dX10_part_23 : decode cX10_part 23 = .ok (.ireturn, 1) := by decide +kernel
theorem dX10_part_24 : decode cX10_part 24 = .ok (.aload_n 0, 1) := by decide +kernel
theorem dX10_part_25 : decode cX10_part 25 = .ok (.getfield 29, 3) := by decide +kernel
theorem dX10_part_28 : decode cX10_part 28 = .ok (.iload_n 1, 1) := by decide +kernel
theorem dX10_part_29 : decode cX10_part 29 = .ok (.aaload, 1) := by decide +kernel
theorem dX10_part_30 : decode cX10_part 30 = .ok (.iload_n 2, 1) := by decide +kernel
theorem dX10_part_31 : decode cX10_part 31 = .ok (.putfield 104, 3) := by decide +kernel
theorem dX10_part_34 : decode cX10_part 34 = .ok (.aload_n 0, 1) := by decide +kernel
theorem dX10_part_35 : decode cX10_part 35 = .ok (.getfield 29, 3) := by decide +kernel
theorem dX10_part_38 : decode cX10_part 38 = .ok (.iload_n 1, 1) := by decide +kernel
theorem dX10_part_39 : decode cX10_part 39 = .ok (.aaload, 1) := by decide +kernel
theorem dX10_part_40 : decode cX10_part 40 = .ok (.iload_n 3, 1) := by decide +kernel
theorem dX10_part_41 : decode cX10_part 41 = .ok (.putfield 107, 3) := by decide +kernel
theorem dX10_part_44 : decode cX10_part 44 = .ok (.iconst 1, 1) := by decide +kernel
theorem dX10_part_45 : decode cX10_part 45 = .ok (.ireturn, 1) := by decide +kernel
theorem dX10_start_0 : decode cX10_start 0 = .ok (.iload_n 1, 1) := by decide +kernel
theorem dX10_start_1 : decode cX10_start 1 = .ok (.invokestatic 100, 3) := by decide +kernel
theorem dX10_start_4 : decode cX10_start 4 = .ok (.ifCond .ne 5, 3) := by decide +kernel
theorem dX10_start_7 : decode cX10_start 7 = .ok (.iconst 0, 1) := by decide +kernel
theorem dX10_start_8 : decode cX10_start 8 = .ok (.ireturn, 1) := by decide +kernel
theorem dX10_start_9 : decode cX10_start 9 = .ok (.aload_n 0, 1) := by decide +kernel
theorem dX10_start_10 : decode cX10_start 10 = .ok (.getfield 29, 3) := by decide +kernel
theorem dX10_start_13 : decode cX10_start 13 = .ok (.iload_n 1, 1) := by decide +kernel
theorem dX10_start_14 : decode cX10_start 14 = .ok (.aaload, 1) := by decide +kernel
theorem dX10_start_15 : decode cX10_start 15 = .ok (.iload_n 2, 1) := by decide +kernel
theorem dX10_start_16 : decode cX10_start 16 = .ok (.aload_n 0, 1) := by decide +kernel
theorem dX10_start_17 : decode cX10_start 17 = .ok (.getfield 110, 3) := by decide +kernel
theorem dX10_start_20 : decode cX10_start 20 = .ok (.invokevirtual 113, 3) := by decide +kernel
theorem dX10_start_23 : decode cX10_start 23 = .ok (.iconst 1, 1) := by decide +kernel
theorem dX10_start_24 : decode cX10_start 24 = .ok (.ireturn, 1) := by decide +kernel
theorem dX10_run_0 : decode cX10_run 0 = .ok (.iload_n 1, 1) := by decide +kernel
theorem dX10_run_1 : decode cX10_run 1 = .ok (.ifCond .lt 10, 3) := by decide +kernel
theorem dX10_run_4 : decode cX10_run 4 = .ok (.iload_n 1, 1) := by decide +kernel
theorem dX10_run_5 : decode cX10_run 5 = .ok (.sipush 2000, 3) := by decide +kernel
theorem dX10_run_8 : decode cX10_run 8 = .ok (.if_icmp .le 5, 3) := by decide +kernel
theorem dX10_run_11 : decode cX10_run 11 = .ok (.iconst (-1), 1) := by decide +kernel
theorem dX10_run_12 : decode cX10_run 12 = .ok (.ireturn, 1) := by decide +kernel
theorem dX10_run_13 : decode cX10_run 13 = .ok (.iconst 0, 1) := by decide +kernel
theorem dX10_run_14 : decode cX10_run 14 = .ok (.istore_n 2, 1) := by decide +kernel
theorem dX10_run_15 : decode cX10_run 15 = .ok (.iconst 0, 1) := by decide +kernel
theorem dX10_run_16 : decode cX10_run 16 = .ok (.istore_n 3, 1) := by decide +kernel
theorem dX10_run_17 : decode cX10_run 17 = .ok (.iload_n 3, 1) := by decide +kernel
theorem dX10_run_18 : decode cX10_run 18 = .ok (.iload_n 1, 1) := by decide +kernel
theorem dX10_run_19 : decode cX10_run 19 = .ok (.if_icmp .ge 49, 3) := by decide +kernel
theorem dX10_run_22 : decode cX10_run 22 = .ok (.aload_n 0, 1) := by decide +kernel
theorem dX10_run_23 : decode cX10_run 23 = .ok (.getfield 29, 3) := by decide +kernel
theorem dX10_run_26 : decode cX10_run 26 = .ok (.aload_n 0, 1) := by decide +kernel
theorem dX10_run_27 : decode cX10_run 27 = .ok (.getfield 110, 3) := by decide +kernel
theorem dX10_run_30 : decode cX10_run 30 = .ok (.iconst 4, 1) := by decide +kernel
theorem dX10_run_31 : decode cX10_run 31 = .ok (.invokestatic 117, 3) := by decide +kernel
theorem dX10_run_34 : decode cX10_run 34 = .ok (.aaload, 1) := by decide +kernel
theorem dX10_run_35 : decode cX10_run 35 = .ok (.aload_n 0, 1) := by decide +kernel
theorem dX10_run_36 : decode cX10_run 36 = .ok (.getfield 110, 3) := by decide +kernel
theorem dX10_run_39 : decode cX10_run 39 = .ok (.aload_n 0, 1) := by decide +kernel
theorem dX10_run_40 : decode cX10_run 40 = .ok (.getfield 23, 3) := by decide +kernel
theorem dX10_run_43 : decode cX10_run 43 = .ok (.invokevirtual 120, 3) := by decide +kernel
theorem dX10_run_46 : decode cX10_run 46 = .ok (.ifCond .eq 6, 3) := by decide +kernel
theorem dX10_run_49 : decode cX10_run 49 = .ok (.iinc 2 1, 3) := by decide +kernel
theorem dX10_run_52 : decode cX10_run 52 = .ok (.aload_n 0, 1) := by decide +kernel
theorem dX10_run_53 : decode cX10_run 53 = .ok (.dup, 1) := by decide +kernel
theorem dX10_run_54 : decode cX10_run 54 = .ok (.getfield 110, 3) := by decide +kernel
theorem dX10_run_57 : decode cX10_run 57 = .ok (.iconst 1, 1) := by decide +kernel
theorem dX10_run_58 : decode cX10_run 58 = .ok (.iadd, 1) := by decide +kernel
theorem dX10_run_59 : decode cX10_run 59 = .ok (.putfield 110, 3) := by decide +kernel
theorem dX10_run_62 : decode cX10_run 62 = .ok (.iinc 3 1, 3) := by decide +kernel
theorem dX10_run_65 : decode cX10_run 65 = .ok (.goto (-48), 3) := by decide +kernel
theorem dX10_run_68 : decode cX10_run 68 = .ok (.iload_n 2, 1) := by decide +kernel
theorem dX10_run_69 : decode cX10_run 69 = .ok (.ireturn, 1) := by decide +kernel
theorem dX10_now_0 : decode cX10_now 0 = .ok (.aload_n 0, 1) := by decide +kernel
theorem dX10_now_1 : decode cX10_now 1 = .ok (.getfield 110, 3) := by decide +kernel
theorem dX10_now_4 : decode cX10_now 4 = .ok (.ireturn, 1) := by decide +kernel
theorem dX10_register_0 : decode cX10_register 0 = .ok (.iload_n 1, 1) := by decide +kernel
theorem dX10_register_1 : decode cX10_register 1 = .ok (.invokestatic 100, 3) := by decide +kernel
theorem dX10_register_4 : decode cX10_register 4 = .ok (.ifCond .eq 24, 3) := by decide +kernel
theorem dX10_register_7 : decode cX10_register 7 = .ok (.iload_n 2, 1) := by decide +kernel
theorem dX10_register_8 : decode cX10_register 8 = .ok (.invokestatic 124, 3) := by decide +kernel
theorem dX10_register_11 : decode cX10_register 11 = .ok (.ifCond .eq 17, 3) := by decide +kernel
theorem dX10_register_14 : decode cX10_register 14 = .ok (.aload_n 0, 1) := by decide +kernel
theorem dX10_register_15 : decode cX10_register 15 = .ok (.getfield 29, 3) := by decide +kernel
theorem dX10_register_18 : decode cX10_register 18 = .ok (.iload_n 1, 1) := by decide +kernel
theorem dX10_register_19 : decode cX10_register 19 = .ok (.aaload, 1) := by decide +kernel
theorem dX10_register_20 : decode cX10_register 20 = .ok (.getfield 127, 3) := by decide +kernel
theorem dX10_register_23 : decode cX10_register 23 = .ok (.iload_n 2, 1) := by decide +kernel
theorem dX10_register_24 : decode cX10_register 24 = .ok (.iaload, 1) := by decide +kernel
theorem dX10_register_25 : decode cX10_register 25 = .ok (.goto 4, 3) := by decide +kernel
theorem dX10_register_28 : decode cX10_register 28 = .ok (.iconst 0, 1) := by decide +kernel
theorem dX10_register_29 : decode cX10_register 29 = .ok (.ireturn, 1) := by decide +kernel
theorem dX10_state_0 : decode cX10_state 0 = .ok (.iload_n 1, 1) := by decide +kernel
theorem dX10_state_1 : decode cX10_state 1 = .ok (.invokestatic 100, 3) := by decide +kernel
theorem dX10_state_4 : decode cX10_state 4 = .ok (.ifCond .eq 16, 3) := by decide +kernel
theorem dX10_state_7 : decode cX10_state 7 = .ok (.aload_n 0, 1) := by decide +kernel
theorem dX10_state_8 : decode cX10_state 8 = .ok (.getfield 29, 3) := by decide +kernel
theorem dX10_state_11 : decode cX10_state 11 = .ok (.iload_n 1, 1) := by decide +kernel
theorem dX10_state_12 : decode cX10_state 12 = .ok (.aaload, 1) := by decide +kernel
theorem dX10_state_13 : decode cX10_state 13 = .ok (.iload_n 2, 1) := by decide +kernel
theorem dX10_state_14 : decode cX10_state 14 = .ok (.invokevirtual 130, 3) := by decide +kernel
theorem dX10_state_17 : decode cX10_state 17 = .ok (.goto 4, 3) := by decide +kernel
theorem dX10_state_20 : decode cX10_state 20 = .ok (.iconst (-1), 1) := by decide +kernel
theorem dX10_state_21 : decode cX10_state 21 = .ok (.ireturn, 1) := by decide +kernel
theorem dX10_trace_0 : decode cX10_trace 0 = .ok (.iload_n 1, 1) := by decide +kernel
theorem dX10_trace_1 : decode cX10_trace 1 = .ok (.invokestatic 100, 3) := by decide +kernel
theorem dX10_trace_4 : decode cX10_trace 4 = .ok (.ifCond .eq 20, 3) := by decide +kernel
theorem dX10_trace_7 : decode cX10_trace 7 = .ok (.aload_n 0, 1) := by decide +kernel
theorem dX10_trace_8 : decode cX10_trace 8 = .ok (.getfield 29, 3) := by decide +kernel
theorem dX10_trace_11 : decode cX10_trace 11 = .ok (.iload_n 1, 1) := by decide +kernel
theorem dX10_trace_12 : decode cX10_trace 12 = .ok (.aaload, 1) := by decide +kernel
theorem dX10_trace_13 : decode cX10_trace 13 = .ok (.getfield 134, 3) := by decide +kernel
theorem dX10_trace_16 : decode cX10_trace 16 = .ok (.iload_n 2, 1) := by decide +kernel
theorem dX10_trace_17 : decode cX10_trace 17 = .ok (.iload_n 3, 1) := by decide +kernel
theorem dX10_trace_18 : decode cX10_trace 18 = .ok (.invokevirtual 138, 3) := by decide +kernel
theorem dX10_trace_21 : decode cX10_trace 21 = .ok (.goto 4, 3) := by decide +kernel
theorem dX10_trace_24 : decode cX10_trace 24 = .ok (.iconst (-1), 1) := by decide +kernel
theorem dX10_trace_25 : decode cX10_trace 25 = .ok (.ireturn, 1) := by decide +kernel
theorem dX10_isThread_0 : decode cX10_isThread 0 = .ok (.iload_n 0, 1) := by decide +kernel
theorem dX10_isThread_1 : decode cX10_isThread 1 = .ok (.ifCond .lt 12, 3) := by decide +kernel
theorem dX10_isThread_4 : decode cX10_isThread 4 = .ok (.iload_n 0, 1) := by decide +kernel
theorem dX10_isThread_5 : decode cX10_isThread 5 = .ok (.iconst 4, 1) := by decide +kernel
theorem dX10_isThread_6 : decode cX10_isThread 6 = .ok (.if_icmp .ge 7, 3) := by decide +kernel
theorem dX10_isThread_9 : decode cX10_isThread 9 = .ok (.iconst 1, 1) := by decide +kernel
theorem dX10_isThread_10 : decode cX10_isThread 10 = .ok (.goto 4, 3) := by decide +kernel
theorem dX10_isThread_13 : decode cX10_isThread 13 = .ok (.iconst 0, 1) := by decide +kernel
theorem dX10_isThread_14 : decode cX10_isThread 14 = .ok (.ireturn, 1) := by decide +kernel
theorem dX10_isStoreWord_0 : decode cX10_isStoreWord 0 = .ok (.iload_n 0, 1) := by decide +kernel
theorem dX10_isStoreWord_1 : decode cX10_isStoreWord 1 = .ok (.invokestatic 100, 3) := by decide +kernel
theorem dX10_isStoreWord_4 : decode cX10_isStoreWord 4 = .ok (.ifCond .eq 18, 3) := by decide +kernel
theorem dX10_isStoreWord_7 : decode cX10_isStoreWord 7 = .ok (.iload_n 1, 1) := by decide +kernel
theorem dX10_isStoreWord_8 : decode cX10_isStoreWord 8 = .ok (.ifCond .lt 14, 3) := by decide +kernel
theorem dX10_isStoreWord_11 : decode cX10_isStoreWord 11 = .ok (.iload_n 1, 1) := by decide +kernel
theorem dX10_isStoreWord_12 : decode cX10_isStoreWord 12 = .ok (.sipush 128, 3) := by decide +kernel
theorem dX10_isStoreWord_15 : decode cX10_isStoreWord 15 = .ok (.if_icmp .ge 7, 3) := by decide +kernel
theorem dX10_isStoreWord_18 : decode cX10_isStoreWord 18 = .ok (.iconst 1, 1) := by decide +kernel
theorem dX10_isStoreWord_19 : decode cX10_isStoreWord 19 = .ok (.goto 4, 3) := by decide +kernel
theorem dX10_isStoreWord_22 : decode cX10_isStoreWord 22 = .ok (.iconst 0, 1) := by decide +kernel
theorem dX10_isStoreWord_23 : decode cX10_isStoreWord 23 = .ok (.ireturn, 1) := by decide +kernel
theorem dX10_isRegister_0 : decode cX10_isRegister 0 = .ok (.iload_n 0, 1) := by decide +kernel
theorem dX10_isRegister_1 : decode cX10_isRegister 1 = .ok (.ifCond .lt 13, 3) := by decide +kernel
theorem dX10_isRegister_4 : decode cX10_isRegister 4 = .ok (.iload_n 0, 1) := by decide +kernel
theorem dX10_isRegister_5 : decode cX10_isRegister 5 = .ok (.bipush 16, 2) := by decide +kernel
theorem dX10_isRegister_7 : decode cX10_isRegister 7 = .ok (.if_icmp .ge 7, 3) := by decide +kernel
theorem dX10_isRegister_10 : decode cX10_isRegister 10 = .ok (.iconst 1, 1) := by decide +kernel
theorem dX10_isRegister_11 : decode cX10_isRegister 11 = .ok (.goto 4, 3) := by decide +kernel
theorem dX10_isRegister_14 : decode cX10_isRegister 14 = .ok (.iconst 0, 1) := by decide +kernel
theorem dX10_isRegister_15 : decode cX10_isRegister 15 = .ok (.ireturn, 1) := by decide +kernel
