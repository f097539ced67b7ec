theorem dX0_init_0 : decode cX0_init 0 = .ok (.aload_n 0, 1) := by decide +kernel
theorem dX0_init_1 : decode cX0_init 1 = .ok (.invokespecial 3, 3) := by decide +kernel
theorem dX0_init_4 : decode cX0_init 4 = .ok (.aload_n 0, 1) := by decide +kernel
theorem dX0_init_5 : decode cX0_init 5 = .ok (.sipush 128, 3) := by decide +kernel
theorem dX0_init_8 : decode cX0_init 8 = .ok (.newarray .int, 2) := by decide +kernel
theorem dX0_init_10 : decode cX0_init 10 = .ok (.putfield 9, 3) := by decide +kernel
theorem dX0_init_13 : decode cX0_init 13 = .ok (.aload_n 0, 1) := by decide +kernel
theorem dX0_init_14 : decode cX0_init 14 = .ok (.sipush 128, 3) := by decide +kernel
theorem dX0_init_17 : decode cX0_init 17 = .ok (.newarray .long, 2) := by decide +kernel
theorem dX0_init_19 : decode cX0_init 19 = .ok (.putfield 15, 3) := by decide +kernel
theorem dX0_init_22 : decode cX0_init 22 = .ok (.aload_n 0, 1) := by decide +kernel
theorem dX0_init_23 : decode cX0_init 23 = .ok (.sipush 128, 3) := by decide +kernel
theorem dX0_init_26 : decode cX0_init 26 = .ok (.newarray .int, 2) := by decide +kernel
theorem dX0_init_28 : decode cX0_init 28 = .ok (.putfield 19, 3) := by decide +kernel
theorem dX0_init_31 : decode cX0_init 31 = .ok (.aload_n 0, 1) := by decide +kernel
theorem dX0_init_32 : decode cX0_init 32 = .ok (.new 22, 3) := by decide +kernel
theorem dX0_init_35 : decode cX0_init 35 = .ok (.dup, 1) := by decide +kernel
theorem dX0_init_36 : decode cX0_init 36 = .ok (.invokespecial 24, 3) := by decide +kernel
theorem dX0_init_39 : decode cX0_init 39 = .ok (.putfield 25, 3) := by decide +kernel
theorem dX0_init_42 : decode cX0_init 42 = .ok (.aload_n 0, 1) := by decide +kernel
theorem dX0_init_43 : decode cX0_init 43 = .ok (.new 29, 3) := by decide +kernel
theorem dX0_init_46 : decode cX0_init 46 = .ok (.dup, 1) := by decide +kernel
theorem dX0_init_47 : decode cX0_init 47 = .ok (.invokespecial 31, 3) := by decide +kernel
theorem dX0_init_50 : decode cX0_init 50 = .ok (.putfield 32, 3) := by decide +kernel
theorem dX0_init_53 : decode cX0_init 53 = .ok (.return_, 1) := by decide +kernel
theorem dX0_read_0 : decode cX0_read 0 = .ok (.aload_n 0, 1) := by decide +kernel
theorem dX0_read_1 : decode cX0_read 1 = .ok (.getfield 32, 3) := by decide +kernel
theorem dX0_read_4 : decode cX0_read 4 = .ok (.aload_n 1, 1) := by decide +kernel
theorem dX0_read_5 : decode cX0_read 5 = .ok (.invokevirtual 36, 3) := by decide +kernel
theorem dX0_read_8 : decode cX0_read 8 = .ok (.aload_n 0, 1) := by decide +kernel
theorem dX0_read_9 : decode cX0_read 9 = .ok (.iconst 0, 1) := by decide +kernel
theorem dX0_read_10 : decode cX0_read 10 = .ok (.putfield 40, 3) := by decide +kernel
theorem dX0_read_13 : decode cX0_read 13 = .ok (.aload_n 0, 1) := by decide +kernel
theorem dX0_read_14 : decode cX0_read 14 = .ok (.iconst 0, 1) := by decide +kernel
theorem dX0_read_15 : decode cX0_read 15 = .ok (.putfield 44, 3) := by decide +kernel
theorem dX0_read_18 : decode cX0_read 18 = .ok (.aload_n 0, 1) := by decide +kernel
theorem dX0_read_19 : decode cX0_read 19 = .ok (.getfield 25, 3) := by decide +kernel
theorem dX0_read_22 : decode cX0_read 22 = .ok (.iconst 0, 1) := by decide +kernel
theorem dX0_read_23 : decode cX0_read 23 = .ok (.putfield 47, 3) := by decide +kernel
theorem dX0_read_26 : decode cX0_read 26 = .ok (.aload_n 0, 1) := by decide +kernel
theorem dX0_read_27 : decode cX0_read 27 = .ok (.iconst 0, 1) := by decide +kernel
theorem dX0_read_28 : decode cX0_read 28 = .ok (.putfield 48, 3) := by decide +kernel
theorem dX0_read_31 : decode cX0_read 31 = .ok (.aload_n 0, 1) := by decide +kernel
theorem dX0_read_32 : decode cX0_read 32 = .ok (.iconst 0, 1) := by decide +kernel
theorem dX0_read_33 : decode cX0_read 33 = .ok (.putfield 51, 3) := by decide +kernel
theorem dX0_read_36 : decode cX0_read 36 = .ok (.iconst 0, 1) := by decide +kernel
theorem dX0_read_37 : decode cX0_read 37 = .ok (.istore_n 3, 1) := by decide +kernel
theorem dX0_read_38 : decode cX0_read 38 = .ok (.aload_n 0, 1) := by decide +kernel
theorem dX0_read_39 : decode cX0_read 39 = .ok (.getfield 40, 3) := by decide +kernel
theorem dX0_read_42 : decode cX0_read 42 = .ok (.aload_n 0, 1) := by decide +kernel
theorem dX0_read_43 : decode cX0_read 43 = .ok (.getfield 32, 3) := by decide +kernel
theorem dX0_read_46 : decode cX0_read 46 = .ok (.invokevirtual 54, 3) := by decide +kernel
theorem dX0_read_49 : decode cX0_read 49 = .ok (.if_icmp .ge 49, 3) := by decide +kernel
theorem dX0_read_52 : decode cX0_read 52 = .ok (.iload_n 3, 1) := by decide +kernel
theorem dX0_read_53 : decode cX0_read 53 = .ok (.sipush 400, 3) := by decide +kernel
theorem dX0_read_56 : decode cX0_read 56 = .ok (.if_icmp .gt 42, 3) := by decide +kernel
theorem dX0_read_59 : decode cX0_read 59 = .ok (.aload_n 0, 1) := by decide +kernel
theorem dX0_read_60 : decode cX0_read 60 = .ok (.invokevirtual 58, 3) := by decide +kernel
theorem dX0_read_63 : decode cX0_read 63 = .ok (.aload_n 0, 1) := by decide +kernel
theorem dX0_read_64 : decode cX0_read 64 = .ok (.sipush 128, 3) := by decide +kernel
theorem dX0_read_67 : decode cX0_read 67 = .ok (.iload_n 2, 1) := by decide +kernel
theorem dX0_read_68 : decode cX0_read 68 = .ok (.isub, 1) := by decide +kernel
theorem dX0_read_69 : decode cX0_read 69 = .ok (.invokevirtual 61, 3) := by decide +kernel
theorem dX0_read_72 : decode cX0_read 72 = .ok (.istore 4, 2) := by decide +kernel
theorem dX0_read_74 : decode cX0_read 74 = .ok (.iload 4, 2) := by decide +kernel
theorem dX0_read_76 : decode cX0_read 76 = .ok (.ifCond .eq 11, 3) := by decide +kernel
theorem dX0_read_79 : decode cX0_read 79 = .ok (.aload_n 0, 1) := by decide +kernel
theorem dX0_read_80 : decode cX0_read 80 = .ok (.iload 4, 2) := by decide +kernel
theorem dX0_read_82 : decode cX0_read 82 = .ok (.iload_n 3, 1) := by decide +kernel
theorem dX0_read_83 : decode cX0_read 83 = .ok (.invokevirtual 65, 3) := by decide +kernel
theorem dX0_read_86 : decode cX0_read 86 = .ok (.return_, 1) := by decide +kernel
theorem dX0_read_87 : decode cX0_read 87 = .ok (.aload_n 0, 1) := by decide +kernel
theorem dX0_read_88 : decode cX0_read 88 = .ok (.iload_n 3, 1) := by decide +kernel
theorem dX0_read_89 : decode cX0_read 89 = .ok (.invokevirtual 69, 3) := by decide +kernel
theorem dX0_read_92 : decode cX0_read 92 = .ok (.iinc 3 1, 3) := by decide +kernel
theorem dX0_read_95 : decode cX0_read 95 = .ok (.goto (-57), 3) := by decide +kernel
theorem dX0_read_98 : decode cX0_read 98 = .ok (.aload_n 0, 1) := by decide +kernel
theorem dX0_read_99 : decode cX0_read 99 = .ok (.invokevirtual 73, 3) := by decide +kernel
theorem dX0_read_102 : decode cX0_read 102 = .ok (.return_, 1) := by decide +kernel
theorem dX0_readLine_0 : decode cX0_readLine 0 = .ok (.aload_n 0, 1) := by decide +kernel
theorem dX0_readLine_1 : decode cX0_readLine 1 = .ok (.lconst 0, 1) := by decide +kernel
theorem dX0_readLine_2 : decode cX0_readLine 2 = .ok (.putfield 76, 3) := by decide +kernel
theorem dX0_readLine_5 : decode cX0_readLine 5 = .ok (.aload_n 0, 1) := by decide +kernel
theorem dX0_readLine_6 : decode cX0_readLine 6 = .ok (.iconst 0, 1) := by decide +kernel
theorem dX0_readLine_7 : decode cX0_readLine 7 = .ok (.putfield 80, 3) := by decide +kernel
theorem dX0_readLine_10 : decode cX0_readLine 10 = .ok (.aload_n 0, 1) := by decide +kernel
theorem dX0_readLine_11 : decode cX0_readLine 11 = .ok (.iconst 0, 1) := by decide +kernel
theorem dX0_readLine_12 : decode cX0_readLine 12 = .ok (.putfield 84, 3) := by decide +kernel
theorem dX0_readLine_15 : decode cX0_readLine 15 = .ok (.aload_n 0, 1) := by decide +kernel
theorem dX0_readLine_16 : decode cX0_readLine 16 = .ok (.lconst 0, 1) := by decide +kernel
theorem dX0_readLine_17 : decode cX0_readLine 17 = .ok (.putfield 87, 3) := by decide +kernel
theorem dX0_readLine_20 : decode cX0_readLine 20 = .ok (.aload_n 0, 1) := by decide +kernel
theorem dX0_readLine_21 : decode cX0_readLine 21 = .ok (.iconst 0, 1) := by decide +kernel
theorem dX0_readLine_22 : decode cX0_readLine 22 = .ok (.putfield 90, 3) := by decide +kernel
theorem dX0_readLine_25 : decode cX0_readLine 25 = .ok (.aload_n 0, 1) := by decide +kernel
theorem dX0_readLine_26 : decode cX0_readLine 26 = .ok (.iconst 0, 1) := by decide +kernel
theorem dX0_readLine_27 : decode cX0_readLine 27 = .ok (.putfield 93, 3) := by decide +kernel
theorem dX0_readLine_30 : decode cX0_readLine 30 = .ok (.aload_n 0, 1) := by decide +kernel
theorem dX0_readLine_31 : decode cX0_readLine 31 = .ok (.getfield 32, 3) := by decide +kernel
theorem dX0_readLine_34 : decode cX0_readLine 34 = .ok (.aload_n 0, 1) := by decide +kernel
theorem dX0_readLine_35 : decode cX0_readLine 35 = .ok (.getfield 40, 3) := by decide +kernel
theorem dX0_readLine_38 : decode cX0_readLine 38 = .ok (.invokevirtual 96, 3) := by decide +kernel
theorem dX0_readLine_41 : decode cX0_readLine 41 = .ok (.bipush 97, 2) := by decide +kernel
theorem dX0_readLine_43 : decode cX0_readLine 43 = .ok (.if_icmp .ne 46, 3) := by decide +kernel
theorem dX0_readLine_46 : decode cX0_readLine 46 = .ok (.aload_n 0, 1) := by decide +kernel
theorem dX0_readLine_47 : decode cX0_readLine 47 = .ok (.getfield 32, 3) := by decide +kernel
theorem dX0_readLine_50 : decode cX0_readLine 50 = .ok (.aload_n 0, 1) := by decide +kernel
theorem dX0_readLine_51 : decode cX0_readLine 51 = .ok (.getfield 40, 3) := by decide +kernel
theorem dX0_readLine_54 : decode cX0_readLine 54 = .ok (.iconst 1, 1) := by decide +kernel
theorem dX0_readLine_55 : decode cX0_readLine 55 = .ok (.iadd, 1) := by decide +kernel
theorem dX0_readLine_56 : decode cX0_readLine 56 = .ok (.invokevirtual 96, 3) := by decide +kernel
theorem dX0_readLine_59 : decode cX0_readLine 59 = .ok (.bipush 58, 2) := by decide +kernel
theorem dX0_readLine_61 : decode cX0_readLine 61 = .ok (.if_icmp .ne 28, 3) := by decide +kernel
theorem dX0_readLine_64 : decode cX0_readLine 64 = .ok (.aload_n 0, 1) := by decide +kernel
theorem dX0_readLine_65 : decode cX0_readLine 65 = .ok (.aload_n 0, 1) := by decide +kernel
theorem dX0_readLine_66 : decode cX0_readLine 66 = .ok (.getfield 32, 3) := by decide +kernel
theorem dX0_readLine_69 : decode cX0_readLine 69 = .ok (.aload_n 0, 1) := by decide +kernel
theorem dX0_readLine_70 : decode cX0_readLine 70 = .ok (.getfield 40, 3) := by decide +kernel
theorem dX0_readLine_73 : decode cX0_readLine 73 = .ok (.invokevirtual 100, 3) := by decide +kernel
theorem dX0_readLine_76 : decode cX0_readLine 76 = .ok (.putfield 76, 3) := by decide +kernel
theorem dX0_readLine_79 : decode cX0_readLine 79 = .ok (.aload_n 0, 1) := by decide +kernel
theorem dX0_readLine_80 : decode cX0_readLine 80 = .ok (.dup, 1) := by decide +kernel
theorem dX0_readLine_81 : decode cX0_readLine 81 = .ok (.getfield 40, 3) := by decide +kernel
theorem dX0_readLine_84 : decode cX0_readLine 84 = .ok (.iconst 2, 1) := by decide +kernel
theorem dX0_readLine_85 : decode cX0_readLine 85 = .ok (.iadd, 1) := by decide +kernel
theorem dX0_readLine_86 : decode cX0_readLine 86 = .ok (.putfield 40, 3) := by decide +kernel
theorem dX0_readLine_89 : decode cX0_readLine 89 = .ok (.aload_n 0, 1) := by decide +kernel
theorem dX0_readLine_90 : decode cX0_readLine 90 = .ok (.getfield 32, 3) := by decide +kernel
theorem dX0_readLine_93 : decode cX0_readLine 93 = .ok (.aload_n 0, 1) := by decide +kernel
theorem dX0_readLine_94 : decode cX0_readLine 94 = .ok (.getfield 40, 3) := by decide +kernel
theorem dX0_readLine_97 : decode cX0_readLine 97 = .ok (.invokevirtual 96, 3) := by decide +kernel
theorem dX0_readLine_100 : decode cX0_readLine 100 = .ok (.bipush 97, 2) := by decide +kernel
theorem dX0_readLine_102 : decode cX0_readLine 102 = .ok (.if_icmp .ne 21, 3) := by decide +kernel
theorem dX0_readLine_105 : decode cX0_readLine 105 = .ok (.aload_n 0, 1) := by decide +kernel
theorem dX0_readLine_106 : decode cX0_readLine 106 = .ok (.aload_n 0, 1) := by decide +kernel
theorem dX0_readLine_107 : decode cX0_readLine 107 = .ok (.getfield 32, 3) := by decide +kernel
theorem dX0_readLine_110 : decode cX0_readLine 110 = .ok (.aload_n 0, 1) := by decide +kernel
theorem dX0_readLine_111 : decode cX0_readLine 111 = .ok (.getfield 40, 3) := by decide +kernel
theorem dX0_readLine_114 : decode cX0_readLine 114 = .ok (.invokevirtual 100, 3) := by decide +kernel
theorem dX0_readLine_117 : decode cX0_readLine 117 = .ok (.invokestatic 104, 3) := by decide +kernel
theorem dX0_readLine_120 : decode cX0_readLine 120 = .ok (.invokevirtual 108, 3) := by decide +kernel
theorem dX0_readLine_123 : decode cX0_readLine 123 = .ok (.aload_n 0, 1) := by decide +kernel
theorem dX0_readLine_124 : decode cX0_readLine 124 = .ok (.getfield 32, 3) := by decide +kernel
theorem dX0_readLine_127 : decode cX0_readLine 127 = .ok (.aload_n 0, 1) := by decide +kernel
theorem dX0_readLine_128 : decode cX0_readLine 128 = .ok (.getfield 40, 3) := by decide +kernel
theorem dX0_readLine_131 : decode cX0_readLine 131 = .ok (.invokevirtual 96, 3) := by decide +kernel
theorem dX0_readLine_134 : decode cX0_readLine 134 = .ok (.bipush 10, 2) := by decide +kernel
theorem dX0_readLine_136 : decode cX0_readLine 136 = .ok (.if_icmp .eq 8, 3) := by decide +kernel
theorem dX0_readLine_139 : decode cX0_readLine 139 = .ok (.aload_n 0, 1) := by decide +kernel
theorem dX0_readLine_140 : decode cX0_readLine 140 = .ok (.iconst 1, 1) := by decide +kernel
theorem dX0_readLine_141 : decode cX0_readLine 141 = .ok (.putfield 90, 3) := by decide +kernel
theorem dX0_readLine_144 : decode cX0_readLine 144 = .ok (.aload_n 0, 1) := by decide +kernel
theorem dX0_readLine_145 : decode cX0_readLine 145 = .ok (.dup, 1) := by decide +kernel
theorem dX0_readLine_146 : decode cX0_readLine 146 = .ok (.getfield 40, 3) := by decide +kernel
theorem dX0_readLine_149 : decode cX0_readLine 149 = .ok (.iconst 1, 1) := by decide +kernel
theorem dX0_readLine_150 : decode cX0_readLine 150 = .ok (.iadd, 1) := by decide +kernel
theorem dX0_readLine_151 : decode cX0_readLine 151 = .ok (.putfield 40, 3) := by decide +kernel
theorem dX0_readLine_154 : decode cX0_readLine 154 = .ok (.return_, 1) := by decide +kernel
theorem dX0_faultOfLine_0 : decode cX0_faultOfLine 0 = .ok (.aload_n 0, 1) := by decide +kernel
theorem dX0_faultOfLine_1 : decode cX0_faultOfLine 1 = .ok (.getfield 90, 3) := by decide +kernel
theorem dX0_faultOfLine_4 : decode cX0_faultOfLine 4 = .ok (.ifCond .eq 5, 3) := by decide +kernel
theorem dX0_faultOfLine_7 : decode cX0_faultOfLine 7 = .ok (.iconst 1, 1) := by decide +kernel
theorem dX0_faultOfLine_8 : decode cX0_faultOfLine 8 = .ok (.ireturn, 1) := by decide +kernel
theorem dX0_faultOfLine_9 : decode cX0_faultOfLine 9 = .ok (.aload_n 0, 1) := by decide +kernel
theorem dX0_faultOfLine_10 : decode cX0_faultOfLine 10 = .ok (.getfield 93, 3) := by decide +kernel
theorem dX0_faultOfLine_13 : decode cX0_faultOfLine 13 = .ok (.ifCond .eq 5, 3) := by decide +kernel
theorem dX0_faultOfLine_16 : decode cX0_faultOfLine 16 = .ok (.iconst 2, 1) := by decide +kernel
theorem dX0_faultOfLine_17 : decode cX0_faultOfLine 17 = .ok (.ireturn, 1) := by decide +kernel
theorem dX0_faultOfLine_18 : decode cX0_faultOfLine 18 = .ok (.aload_n 0, 1) := by decide +kernel
theorem dX0_faultOfLine_19 : decode cX0_faultOfLine 19 = .ok (.getfield 76, 3) := by decide +kernel
theorem dX0_faultOfLine_22 : decode cX0_faultOfLine 22 = .ok (.lconst 0, 1) := by decide +kernel
theorem dX0_faultOfLine_23 : decode cX0_faultOfLine 23 = .ok (.lcmp, 1) := by decide +kernel
theorem dX0_faultOfLine_24 : decode cX0_faultOfLine 24 = .ok (.ifCond .eq 15, 3) := by decide +kernel
theorem dX0_faultOfLine_27 : decode cX0_faultOfLine 27 = .ok (.aload_n 0, 1) := by decide +kernel
theorem dX0_faultOfLine_28 : decode cX0_faultOfLine 28 = .ok (.getfield 25, 3) := by decide +kernel
theorem dX0_faultOfLine_31 : decode cX0_faultOfLine 31 = .ok (.getfield 47, 3) := by decide +kernel
theorem dX0_faultOfLine_34 : decode cX0_faultOfLine 34 = .ok (.bipush 16, 2) := by decide +kernel
theorem dX0_faultOfLine_36 : decode cX0_faultOfLine 36 = .ok (.if_icmp .ge 18, 3) := by decide +kernel
theorem dX0_faultOfLine_39 : decode cX0_faultOfLine 39 = .ok (.aload_n 0, 1) := by decide +kernel
theorem dX0_faultOfLine_40 : decode cX0_faultOfLine 40 = .ok (.getfield 80, 3) := by decide +kernel
theorem dX0_faultOfLine_43 : decode cX0_faultOfLine 43 = .ok (.ifCond .eq 13, 3) := by decide +kernel
theorem dX0_faultOfLine_46 : decode cX0_faultOfLine 46 = .ok (.aload_n 0, 1) := by decide +kernel
theorem dX0_faultOfLine_47 : decode cX0_faultOfLine 47 = .ok (.getfield 44, 3) := by decide +kernel
theorem dX0_faultOfLine_50 : decode cX0_faultOfLine 50 = .ok (.iload_n 1, 1) := by decide +kernel
theorem dX0_faultOfLine_51 : decode cX0_faultOfLine 51 = .ok (.if_icmp .lt 5, 3) := by decide +kernel
theorem dX0_faultOfLine_54 : decode cX0_faultOfLine 54 = .ok (.iconst 4, 1) := by decide +kernel
theorem dX0_faultOfLine_55 : decode cX0_faultOfLine 55 = .ok (.ireturn, 1) := by decide +kernel
theorem dX0_faultOfLine_56 : decode cX0_faultOfLine 56 = .ok (.aload_n 0, 1) := by decide +kernel
theorem dX0_faultOfLine_57 : decode cX0_faultOfLine 57 = .ok (.getfield 76, 3) := by decide +kernel
theorem dX0_faultOfLine_60 : decode cX0_faultOfLine 60 = .ok (.lconst 0, 1) := by decide +kernel
theorem dX0_faultOfLine_61 : decode cX0_faultOfLine 61 = .ok (.lcmp, 1) := by decide +kernel
theorem dX0_faultOfLine_62 : decode cX0_faultOfLine 62 = .ok (.ifCond .eq 21, 3) := by decide +kernel
theorem dX0_faultOfLine_65 : decode cX0_faultOfLine 65 = .ok (.aload_n 0, 1) := by decide +kernel
theorem dX0_faultOfLine_66 : decode cX0_faultOfLine 66 = .ok (.getfield 25, 3) := by decide +kernel
theorem dX0_faultOfLine_69 : decode cX0_faultOfLine 69 = .ok (.aload_n 0, 1) := by decide +kernel
theorem dX0_faultOfLine_70 : decode cX0_faultOfLine 70 = .ok (.getfield 76, 3) := by decide +kernel
theorem dX0_faultOfLine_73 : decode cX0_faultOfLine 73 = .ok (.invokevirtual 111, 3) := by decide +kernel
theorem dX0_faultOfLine_76 : decode cX0_faultOfLine 76 = .ok (.ifCond .lt 7, 3) := by decide +kernel
theorem dX0_faultOfLine_79 : decode cX0_faultOfLine 79 = .ok (.iconst 3, 1) := by decide +kernel
theorem dX0_faultOfLine_80 : decode cX0_faultOfLine 80 = .ok (.goto 4, 3) := by decide +kernel
theorem dX0_faultOfLine_83 : decode cX0_faultOfLine 83 = .ok (.iconst 0, 1) := by decide +kernel
theorem dX0_faultOfLine_84 : decode cX0_faultOfLine 84 = .ok (.ireturn, 1) := by decide +kernel
theorem dX0_keepLine_0 : decode cX0_keepLine 0 = .ok (.aload_n 0, 1) := by decide +kernel
theorem dX0_keepLine_1 : decode cX0_keepLine 1 = .ok (.getfield 76, 3) := by decide +kernel
theorem dX0_keepLine_4 : decode cX0_keepLine 4 = .ok (.lconst 0, 1) := by decide +kernel
theorem dX0_keepLine_5 : decode cX0_keepLine 5 = .ok (.lcmp, 1) := by decide +kernel
theorem dX0_keepLine_6 : decode cX0_keepLine 6 = .ok (.ifCond .eq 18, 3) := by decide +kernel
theorem dX0_keepLine_9 : decode cX0_keepLine 9 = .ok (.aload_n 0, 1) := by decide +kernel
theorem dX0_keepLine_10 : decode cX0_keepLine 10 = .ok (.getfield 25, 3) := by decide +kernel
theorem dX0_keepLine_13 : decode cX0_keepLine 13 = .ok (.aload_n 0, 1) := by decide +kernel
theorem dX0_keepLine_14 : decode cX0_keepLine 14 = .ok (.getfield 76, 3) := by decide +kernel
theorem dX0_keepLine_17 : decode cX0_keepLine 17 = .ok (.aload_n 0, 1) := by decide +kernel
theorem dX0_keepLine_18 : decode cX0_keepLine 18 = .ok (.getfield 44, 3) := by decide +kernel
theorem dX0_keepLine_21 : decode cX0_keepLine 21 = .ok (.invokevirtual 114, 3) := by decide +kernel
theorem dX0_keepLine_24 : decode cX0_keepLine 24 = .ok (.aload_n 0, 1) := by decide +kernel
theorem dX0_keepLine_25 : decode cX0_keepLine 25 = .ok (.getfield 80, 3) := by decide +kernel
theorem dX0_keepLine_28 : decode cX0_keepLine 28 = .ok (.ifCond .eq 59, 3) := by decide +kernel
theorem dX0_keepLine_31 : decode cX0_keepLine 31 = .ok (.aload_n 0, 1) := by decide +kernel
theorem dX0_keepLine_32 : decode cX0_keepLine 32 = .ok (.getfield 44, 3) := by decide +kernel
theorem dX0_keepLine_35 : decode cX0_keepLine 35 = .ok (.sipush 128, 3) := by decide +kernel
theorem dX0_keepLine_38 : decode cX0_keepLine 38 = .ok (.if_icmp .ge 49, 3) := by decide +kernel
theorem dX0_keepLine_41 : decode cX0_keepLine 41 = .ok (.aload_n 0, 1) := by decide +kernel
theorem dX0_keepLine_42 : decode cX0_keepLine 42 = .ok (.getfield 9, 3) := by decide +kernel
theorem dX0_keepLine_45 : decode cX0_keepLine 45 = .ok (.aload_n 0, 1) := by decide +kernel
theorem dX0_keepLine_46 : decode cX0_keepLine 46 = .ok (.getfield 44, 3) := by decide +kernel
theorem dX0_keepLine_49 : decode cX0_keepLine 49 = .ok (.aload_n 0, 1) := by decide +kernel
theorem dX0_keepLine_50 : decode cX0_keepLine 50 = .ok (.getfield 84, 3) := by decide +kernel
theorem dX0_keepLine_53 : decode cX0_keepLine 53 = .ok (.iastore, 1) := by decide +kernel
theorem dX0_keepLine_54 : decode cX0_keepLine 54 = .ok (.aload_n 0, 1) := by decide +kernel
theorem dX0_keepLine_55 : decode cX0_keepLine 55 = .ok (.getfield 15, 3) := by decide +kernel
theorem dX0_keepLine_58 : decode cX0_keepLine 58 = .ok (.aload_n 0, 1) := by decide +kernel
theorem dX0_keepLine_59 : decode cX0_keepLine 59 = .ok (.getfield 44, 3) := by decide +kernel
theorem dX0_keepLine_62 : decode cX0_keepLine 62 = .ok (.aload_n 0, 1) := by decide +kernel
theorem dX0_keepLine_63 : decode cX0_keepLine 63 = .ok (.getfield 87, 3) := by decide +kernel
theorem dX0_keepLine_66 : decode cX0_keepLine 66 = .ok (.lastore, 1) := by decide +kernel
theorem dX0_keepLine_67 : decode cX0_keepLine 67 = .ok (.aload_n 0, 1) := by decide +kernel
theorem dX0_keepLine_68 : decode cX0_keepLine 68 = .ok (.getfield 19, 3) := by decide +kernel
theorem dX0_keepLine_71 : decode cX0_keepLine 71 = .ok (.aload_n 0, 1) := by decide +kernel
theorem dX0_keepLine_72 : decode cX0_keepLine 72 = .ok (.getfield 44, 3) := by decide +kernel
theorem dX0_keepLine_75 : decode cX0_keepLine 75 = .ok (.iload_n 1, 1) := by decide +kernel
theorem dX0_keepLine_76 : decode cX0_keepLine 76 = .ok (.iastore, 1) := by decide +kernel
theorem dX0_keepLine_77 : decode cX0_keepLine 77 = .ok (.aload_n 0, 1) := by decide +kernel
theorem dX0_keepLine_78 : decode cX0_keepLine 78 = .ok (.dup, 1) := by decide +kernel
theorem dX0_keepLine_79 : decode cX0_keepLine 79 = .ok (.getfield 44, 3) := by decide +kernel
theorem dX0_keepLine_82 : decode cX0_keepLine 82 = .ok (.iconst 1, 1) := by decide +kernel
theorem dX0_keepLine_83 : decode cX0_keepLine 83 = .ok (.iadd, 1) := by decide +kernel
theorem dX0_keepLine_84 : decode cX0_keepLine 84 = .ok (.putfield 44, 3) := by decide +kernel
theorem dX0_keepLine_87 : decode cX0_keepLine 87 = .ok (.return_, 1) := by decide +kernel
theorem dX0_setFault_0 : decode cX0_setFault 0 = .ok (.aload_n 0, 1) := by decide +kernel
theorem dX0_setFault_1 : decode cX0_setFault 1 = .ok (.iload_n 1, 1) := by decide +kernel
theorem dX0_setFault_2 : decode cX0_setFault 2 = .ok (.putfield 48, 3) := by decide +kernel
theorem dX0_setFault_5 : decode cX0_setFault 5 = .ok (.aload_n 0, 1) := by decide +kernel
theorem dX0_setFault_6 : decode cX0_setFault 6 = .ok (.iload_n 2, 1) := by decide +kernel
theorem dX0_setFault_7 : decode cX0_setFault 7 = .ok (.putfield 51, 3) := by decide +kernel
theorem dX0_setFault_10 : decode cX0_setFault 10 = .ok (.return_, 1) := by decide +kernel
theorem dX0_mnemonicOf_0 : decode cX0_mnemonicOf 0 = .ok (.iconst 0, 1) := by decide +kernel
theorem dX0_mnemonicOf_1 : decode cX0_mnemonicOf 1 = .ok (.istore_n 2, 1) := by decide +kernel
theorem dX0_mnemonicOf_2 : decode cX0_mnemonicOf 2 = .ok (.iload_n 2, 1) := by decide +kernel
theorem dX0_mnemonicOf_3 : decode cX0_mnemonicOf 3 = .ok (.getstatic 118, 3) := by decide +kernel
theorem dX0_mnemonicOf_6 : decode cX0_mnemonicOf 6 = .ok (.arraylength, 1) := by decide +kernel
theorem dX0_mnemonicOf_7 : decode cX0_mnemonicOf 7 = .ok (.if_icmp .ge 24, 3) := by decide +kernel
theorem dX0_mnemonicOf_10 : decode cX0_mnemonicOf 10 = .ok (.getstatic 118, 3) := by decide +kernel
theorem dX0_mnemonicOf_13 : decode cX0_mnemonicOf 13 = .ok (.iload_n 2, 1) := by decide +kernel
theorem dX0_mnemonicOf_14 : decode cX0_mnemonicOf 14 = .ok (.aaload, 1) := by decide +kernel
theorem dX0_mnemonicOf_15 : decode cX0_mnemonicOf 15 = .ok (.getfield 122, 3) := by decide +kernel
theorem dX0_mnemonicOf_18 : decode cX0_mnemonicOf 18 = .ok (.lload_n 0, 1) := by decide +kernel
theorem dX0_mnemonicOf_19 : decode cX0_mnemonicOf 19 = .ok (.lcmp, 1) := by decide +kernel
theorem dX0_mnemonicOf_20 : decode cX0_mnemonicOf 20 = .ok (.ifCond .ne 5, 3) := by decide +kernel
theorem dX0_mnemonicOf_23 : decode cX0_mnemonicOf 23 = .ok (.iload_n 2, 1) := by decide +kernel
theorem dX0_mnemonicOf_24 : decode cX0_mnemonicOf 24 = .ok (.ireturn, 1) := by decide +kernel
theorem dX0_mnemonicOf_25 : decode cX0_mnemonicOf 25 = .ok (.iinc 2 1, 3) := by decide +kernel
theorem dX0_mnemonicOf_28 : decode cX0_mnemonicOf 28 = .ok (.goto (-26), 3) := by decide +kernel
theorem dX0_mnemonicOf_31 : decode cX0_mnemonicOf 31 = .ok (.iconst (-1), 1) := by decide +kernel
theorem dX0_mnemonicOf_32 : decode cX0_mnemonicOf 32 = .ok (.ireturn, 1) := by decide +kernel
theorem dX0_readInstruction_0 : decode cX0_readInstruction 0 = .ok (.iload_n 1, 1) := by decide +kernel
theorem dX0_readInstruction_1 : decode cX0_readInstruction 1 = .ok (.ifCond .ge 9, 3) := by decide +kernel
theorem dX0_readInstruction_4 : decode cX0_readInstruction 4 = .ok (.aload_n 0, 1) := by decide +kernel
theorem dX0_readInstruction_5 : decode cX0_readInstruction 5 = .ok (.iconst 1, 1) := by decide +kernel
theorem dX0_readInstruction_6 : decode cX0_readInstruction 6 = .ok (.putfield 90, 3) := by decide +kernel
theorem dX0_readInstruction_9 : decode cX0_readInstruction 9 = .ok (.return_, 1) := by decide +kernel
theorem dX0_readInstruction_10 : decode cX0_readInstruction 10 = .ok (.aload_n 0, 1) := by decide +kernel
theorem dX0_readInstruction_11 : decode cX0_readInstruction 11 = .ok (.dup, 1) := by decide +kernel
theorem dX0_readInstruction_12 : decode cX0_readInstruction 12 = .ok (.getfield 40, 3) := by decide +kernel
theorem dX0_readInstruction_15 : decode cX0_readInstruction 15 = .ok (.iconst 1, 1) := by decide +kernel
theorem dX0_readInstruction_16 : decode cX0_readInstruction 16 = .ok (.iadd, 1) := by decide +kernel
theorem dX0_readInstruction_17 : decode cX0_readInstruction 17 = .ok (.putfield 40, 3) := by decide +kernel
theorem dX0_readInstruction_20 : decode cX0_readInstruction 20 = .ok (.aload_n 0, 1) := by decide +kernel
theorem dX0_readInstruction_21 : decode cX0_readInstruction 21 = .ok (.iconst 1, 1) := by decide +kernel
theorem dX0_readInstruction_22 : decode cX0_readInstruction 22 = .ok (.putfield 80, 3) := by decide +kernel
theorem dX0_readInstruction_25 : decode cX0_readInstruction 25 = .ok (.aload_n 0, 1) := by decide +kernel
theorem dX0_readInstruction_26 : decode cX0_readInstruction 26 = .ok (.getstatic 118, 3) := by decide +kernel
theorem dX0_readInstruction_29 : decode cX0_readInstruction 29 = .ok (.iload_n 1, 1) := by decide +kernel
theorem dX0_readInstruction_30 : decode cX0_readInstruction 30 = .ok (.aaload, 1) := by decide +kernel
theorem dX0_readInstruction_31 : decode cX0_readInstruction 31 = .ok (.getfield 127, 3) := by decide +kernel
theorem dX0_readInstruction_34 : decode cX0_readInstruction 34 = .ok (.putfield 84, 3) := by decide +kernel
theorem dX0_readInstruction_37 : decode cX0_readInstruction 37 = .ok (.getstatic 118, 3) := by decide +kernel
theorem dX0_readInstruction_40 : decode cX0_readInstruction 40 = .ok (.iload_n 1, 1) := by decide +kernel
theorem dX0_readInstruction_41 : decode cX0_readInstruction 41 = .ok (.aaload, 1) := by decide +kernel
theorem dX0_readInstruction_42 : decode cX0_readInstruction 42 = .ok (.getfield 130, 3) := by decide +kernel
theorem dX0_readInstruction_45 : decode cX0_readInstruction 45 = .ok (.astore_n 2, 1) := by decide +kernel
theorem dX0_readInstruction_46 : decode cX0_readInstruction 46 = .ok (.iconst 0, 1) := by decide +kernel
theorem dX0_readInstruction_47 : decode cX0_readInstruction 47 = .ok (.istore_n 3, 1) := by decide +kernel
theorem dX0_readInstruction_48 : decode cX0_readInstruction 48 = .ok (.iload_n 3, 1) := by decide +kernel
theorem dX0_readInstruction_49 : decode cX0_readInstruction 49 = .ok (.aload_n 2, 1) := by decide +kernel
theorem dX0_readInstruction_50 : decode cX0_readInstruction 50 = .ok (.invokevirtual 134, 3) := by decide +kernel
theorem dX0_readInstruction_53 : decode cX0_readInstruction 53 = .ok (.if_icmp .ge 25, 3) := by decide +kernel
theorem dX0_readInstruction_56 : decode cX0_readInstruction 56 = .ok (.aload_n 0, 1) := by decide +kernel
theorem dX0_readInstruction_57 : decode cX0_readInstruction 57 = .ok (.getfield 90, 3) := by decide +kernel
theorem dX0_readInstruction_60 : decode cX0_readInstruction 60 = .ok (.ifCond .ne 18, 3) := by decide +kernel
theorem dX0_readInstruction_63 : decode cX0_readInstruction 63 = .ok (.aload_n 0, 1) := by decide +kernel
theorem dX0_readInstruction_64 : decode cX0_readInstruction 64 = .ok (.aload_n 2, 1) := by decide +kernel
theorem dX0_readInstruction_65 : decode cX0_readInstruction 65 = .ok (.iload_n 3, 1) := by decide +kernel
theorem dX0_readInstruction_66 : decode cX0_readInstruction 66 = .ok (.invokevirtual 139, 3) := by decide +kernel
theorem dX0_readInstruction_69 : decode cX0_readInstruction 69 = .ok (.invokevirtual 142, 3) := by decide +kernel
theorem dX0_readInstruction_72 : decode cX0_readInstruction 72 = .ok (.iinc 3 1, 3) := by decide +kernel
theorem dX0_readInstruction_75 : decode cX0_readInstruction 75 = .ok (.goto (-27), 3) := by decide +kernel
theorem dX0_readInstruction_78 : decode cX0_readInstruction 78 = .ok (.return_, 1) := by decide +kernel
theorem dX0_readPiece_0 : decode cX0_readPiece 0 = .ok (.aload_n 0, 1) := by decide +kernel
theorem dX0_readPiece_1 : decode cX0_readPiece 1 = .ok (.getfield 32, 3) := by decide +kernel
theorem dX0_readPiece_4 : decode cX0_readPiece 4 = .ok (.aload_n 0, 1) := by decide +kernel
theorem dX0_readPiece_5 : decode cX0_readPiece 5 = .ok (.getfield 40, 3) := by decide +kernel
theorem dX0_readPiece_8 : decode cX0_readPiece 8 = .ok (.invokevirtual 96, 3) := by decide +kernel
theorem dX0_readPiece_11 : decode cX0_readPiece 11 = .ok (.istore_n 2, 1) := by decide +kernel
theorem dX0_readPiece_12 : decode cX0_readPiece 12 = .ok (.aload_n 0, 1) := by decide +kernel
theorem dX0_readPiece_13 : decode cX0_readPiece 13 = .ok (.getfield 32, 3) := by decide +kernel
theorem dX0_readPiece_16 : decode cX0_readPiece 16 = .ok (.aload_n 0, 1) := by decide +kernel
theorem dX0_readPiece_17 : decode cX0_readPiece 17 = .ok (.getfield 40, 3) := by decide +kernel
theorem dX0_readPiece_20 : decode cX0_readPiece 20 = .ok (.invokevirtual 100, 3) := by decide +kernel
theorem dX0_readPiece_23 : decode cX0_readPiece 23 = .ok (.lstore_n 3, 1) := by decide +kernel
theorem dX0_readPiece_24 : decode cX0_readPiece 24 = .ok (.iload_n 1, 1) := by decide +kernel
theorem dX0_readPiece_25 : decode cX0_readPiece 25 = .ok (.bipush 98, 2) := by decide +kernel
theorem dX0_readPiece_27 : decode cX0_readPiece 27 = .ok (.if_icmp .eq 9, 3) := by decide +kernel
theorem dX0_readPiece_30 : decode cX0_readPiece 30 = .ok (.iload_n 1, 1) := by decide +kernel
theorem dX0_readPiece_31 : decode cX0_readPiece 31 = .ok (.bipush 106, 2) := by decide +kernel
theorem dX0_readPiece_33 : decode cX0_readPiece 33 = .ok (.if_icmp .ne 17, 3) := by decide +kernel
theorem dX0_readPiece_36 : decode cX0_readPiece 36 = .ok (.iload_n 2, 1) := by decide +kernel
theorem dX0_readPiece_37 : decode cX0_readPiece 37 = .ok (.bipush 97, 2) := by decide +kernel
theorem dX0_readPiece_39 : decode cX0_readPiece 39 = .ok (.if_icmp .ne 11, 3) := by decide +kernel
theorem dX0_readPiece_42 : decode cX0_readPiece 42 = .ok (.aload_n 0, 1) := by decide +kernel
theorem dX0_readPiece_43 : decode cX0_readPiece 43 = .ok (.lload_n 3, 1) := by decide +kernel
theorem dX0_readPiece_44 : decode cX0_readPiece 44 = .ok (.putfield 87, 3) := by decide +kernel
theorem dX0_readPiece_47 : decode cX0_readPiece 47 = .ok (.goto 26, 3) := by decide +kernel
theorem dX0_readPiece_50 : decode cX0_readPiece 50 = .ok (.iload_n 2, 1) := by decide +kernel
theorem dX0_readPiece_51 : decode cX0_readPiece 51 = .ok (.iload_n 1, 1) := by decide +kernel
theorem dX0_readPiece_52 : decode cX0_readPiece 52 = .ok (.invokestatic 146, 3) := by decide +kernel
theorem dX0_readPiece_55 : decode cX0_readPiece 55 = .ok (.if_icmp .ne 12, 3) := by decide +kernel
theorem dX0_readPiece_58 : decode cX0_readPiece 58 = .ok (.aload_n 0, 1) := by decide +kernel
theorem dX0_readPiece_59 : decode cX0_readPiece 59 = .ok (.iload_n 1, 1) := by decide +kernel
theorem dX0_readPiece_60 : decode cX0_readPiece 60 = .ok (.lload_n 3, 1) := by decide +kernel
theorem dX0_readPiece_61 : decode cX0_readPiece 61 = .ok (.invokevirtual 150, 3) := by decide +kernel
theorem dX0_readPiece_64 : decode cX0_readPiece 64 = .ok (.goto 9, 3) := by decide +kernel
theorem dX0_readPiece_67 : decode cX0_readPiece 67 = .ok (.aload_n 0, 1) := by decide +kernel
theorem dX0_readPiece_68 : decode cX0_readPiece 68 = .ok (.iconst 1, 1) := by decide +kernel
theorem dX0_readPiece_69 : decode cX0_readPiece 69 = .ok (.putfield 90, 3) := by decide +kernel
theorem dX0_readPiece_72 : decode cX0_readPiece 72 = .ok (.return_, 1) := by decide +kernel
theorem dX0_readPiece_73 : decode cX0_readPiece 73 = .ok (.aload_n 0, 1) := by decide +kernel
theorem dX0_readPiece_74 : decode cX0_readPiece 74 = .ok (.dup, 1) := by decide +kernel
theorem dX0_readPiece_75 : decode cX0_readPiece 75 = .ok (.getfield 40, 3) := by decide +kernel
theorem dX0_readPiece_78 : decode cX0_readPiece 78 = .ok (.iconst 1, 1) := by decide +kernel
theorem dX0_readPiece_79 : decode cX0_readPiece 79 = .ok (.iadd, 1) := by decide +kernel
theorem dX0_readPiece_80 : decode cX0_readPiece 80 = .ok (.putfield 40, 3) := by decide +kernel
theorem dX0_readPiece_83 : decode cX0_readPiece 83 = .ok (.return_, 1) := by decide +kernel
theorem dX0_kindOf_0 : decode cX0_kindOf 0 = .ok (.iload_n 0, 1) := by decide +kernel
theorem dX0_kindOf_1 : decode cX0_kindOf 1 = .ok (.lookupswitch 64 #[(40, 59), (41, 59), (44, 59), (100, 61), (115, 61), (116, 61)], 59) := by decide +kernel
theorem dX0_kindOf_60 : decode cX0_kindOf 60 = .ok (.iload_n 0, 1) := by decide +kernel
theorem dX0_kindOf_61 : decode cX0_kindOf 61 = .ok (.ireturn, 1) := by decide +kernel
theorem dX0_kindOf_62 : decode cX0_kindOf 62 = .ok (.bipush 120, 2) := by decide +kernel
theorem dX0_kindOf_64 : decode cX0_kindOf 64 = .ok (.ireturn, 1) := by decide +kernel
theorem dX0_kindOf_65 : decode cX0_kindOf 65 = .ok (.bipush 48, 2) := by decide +kernel
theorem dX0_kindOf_67 : decode cX0_kindOf 67 = .ok (.ireturn, 1) := by decide +kernel
theorem dX0_putPiece_0 : decode cX0_putPiece 0 = .ok (.iload_n 1, 1) := by decide +kernel
theorem dX0_putPiece_1 : decode cX0_putPiece 1 = .ok (.tableswitch 363 98 119 #[301, 363, 103, 363, 363, 363, 206, 154, 332, 254, 363, 180, 363, 363, 363, 363, 363, 120, 137, 230, 363, 278], 103) := by decide +kernel
theorem dX0_putPiece_104 : decode cX0_putPiece 104 = .ok (.aload_n 0, 1) := by decide +kernel
theorem dX0_putPiece_105 : decode cX0_putPiece 105 = .ok (.dup, 1) := by decide +kernel
theorem dX0_putPiece_106 : decode cX0_putPiece 106 = .ok (.getfield 84, 3) := by decide +kernel
theorem dX0_putPiece_109 : decode cX0_putPiece 109 = .ok (.lload_n 2, 1) := by decide +kernel
theorem dX0_putPiece_110 : decode cX0_putPiece 110 = .ok (.l2i, 1) := by decide +kernel
theorem dX0_putPiece_111 : decode cX0_putPiece 111 = .ok (.bipush 7, 2) := by decide +kernel
theorem dX0_putPiece_113 : decode cX0_putPiece 113 = .ok (.ishl, 1) := by decide +kernel
theorem dX0_putPiece_114 : decode cX0_putPiece 114 = .ok (.ior, 1) := by decide +kernel
theorem dX0_putPiece_115 : decode cX0_putPiece 115 = .ok (.putfield 84, 3) := by decide +kernel
theorem dX0_putPiece_118 : decode cX0_putPiece 118 = .ok (.goto 246, 3) := by decide +kernel
theorem dX0_putPiece_121 : decode cX0_putPiece 121 = .ok (.aload_n 0, 1) := by decide +kernel
theorem dX0_putPiece_122 : decode cX0_putPiece 122 = .ok (.dup, 1) := by decide +kernel
theorem dX0_putPiece_123 : decode cX0_putPiece 123 = .ok (.getfield 84, 3) := by decide +kernel
theorem dX0_putPiece_126 : decode cX0_putPiece 126 = .ok (.lload_n 2, 1) := by decide +kernel
theorem dX0_putPiece_127 : decode cX0_putPiece 127 = .ok (.l2i, 1) := by decide +kernel
theorem dX0_putPiece_128 : decode cX0_putPiece 128 = .ok (.bipush 15, 2) := by decide +kernel
theorem dX0_putPiece_130 : decode cX0_putPiece 130 = .ok (.ishl, 1) := by decide +kernel
theorem dX0_putPiece_131 : decode cX0_putPiece 131 = .ok (.ior, 1) := by decide +kernel
theorem dX0_putPiece_132 : decode cX0_putPiece 132 = .ok (.putfield 84, 3) := by decide +kernel
theorem dX0_putPiece_135 : decode cX0_putPiece 135 = .ok (.goto 229, 3) := by decide +kernel
theorem dX0_putPiece_138 : decode cX0_putPiece 138 = .ok (.aload_n 0, 1) := by decide +kernel
theorem dX0_putPiece_139 : decode cX0_putPiece 139 = .ok (.dup, 1) := by decide +kernel
theorem dX0_putPiece_140 : decode cX0_putPiece 140 = .ok (.getfield 84, 3) := by decide +kernel
theorem dX0_putPiece_143 : decode cX0_putPiece 143 = .ok (.lload_n 2, 1) := by decide +kernel
theorem dX0_putPiece_144 : decode cX0_putPiece 144 = .ok (.l2i, 1) := by decide +kernel
theorem dX0_putPiece_145 : decode cX0_putPiece 145 = .ok (.bipush 20, 2) := by decide +kernel
theorem dX0_putPiece_147 : decode cX0_putPiece 147 = .ok (.ishl, 1) := by decide +kernel
theorem dX0_putPiece_148 : decode cX0_putPiece 148 = .ok (.ior, 1) := by decide +kernel
theorem dX0_putPiece_149 : decode cX0_putPiece 149 = .ok (.putfield 84, 3) := by decide +kernel
theorem dX0_putPiece_152 : decode cX0_putPiece 152 = .ok (.goto 212, 3) := by decide +kernel
theorem dX0_putPiece_155 : decode cX0_putPiece 155 = .ok (.aload_n 0, 1) := by decide +kernel
theorem dX0_putPiece_156 : decode cX0_putPiece 156 = .ok (.dup, 1) := by decide +kernel
theorem dX0_putPiece_157 : decode cX0_putPiece 157 = .ok (.getfield 84, 3) := by decide +kernel
theorem dX0_putPiece_160 : decode cX0_putPiece 160 = .ok (.aload_n 0, 1) := by decide +kernel
theorem dX0_putPiece_161 : decode cX0_putPiece 161 = .ok (.lload_n 2, 1) := by decide +kernel
theorem dX0_putPiece_162 : decode cX0_putPiece 162 = .ok (.ldc2_w 154, 3) := by decide +kernel
theorem dX0_putPiece_165 : decode cX0_putPiece 165 = .ok (.ldc2_w 156, 3) := by decide +kernel
theorem dX0_putPiece_168 : decode cX0_putPiece 168 = .ok (.invokevirtual 158, 3) := by decide +kernel
theorem dX0_putPiece_171 : decode cX0_putPiece 171 = .ok (.bipush 20, 2) := by decide +kernel
theorem dX0_putPiece_173 : decode cX0_putPiece 173 = .ok (.ishl, 1) := by decide +kernel
theorem dX0_putPiece_174 : decode cX0_putPiece 174 = .ok (.ior, 1) := by decide +kernel
theorem dX0_putPiece_175 : decode cX0_putPiece 175 = .ok (.putfield 84, 3) := by decide +kernel
theorem dX0_putPiece_178 : decode cX0_putPiece 178 = .ok (.goto 186, 3) := by decide +kernel
theorem dX0_putPiece_181 : decode cX0_putPiece 181 = .ok (.aload_n 0, 1) := by decide +kernel
theorem dX0_putPiece_182 : decode cX0_putPiece 182 = .ok (.dup, 1) := by decide +kernel
theorem dX0_putPiece_183 : decode cX0_putPiece 183 = .ok (.getfield 84, 3) := by decide +kernel
theorem dX0_putPiece_186 : decode cX0_putPiece 186 = .ok (.aload_n 0, 1) := by decide +kernel
theorem dX0_putPiece_187 : decode cX0_putPiece 187 = .ok (.lload_n 2, 1) := by decide +kernel
theorem dX0_putPiece_188 : decode cX0_putPiece 188 = .ok (.ldc2_w 154, 3) := by decide +kernel
theorem dX0_putPiece_191 : decode cX0_putPiece 191 = .ok (.ldc2_w 156, 3) := by decide +kernel
theorem dX0_putPiece_194 : decode cX0_putPiece 194 = .ok (.invokevirtual 158, 3) := by decide +kernel
theorem dX0_putPiece_197 : decode cX0_putPiece 197 = .ok (.invokestatic 162, 3) := by decide +kernel
theorem dX0_putPiece_200 : decode cX0_putPiece 200 = .ok (.ior, 1) := by decide +kernel
theorem dX0_putPiece_201 : decode cX0_putPiece 201 = .ok (.putfield 84, 3) := by decide +kernel
theorem dX0_putPiece_204 : decode cX0_putPiece 204 = .ok (.goto 160, 3) := by decide +kernel
theorem dX0_putPiece_207 : decode cX0_putPiece 207 = .ok (.aload_n 0, 1) := by decide +kernel
theorem dX0_putPiece_208 : decode cX0_putPiece 208 = .ok (.dup, 1) := by decide +kernel
theorem dX0_putPiece_209 : decode cX0_putPiece 209 = .ok (.getfield 84, 3) := by decide +kernel
theorem dX0_putPiece_212 : decode cX0_putPiece 212 = .ok (.aload_n 0, 1) := by decide +kernel
theorem dX0_putPiece_213 : decode cX0_putPiece 213 = .ok (.lload_n 2, 1) := by decide +kernel
theorem dX0_putPiece_214 : decode cX0_putPiece 214 = .ok (.lconst 0, 1) := by decide +kernel
theorem dX0_putPiece_215 : decode cX0_putPiece 215 = .ok (.ldc2_w 167, 3) := by decide +kernel
theorem dX0_putPiece_218 : decode cX0_putPiece 218 = .ok (.invokevirtual 158, 3) := by decide +kernel
theorem dX0_putPiece_221 : decode cX0_putPiece 221 = .ok (.bipush 20, 2) := by decide +kernel
theorem dX0_putPiece_223 : decode cX0_putPiece 223 = .ok (.ishl, 1) := by decide +kernel
theorem dX0_putPiece_224 : decode cX0_putPiece 224 = .ok (.ior, 1) := by decide +kernel
theorem dX0_putPiece_225 : decode cX0_putPiece 225 = .ok (.putfield 84, 3) := by decide +kernel
theorem dX0_putPiece_228 : decode cX0_putPiece 228 = .ok (.goto 136, 3) := by decide +kernel
theorem dX0_putPiece_231 : decode cX0_putPiece 231 = .ok (.aload_n 0, 1) := by decide +kernel
theorem dX0_putPiece_232 : decode cX0_putPiece 232 = .ok (.dup, 1) := by decide +kernel
theorem dX0_putPiece_233 : decode cX0_putPiece 233 = .ok (.getfield 84, 3) := by decide +kernel
theorem dX0_putPiece_236 : decode cX0_putPiece 236 = .ok (.aload_n 0, 1) := by decide +kernel
theorem dX0_putPiece_237 : decode cX0_putPiece 237 = .ok (.lload_n 2, 1) := by decide +kernel
theorem dX0_putPiece_238 : decode cX0_putPiece 238 = .ok (.lconst 0, 1) := by decide +kernel
theorem dX0_putPiece_239 : decode cX0_putPiece 239 = .ok (.ldc2_w 169, 3) := by decide +kernel
theorem dX0_putPiece_242 : decode cX0_putPiece 242 = .ok (.invokevirtual 158, 3) := by decide +kernel
theorem dX0_putPiece_245 : decode cX0_putPiece 245 = .ok (.bipush 12, 2) := by decide +kernel
theorem dX0_putPiece_247 : decode cX0_putPiece 247 = .ok (.ishl, 1) := by decide +kernel
theorem dX0_putPiece_248 : decode cX0_putPiece 248 = .ok (.ior, 1) := by decide +kernel
theorem dX0_putPiece_249 : decode cX0_putPiece 249 = .ok (.putfield 84, 3) := by decide +kernel
theorem dX0_putPiece_252 : decode cX0_putPiece 252 = .ok (.goto 112, 3) := by decide +kernel
theorem dX0_putPiece_255 : decode cX0_putPiece 255 = .ok (.aload_n 0, 1) := by decide +kernel
theorem dX0_putPiece_256 : decode cX0_putPiece 256 = .ok (.dup, 1) := by decide +kernel
theorem dX0_putPiece_257 : decode cX0_putPiece 257 = .ok (.getfield 84, 3) := by decide +kernel
theorem dX0_putPiece_260 : decode cX0_putPiece 260 = .ok (.aload_n 0, 1) := by decide +kernel
theorem dX0_putPiece_261 : decode cX0_putPiece 261 = .ok (.lload_n 2, 1) := by decide +kernel
theorem dX0_putPiece_262 : decode cX0_putPiece 262 = .ok (.lconst 0, 1) := by decide +kernel
theorem dX0_putPiece_263 : decode cX0_putPiece 263 = .ok (.ldc2_w 171, 3) := by decide +kernel
theorem dX0_putPiece_266 : decode cX0_putPiece 266 = .ok (.invokevirtual 158, 3) := by decide +kernel
theorem dX0_putPiece_269 : decode cX0_putPiece 269 = .ok (.bipush 7, 2) := by decide +kernel
theorem dX0_putPiece_271 : decode cX0_putPiece 271 = .ok (.ishl, 1) := by decide +kernel
theorem dX0_putPiece_272 : decode cX0_putPiece 272 = .ok (.ior, 1) := by decide +kernel
theorem dX0_putPiece_273 : decode cX0_putPiece 273 = .ok (.putfield 84, 3) := by decide +kernel
theorem dX0_putPiece_276 : decode cX0_putPiece 276 = .ok (.goto 88, 3) := by decide +kernel
theorem dX0_putPiece_279 : decode cX0_putPiece 279 = .ok (.aload_n 0, 1) := by decide +kernel
theorem dX0_putPiece_280 : decode cX0_putPiece 280 = .ok (.dup, 1) := by decide +kernel
theorem dX0_putPiece_281 : decode cX0_putPiece 281 = .ok (.getfield 84, 3) := by decide +kernel
theorem dX0_putPiece_284 : decode cX0_putPiece 284 = .ok (.aload_n 0, 1) := by decide +kernel
theorem dX0_putPiece_285 : decode cX0_putPiece 285 = .ok (.lload_n 2, 1) := by decide +kernel
theorem dX0_putPiece_286 : decode cX0_putPiece 286 = .ok (.ldc2_w 173, 3) := by decide +kernel
theorem dX0_putPiece_289 : decode cX0_putPiece 289 = .ok (.ldc2_w 175, 3) := by decide +kernel
theorem dX0_putPiece_292 : decode cX0_putPiece 292 = .ok (.invokevirtual 158, 3) := by decide +kernel
theorem dX0_putPiece_295 : decode cX0_putPiece 295 = .ok (.ior, 1) := by decide +kernel
theorem dX0_putPiece_296 : decode cX0_putPiece 296 = .ok (.putfield 84, 3) := by decide +kernel
theorem dX0_putPiece_299 : decode cX0_putPiece 299 = .ok (.goto 65, 3) := by decide +kernel
theorem dX0_putPiece_302 : decode cX0_putPiece 302 = .ok (.aload_n 0, 1) := by decide +kernel
theorem dX0_putPiece_303 : decode cX0_putPiece 303 = .ok (.lload_n 2, 1) := by decide +kernel
theorem dX0_putPiece_304 : decode cX0_putPiece 304 = .ok (.invokevirtual 177, 3) := by decide +kernel
theorem dX0_putPiece_307 : decode cX0_putPiece 307 = .ok (.aload_n 0, 1) := by decide +kernel
theorem dX0_putPiece_308 : decode cX0_putPiece 308 = .ok (.dup, 1) := by decide +kernel
theorem dX0_putPiece_309 : decode cX0_putPiece 309 = .ok (.getfield 84, 3) := by decide +kernel
theorem dX0_putPiece_312 : decode cX0_putPiece 312 = .ok (.aload_n 0, 1) := by decide +kernel
theorem dX0_putPiece_313 : decode cX0_putPiece 313 = .ok (.lload_n 2, 1) := by decide +kernel
theorem dX0_putPiece_314 : decode cX0_putPiece 314 = .ok (.ldc2_w 181, 3) := by decide +kernel
theorem dX0_putPiece_317 : decode cX0_putPiece 317 = .ok (.ldc2_w 183, 3) := by decide +kernel
theorem dX0_putPiece_320 : decode cX0_putPiece 320 = .ok (.invokevirtual 158, 3) := by decide +kernel
theorem dX0_putPiece_323 : decode cX0_putPiece 323 = .ok (.invokestatic 185, 3) := by decide +kernel
theorem dX0_putPiece_326 : decode cX0_putPiece 326 = .ok (.ior, 1) := by decide +kernel
theorem dX0_putPiece_327 : decode cX0_putPiece 327 = .ok (.putfield 84, 3) := by decide +kernel
theorem dX0_putPiece_330 : decode cX0_putPiece 330 = .ok (.goto 34, 3) := by decide +kernel
theorem dX0_putPiece_333 : decode cX0_putPiece 333 = .ok (.aload_n 0, 1) := by decide +kernel
theorem dX0_putPiece_334 : decode cX0_putPiece 334 = .ok (.lload_n 2, 1) := by decide +kernel
theorem dX0_putPiece_335 : decode cX0_putPiece 335 = .ok (.invokevirtual 177, 3) := by decide +kernel
theorem dX0_putPiece_338 : decode cX0_putPiece 338 = .ok (.aload_n 0, 1) := by decide +kernel
theorem dX0_putPiece_339 : decode cX0_putPiece 339 = .ok (.dup, 1) := by decide +kernel
theorem dX0_putPiece_340 : decode cX0_putPiece 340 = .ok (.getfield 84, 3) := by decide +kernel
theorem dX0_putPiece_343 : decode cX0_putPiece 343 = .ok (.aload_n 0, 1) := by decide +kernel
theorem dX0_putPiece_344 : decode cX0_putPiece 344 = .ok (.lload_n 2, 1) := by decide +kernel
theorem dX0_putPiece_345 : decode cX0_putPiece 345 = .ok (.ldc2_w 188, 3) := by decide +kernel
theorem dX0_putPiece_348 : decode cX0_putPiece 348 = .ok (.ldc2_w 190, 3) := by decide +kernel
theorem dX0_putPiece_351 : decode cX0_putPiece 351 = .ok (.invokevirtual 158, 3) := by decide +kernel
theorem dX0_putPiece_354 : decode cX0_putPiece 354 = .ok (.invokestatic 192, 3) := by decide +kernel
theorem dX0_putPiece_357 : decode cX0_putPiece 357 = .ok (.ior, 1) := by decide +kernel
theorem dX0_putPiece_358 : decode cX0_putPiece 358 = .ok (.putfield 84, 3) := by decide +kernel
theorem dX0_putPiece_361 : decode cX0_putPiece 361 = .ok (.goto 3, 3) := by decide +kernel
theorem dX0_putPiece_364 : decode cX0_putPiece 364 = .ok (.return_, 1) := by decide +kernel
theorem dX0_fitted_0 : decode cX0_fitted 0 = .ok (.lload_n 1, 1) := by decide +kernel
theorem dX0_fitted_1 : decode cX0_fitted 1 = .ok (.lload_n 3, 1) := by decide +kernel
theorem dX0_fitted_2 : decode cX0_fitted 2 = .ok (.lcmp, 1) := by decide +kernel
theorem dX0_fitted_3 : decode cX0_fitted 3 = .ok (.ifCond .lt 10, 3) := by decide +kernel
theorem dX0_fitted_6 : decode cX0_fitted 6 = .ok (.lload_n 1, 1) := by decide +kernel
theorem dX0_fitted_7 : decode cX0_fitted 7 = .ok (.lload 5, 2) := by decide +kernel
theorem dX0_fitted_9 : decode cX0_fitted 9 = .ok (.lcmp, 1) := by decide +kernel
theorem dX0_fitted_10 : decode cX0_fitted 10 = .ok (.ifCond .le 8, 3) := by decide +kernel
theorem dX0_fitted_13 : decode cX0_fitted 13 = .ok (.aload_n 0, 1) := by decide +kernel
theorem dX0_fitted_14 : decode cX0_fitted 14 = .ok (.iconst 1, 1) := by decide +kernel
theorem dX0_fitted_15 : decode cX0_fitted 15 = .ok (.putfield 93, 3) := by decide +kernel
theorem dX0_fitted_18 : decode cX0_fitted 18 = .ok (.lload_n 1, 1) := by decide +kernel
theorem dX0_fitted_19 : decode cX0_fitted 19 = .ok (.l2i, 1) := by decide +kernel
theorem dX0_fitted_20 : decode cX0_fitted 20 = .ok (.ireturn, 1) := by decide +kernel
theorem dX0_noteOdd_0 : decode cX0_noteOdd 0 = .ok (.lload_n 1, 1) := by decide +kernel
theorem dX0_noteOdd_1 : decode cX0_noteOdd 1 = .ok (.lconst 1, 1) := by decide +kernel
theorem dX0_noteOdd_2 : decode cX0_noteOdd 2 = .ok (.land, 1) := by decide +kernel
theorem dX0_noteOdd_3 : decode cX0_noteOdd 3 = .ok (.lconst 0, 1) := by decide +kernel
theorem dX0_noteOdd_4 : decode cX0_noteOdd 4 = .ok (.lcmp, 1) := by decide +kernel
theorem dX0_noteOdd_5 : decode cX0_noteOdd 5 = .ok (.ifCond .eq 8, 3) := by decide +kernel
theorem dX0_noteOdd_8 : decode cX0_noteOdd 8 = .ok (.aload_n 0, 1) := by decide +kernel
theorem dX0_noteOdd_9 : decode cX0_noteOdd 9 = .ok (.iconst 1, 1) := by decide +kernel
theorem dX0_noteOdd_10 : decode cX0_noteOdd 10 = .ok (.putfield 93, 3) := by decide +kernel
theorem dX0_noteOdd_13 : decode cX0_noteOdd 13 = .ok (.return_, 1) := by decide +kernel
theorem dX0_resolveTargets_0 : decode cX0_resolveTargets 0 = .ok (.iconst 0, 1) := by decide +kernel
theorem dX0_resolveTargets_1 : decode cX0_resolveTargets 1 = .ok (.istore_n 1, 1) := by decide +kernel
theorem dX0_resolveTargets_2 : decode cX0_resolveTargets 2 = .ok (.iload_n 1, 1) := by decide +kernel
theorem dX0_resolveTargets_3 : decode cX0_resolveTargets 3 = .ok (.aload_n 0, 1) := by decide +kernel
theorem dX0_resolveTargets_4 : decode cX0_resolveTargets 4 = .ok (.getfield 44, 3) := by decide +kernel
theorem dX0_resolveTargets_7 : decode cX0_resolveTargets 7 = .ok (.if_icmp .ge 105, 3) := by decide +kernel
theorem dX0_resolveTargets_10 : decode cX0_resolveTargets 10 = .ok (.aload_n 0, 1) := by decide +kernel
theorem dX0_resolveTargets_11 : decode cX0_resolveTargets 11 = .ok (.getfield 15, 3) := by decide +kernel
theorem dX0_resolveTargets_14 : decode cX0_resolveTargets 14 = .ok (.iload_n 1, 1) := by decide +kernel
theorem dX0_resolveTargets_15 : decode cX0_resolveTargets 15 = .ok (.laload, 1) := by decide +kernel
theorem dX0_resolveTargets_16 : decode cX0_resolveTargets 16 = .ok (.lconst 0, 1) := by decide +kernel
theorem dX0_resolveTargets_17 : decode cX0_resolveTargets 17 = .ok (.lcmp, 1) := by decide +kernel
theorem dX0_resolveTargets_18 : decode cX0_resolveTargets 18 = .ok (.ifCond .ne 6, 3) := by decide +kernel
theorem dX0_resolveTargets_21 : decode cX0_resolveTargets 21 = .ok (.goto 85, 3) := by decide +kernel
theorem dX0_resolveTargets_24 : decode cX0_resolveTargets 24 = .ok (.aload_n 0, 1) := by decide +kernel
theorem dX0_resolveTargets_25 : decode cX0_resolveTargets 25 = .ok (.getfield 25, 3) := by decide +kernel
theorem dX0_resolveTargets_28 : decode cX0_resolveTargets 28 = .ok (.aload_n 0, 1) := by decide +kernel
theorem dX0_resolveTargets_29 : decode cX0_resolveTargets 29 = .ok (.getfield 15, 3) := by decide +kernel
theorem dX0_resolveTargets_32 : decode cX0_resolveTargets 32 = .ok (.iload_n 1, 1) := by decide +kernel
theorem dX0_resolveTargets_33 : decode cX0_resolveTargets 33 = .ok (.laload, 1) := by decide +kernel
theorem dX0_resolveTargets_34 : decode cX0_resolveTargets 34 = .ok (.invokevirtual 111, 3) := by decide +kernel
theorem dX0_resolveTargets_37 : decode cX0_resolveTargets 37 = .ok (.istore_n 2, 1) := by decide +kernel
theorem dX0_resolveTargets_38 : decode cX0_resolveTargets 38 = .ok (.iload_n 2, 1) := by decide +kernel
theorem dX0_resolveTargets_39 : decode cX0_resolveTargets 39 = .ok (.ifCond .ge 15, 3) := by decide +kernel
theorem dX0_resolveTargets_42 : decode cX0_resolveTargets 42 = .ok (.aload_n 0, 1) := by decide +kernel
theorem dX0_resolveTargets_43 : decode cX0_resolveTargets 43 = .ok (.iconst 3, 1) := by decide +kernel
theorem dX0_resolveTargets_44 : decode cX0_resolveTargets 44 = .ok (.aload_n 0, 1) := by decide +kernel
theorem dX0_resolveTargets_45 : decode cX0_resolveTargets 45 = .ok (.getfield 19, 3) := by decide +kernel
theorem dX0_resolveTargets_48 : decode cX0_resolveTargets 48 = .ok (.iload_n 1, 1) := by decide +kernel
theorem dX0_resolveTargets_49 : decode cX0_resolveTargets 49 = .ok (.iaload, 1) := by decide +kernel
theorem dX0_resolveTargets_50 : decode cX0_resolveTargets 50 = .ok (.invokevirtual 65, 3) := by decide +kernel
theorem dX0_resolveTargets_53 : decode cX0_resolveTargets 53 = .ok (.return_, 1) := by decide +kernel
theorem dX0_resolveTargets_54 : decode cX0_resolveTargets 54 = .ok (.iconst 4, 1) := by decide +kernel
theorem dX0_resolveTargets_55 : decode cX0_resolveTargets 55 = .ok (.iload_n 2, 1) := by decide +kernel
theorem dX0_resolveTargets_56 : decode cX0_resolveTargets 56 = .ok (.iload_n 1, 1) := by decide +kernel
theorem dX0_resolveTargets_57 : decode cX0_resolveTargets 57 = .ok (.isub, 1) := by decide +kernel
theorem dX0_resolveTargets_58 : decode cX0_resolveTargets 58 = .ok (.imul, 1) := by decide +kernel
theorem dX0_resolveTargets_59 : decode cX0_resolveTargets 59 = .ok (.istore_n 3, 1) := by decide +kernel
theorem dX0_resolveTargets_60 : decode cX0_resolveTargets 60 = .ok (.aload_n 0, 1) := by decide +kernel
theorem dX0_resolveTargets_61 : decode cX0_resolveTargets 61 = .ok (.getfield 9, 3) := by decide +kernel
theorem dX0_resolveTargets_64 : decode cX0_resolveTargets 64 = .ok (.iload_n 1, 1) := by decide +kernel
theorem dX0_resolveTargets_65 : decode cX0_resolveTargets 65 = .ok (.iaload, 1) := by decide +kernel
theorem dX0_resolveTargets_66 : decode cX0_resolveTargets 66 = .ok (.invokestatic 195, 3) := by decide +kernel
theorem dX0_resolveTargets_69 : decode cX0_resolveTargets 69 = .ok (.bipush 111, 2) := by decide +kernel
theorem dX0_resolveTargets_71 : decode cX0_resolveTargets 71 = .ok (.if_icmp .ne 7, 3) := by decide +kernel
theorem dX0_resolveTargets_74 : decode cX0_resolveTargets 74 = .ok (.iconst 1, 1) := by decide +kernel
theorem dX0_resolveTargets_75 : decode cX0_resolveTargets 75 = .ok (.goto 4, 3) := by decide +kernel
theorem dX0_resolveTargets_78 : decode cX0_resolveTargets 78 = .ok (.iconst 0, 1) := by decide +kernel
theorem dX0_resolveTargets_79 : decode cX0_resolveTargets 79 = .ok (.istore 4, 2) := by decide +kernel
theorem dX0_resolveTargets_81 : decode cX0_resolveTargets 81 = .ok (.aload_n 0, 1) := by decide +kernel
theorem dX0_resolveTargets_82 : decode cX0_resolveTargets 82 = .ok (.getfield 9, 3) := by decide +kernel
theorem dX0_resolveTargets_85 : decode cX0_resolveTargets 85 = .ok (.iload_n 1, 1) := by decide +kernel
theorem dX0_resolveTargets_86 : decode cX0_resolveTargets 86 = .ok (.dup2, 1) := by decide +kernel
theorem dX0_resolveTargets_87 : decode cX0_resolveTargets 87 = .ok (.iaload, 1) := by decide +kernel
theorem dX0_resolveTargets_88 : decode cX0_resolveTargets 88 = .ok (.iload 4, 2) := by decide +kernel
theorem dX0_resolveTargets_90 : decode cX0_resolveTargets 90 = .ok (.ifCond .eq 10, 3) := by decide +kernel
theorem dX0_resolveTargets_93 : decode cX0_resolveTargets 93 = .ok (.iload_n 3, 1) := by decide +kernel
theorem dX0_resolveTargets_94 : decode cX0_resolveTargets 94 = .ok (.invokestatic 192, 3) := by decide +kernel
theorem dX0_resolveTargets_97 : decode cX0_resolveTargets 97 = .ok (.goto 7, 3) := by decide +kernel
theorem dX0_resolveTargets_100 : decode cX0_resolveTargets 100 = .ok (.iload_n 3, 1) := by decide +kernel
theorem dX0_resolveTargets_101 : decode cX0_resolveTargets 101 = .ok (.invokestatic 185, 3) := by decide +kernel
theorem dX0_resolveTargets_104 : decode cX0_resolveTargets 104 = .ok (.ior, 1) := by decide +kernel
theorem dX0_resolveTargets_105 : decode cX0_resolveTargets 105 = .ok (.iastore, 1) := by decide +kernel
theorem dX0_resolveTargets_106 : decode cX0_resolveTargets 106 = .ok (.iinc 1 1, 3) := by decide +kernel
theorem dX0_resolveTargets_109 : decode cX0_resolveTargets 109 = .ok (.goto (-107), 3) := by decide +kernel
theorem dX0_resolveTargets_112 : decode cX0_resolveTargets 112 = .ok (.return_, 1) := by decide +kernel
theorem dX3_init_0 : decode cX3_init 0 = .ok (.aload_n 0, 1) := by decide +kernel
theorem dX3_init_1 : decode cX3_init 1 = .ok (.invokespecial 3, 3) := by decide +kernel
theorem dX3_init_4 : decode cX3_init 4 = .ok (.aload_n 0, 1) := by decide +kernel
theorem dX3_init_5 : decode cX3_init 5 = .ok (.bipush 16, 2) := by decide +kernel
theorem dX3_init_7 : decode cX3_init 7 = .ok (.newarray .long, 2) := by decide +kernel
theorem dX3_init_9 : decode cX3_init 9 = .ok (.putfield 9, 3) := by decide +kernel
theorem dX3_init_12 : decode cX3_init 12 = .ok (.aload_n 0, 1) := by decide +kernel
theorem dX3_init_13 : decode cX3_init 13 = .ok (.bipush 16, 2) := by decide +kernel
theorem dX3_init_15 : decode cX3_init 15 = .ok (.newarray .int, 2) := by decide +kernel
theorem dX3_init_17 : decode cX3_init 17 = .ok (.putfield 15, 3) := by decide +kernel
theorem dX3_init_20 : decode cX3_init 20 = .ok (.return_, 1) := by decide +kernel
theorem dX3_add_0 : decode cX3_add 0 = .ok (.aload_n 0, 1) := by decide +kernel
theorem dX3_add_1 : decode cX3_add 1 = .ok (.getfield 19, 3) := by decide +kernel
theorem dX3_add_4 : decode cX3_add 4 = .ok (.bipush 16, 2) := by decide +kernel
theorem dX3_add_6 : decode cX3_add 6 = .ok (.if_icmp .ge 33, 3) := by decide +kernel
theorem dX3_add_9 : decode cX3_add 9 = .ok (.aload_n 0, 1) := by decide +kernel
theorem dX3_add_10 : decode cX3_add 10 = .ok (.getfield 9, 3) := by decide +kernel
theorem dX3_add_13 : decode cX3_add 13 = .ok (.aload_n 0, 1) := by decide +kernel
theorem dX3_add_14 : decode cX3_add 14 = .ok (.getfield 19, 3) := by decide +kernel
theorem dX3_add_17 : decode cX3_add 17 = .ok (.lload_n 1, 1) := by decide +kernel
theorem dX3_add_18 : decode cX3_add 18 = .ok (.lastore, 1) := by decide +kernel
theorem dX3_add_19 : decode cX3_add 19 = .ok (.aload_n 0, 1) := by decide +kernel
theorem dX3_add_20 : decode cX3_add 20 = .ok (.getfield 15, 3) := by decide +kernel
theorem dX3_add_23 : decode cX3_add 23 = .ok (.aload_n 0, 1) := by decide +kernel
theorem dX3_add_24 : decode cX3_add 24 = .ok (.getfield 19, 3) := by decide +kernel
theorem dX3_add_27 : decode cX3_add 27 = .ok (.iload_n 3, 1) := by decide +kernel
theorem dX3_add_28 : decode cX3_add 28 = .ok (.iastore, 1) := by decide +kernel
theorem dX3_add_29 : decode cX3_add 29 = .ok (.aload_n 0, 1) := by decide +kernel
theorem dX3_add_30 : decode cX3_add 30 = .ok (.dup, 1) := by decide +kernel
theorem dX3_add_31 : decode cX3_add 31 = .ok (.getfield 19, 3) := by decide +kernel
theorem dX3_add_34 : decode cX3_add 34 = .ok (.iconst 1, 1) := by decide +kernel
theorem dX3_add_35 : decode cX3_add 35 = .ok (.iadd, 1) := by decide +kernel
theorem dX3_add_36 : decode cX3_add 36 = .ok (.putfield 19, 3) := by decide +kernel
theorem dX3_add_39 : decode cX3_add 39 = .ok (.return_, 1) := by decide +kernel
theorem dX3_find_0 : decode cX3_find 0 = .ok (.iconst 0, 1) := by decide +kernel
theorem dX3_find_1 : decode cX3_find 1 = .ok (.istore_n 3, 1) := by decide +kernel
theorem dX3_find_2 : decode cX3_find 2 = .ok (.iload_n 3, 1) := by decide +kernel
theorem dX3_find_3 : decode cX3_find 3 = .ok (.aload_n 0, 1) := by decide +kernel
theorem dX3_find_4 : decode cX3_find 4 = .ok (.getfield 19, 3) := by decide +kernel
theorem dX3_find_7 : decode cX3_find 7 = .ok (.if_icmp .ge 27, 3) := by decide +kernel
theorem dX3_find_10 : decode cX3_find 10 = .ok (.aload_n 0, 1) := by decide +kernel
theorem dX3_find_11 : decode cX3_find 11 = .ok (.getfield 9, 3) := by decide +kernel
theorem dX3_find_14 : decode cX3_find 14 = .ok (.iload_n 3, 1) := by decide +kernel
theorem dX3_find_15 : decode cX3_find 15 = .ok (.laload, 1) := by decide +kernel
theorem dX3_find_16 : decode cX3_find 16 = .ok (.lload_n 1, 1) := by decide +kernel
theorem dX3_find_17 : decode cX3_find 17 = .ok (.lcmp, 1) := by decide +kernel
theorem dX3_find_18 : decode cX3_find 18 = .ok (.ifCond .ne 10, 3) := by decide +kernel
theorem dX3_find_21 : decode cX3_find 21 = .ok (.aload_n 0, 1) := by decide +kernel
theorem dX3_find_22 : decode cX3_find 22 = .ok (.getfield 15, 3) := by decide +kernel
theorem dX3_find_25 : decode cX3_find 25 = .ok (.iload_n 3, 1) := by decide +kernel
theorem dX3_find_26 : decode cX3_find 26 = .ok (.iaload, 1) := by decide +kernel
theorem dX3_find_27 : decode cX3_find 27 = .ok (.ireturn, 1) := by decide +kernel
theorem dX3_find_28 : decode cX3_find 28 = .ok (.iinc 3 1, 3) := by decide +kernel
theorem dX3_find_31 : decode cX3_find 31 = .ok (.goto (-29), 3) := by decide +kernel
theorem dX3_find_34 : decode cX3_find 34 = .ok (.iconst (-1), 1) := by decide +kernel
theorem dX3_find_35 : decode cX3_find 35 = .ok (.ireturn, 1) := by decide +kernel
theorem dX7_init_0 : decode cX7_init 0 = .ok (.aload_n 0, 1) := by decide +kernel
theorem dX7_init_1 : decode cX7_init 1 = .ok (.invokespecial 3, 3) := by decide +kernel
theorem dX7_init_4 : decode cX7_init 4 = .ok (.aload_n 0, 1) := by decide +kernel
theorem dX7_init_5 : decode cX7_init 5 = .ok (.sipush 400, 3) := by decide +kernel
theorem dX7_init_8 : decode cX7_init 8 = .ok (.newarray .char, 2) := by decide +kernel
theorem dX7_init_10 : decode cX7_init 10 = .ok (.putfield 9, 3) := by decide +kernel
theorem dX7_init_13 : decode cX7_init 13 = .ok (.return_, 1) := by decide +kernel
theorem dX7_canBeTyped_0 : decode cX7_canBeTyped 0 = .ok (.iload_n 2, 1) := by decide +kernel
theorem dX7_canBeTyped_1 : decode cX7_canBeTyped 1 = .ok (.iconst 1, 1) := by decide +kernel
theorem dX7_canBeTyped_2 : decode cX7_canBeTyped 2 = .ok (.if_icmp .lt 9, 3) := by decide +kernel
theorem dX7_canBeTyped_5 : decode cX7_canBeTyped 5 = .ok (.iload_n 2, 1) := by decide +kernel
theorem dX7_canBeTyped_6 : decode cX7_canBeTyped 6 = .ok (.bipush 8, 2) := by decide +kernel
theorem dX7_canBeTyped_8 : decode cX7_canBeTyped 8 = .ok (.if_icmp .le 5, 3) := by decide +kernel
theorem dX7_canBeTyped_11 : decode cX7_canBeTyped 11 = .ok (.iconst 0, 1) := by decide +kernel
theorem dX7_canBeTyped_12 : decode cX7_canBeTyped 12 = .ok (.ireturn, 1) := by decide +kernel
theorem dX7_canBeTyped_13 : decode cX7_canBeTyped 13 = .ok (.iconst 0, 1) := by decide +kernel
theorem dX7_canBeTyped_14 : decode cX7_canBeTyped 14 = .ok (.istore_n 3, 1) := by decide +kernel
theorem dX7_canBeTyped_15 : decode cX7_canBeTyped 15 = .ok (.iload_n 3, 1) := by decide +kernel
theorem dX7_canBeTyped_16 : decode cX7_canBeTyped 16 = .ok (.iload_n 2, 1) := by decide +kernel
theorem dX7_canBeTyped_17 : decode cX7_canBeTyped 17 = .ok (.if_icmp .ge 39, 3) := by decide +kernel
theorem dX7_canBeTyped_20 : decode cX7_canBeTyped 20 = .ok (.lload_n 0, 1) := by decide +kernel
theorem dX7_canBeTyped_21 : decode cX7_canBeTyped 21 = .ok (.iload_n 3, 1) := by decide +kernel
theorem dX7_canBeTyped_22 : decode cX7_canBeTyped 22 = .ok (.invokestatic 15, 3) := by decide +kernel
theorem dX7_canBeTyped_25 : decode cX7_canBeTyped 25 = .ok (.istore 4, 2) := by decide +kernel
theorem dX7_canBeTyped_27 : decode cX7_canBeTyped 27 = .ok (.iload 4, 2) := by decide +kernel
theorem dX7_canBeTyped_29 : decode cX7_canBeTyped 29 = .ok (.bipush 10, 2) := by decide +kernel
theorem dX7_canBeTyped_31 : decode cX7_canBeTyped 31 = .ok (.if_icmp .eq 19, 3) := by decide +kernel
theorem dX7_canBeTyped_34 : decode cX7_canBeTyped 34 = .ok (.iload 4, 2) := by decide +kernel
theorem dX7_canBeTyped_36 : decode cX7_canBeTyped 36 = .ok (.bipush 32, 2) := by decide +kernel
theorem dX7_canBeTyped_38 : decode cX7_canBeTyped 38 = .ok (.if_icmp .lt 10, 3) := by decide +kernel
theorem dX7_canBeTyped_41 : decode cX7_canBeTyped 41 = .ok (.iload 4, 2) := by decide +kernel
theorem dX7_canBeTyped_43 : decode cX7_canBeTyped 43 = .ok (.bipush 126, 2) := by decide +kernel
theorem dX7_canBeTyped_45 : decode cX7_canBeTyped 45 = .ok (.if_icmp .le 5, 3) := by decide +kernel
theorem dX7_canBeTyped_48 : decode cX7_canBeTyped 48 = .ok (.iconst 0, 1) := by decide +kernel
theorem dX7_canBeTyped_49 : decode cX7_canBeTyped 49 = .ok (.ireturn, 1) := by decide +kernel
theorem dX7_canBeTyped_50 : decode cX7_canBeTyped 50 = .ok (.iinc 3 1, 3) := by decide +kernel
theorem dX7_canBeTyped_53 : decode cX7_canBeTyped 53 = .ok (.goto (-38), 3) := by decide +kernel
theorem dX7_canBeTyped_56 : decode cX7_canBeTyped 56 = .ok (.iconst 1, 1) := by decide +kernel
theorem dX7_canBeTyped_57 : decode cX7_canBeTyped 57 = .ok (.ireturn, 1) := by decide +kernel
theorem dX7_add_0 : decode cX7_add 0 = .ok (.iconst 0, 1) := by decide +kernel
theorem dX7_add_1 : decode cX7_add 1 = .ok (.istore 4, 2) := by decide +kernel
theorem dX7_add_3 : decode cX7_add 3 = .ok (.iload 4, 2) := by decide +kernel
theorem dX7_add_5 : decode cX7_add 5 = .ok (.iload_n 3, 1) := by decide +kernel
theorem dX7_add_6 : decode cX7_add 6 = .ok (.if_icmp .ge 44, 3) := by decide +kernel
theorem dX7_add_9 : decode cX7_add 9 = .ok (.aload_n 0, 1) := by decide +kernel
theorem dX7_add_10 : decode cX7_add 10 = .ok (.getfield 19, 3) := by decide +kernel
theorem dX7_add_13 : decode cX7_add 13 = .ok (.sipush 400, 3) := by decide +kernel
theorem dX7_add_16 : decode cX7_add 16 = .ok (.if_icmp .ge 34, 3) := by decide +kernel
theorem dX7_add_19 : decode cX7_add 19 = .ok (.aload_n 0, 1) := by decide +kernel
theorem dX7_add_20 : decode cX7_add 20 = .ok (.getfield 9, 3) := by decide +kernel
theorem dX7_add_23 : decode cX7_add 23 = .ok (.aload_n 0, 1) := by decide +kernel
theorem dX7_add_24 : decode cX7_add 24 = .ok (.getfield 19, 3) := by decide +kernel
theorem dX7_add_27 : decode cX7_add 27 = .ok (.lload_n 1, 1) := by decide +kernel
theorem dX7_add_28 : decode cX7_add 28 = .ok (.iload 4, 2) := by decide +kernel
theorem dX7_add_30 : decode cX7_add 30 = .ok (.invokestatic 15, 3) := by decide +kernel
theorem dX7_add_33 : decode cX7_add 33 = .ok (.castore, 1) := by decide +kernel
theorem dX7_add_34 : decode cX7_add 34 = .ok (.aload_n 0, 1) := by decide +kernel
theorem dX7_add_35 : decode cX7_add 35 = .ok (.dup, 1) := by decide +kernel
theorem dX7_add_36 : decode cX7_add 36 = .ok (.getfield 19, 3) := by decide +kernel
theorem dX7_add_39 : decode cX7_add 39 = .ok (.iconst 1, 1) := by decide +kernel
theorem dX7_add_40 : decode cX7_add 40 = .ok (.iadd, 1) := by decide +kernel
theorem dX7_add_41 : decode cX7_add 41 = .ok (.putfield 19, 3) := by decide +kernel
theorem dX7_add_44 : decode cX7_add 44 = .ok (.iinc 4 1, 3) := by decide +kernel
theorem dX7_add_47 : decode cX7_add 47 = .ok (.goto (-44), 3) := by decide +kernel
theorem dX7_add_50 : decode cX7_add 50 = .ok (.return_, 1) := by decide +kernel
theorem dX7_byteOf_0 : decode cX7_byteOf 0 = .ok (.lload_n 0, 1) := by decide +kernel
theorem dX7_byteOf_1 : decode cX7_byteOf 1 = .ok (.bipush 8, 2) := by decide +kernel
theorem dX7_byteOf_3 : decode cX7_byteOf 3 = .ok (.iload_n 2, 1) := by decide +kernel
theorem dX7_byteOf_4 : decode cX7_byteOf 4 = .ok (.imul, 1) := by decide +kernel
theorem dX7_byteOf_5 : decode cX7_byteOf 5 = .ok (.lushr, 1) := by decide +kernel
theorem dX7_byteOf_6 : decode cX7_byteOf 6 = .ok (.ldc2_w 23, 3) := by decide +kernel
theorem dX7_byteOf_9 : decode cX7_byteOf 9 = .ok (.land, 1) := by decide +kernel
theorem dX7_byteOf_10 : decode cX7_byteOf 10 = .ok (.l2i, 1) := by decide +kernel
theorem dX7_byteOf_11 : decode cX7_byteOf 11 = .ok (.i2c, 1) := by decide +kernel
theorem dX7_byteOf_12 : decode cX7_byteOf 12 = .ok (.ireturn, 1) := by decide +kernel
theorem dX9_init_0 : decode cX9_init 0 = .ok (.aload_n 0, 1) := by decide +kernel
theorem dX9_init_1 : decode cX9_init 1 = .ok (.invokespecial 3, 3) := by decide +kernel
theorem dX9_init_4 : decode cX9_init 4 = .ok (.aload_n 0, 1) := by decide +kernel
theorem dX9_init_5 : decode cX9_init 5 = .ok (.sipush 401, 3) := by decide +kernel
theorem dX9_init_8 : decode cX9_init 8 = .ok (.newarray .char, 2) := by decide +kernel
theorem dX9_init_10 : decode cX9_init 10 = .ok (.putfield 9, 3) := by decide +kernel
theorem dX9_init_13 : decode cX9_init 13 = .ok (.aload_n 0, 1) := by decide +kernel
theorem dX9_init_14 : decode cX9_init 14 = .ok (.sipush 401, 3) := by decide +kernel
theorem dX9_init_17 : decode cX9_init 17 = .ok (.newarray .long, 2) := by decide +kernel
theorem dX9_init_19 : decode cX9_init 19 = .ok (.putfield 15, 3) := by decide +kernel
theorem dX9_init_22 : decode cX9_init 22 = .ok (.return_, 1) := by decide +kernel
theorem dX9_withLetter_0 : decode cX9_withLetter 0 = .ok (.lload_n 0, 1) := by decide +kernel
theorem dX9_withLetter_1 : decode cX9_withLetter 1 = .ok (.iconst 5, 1) := by decide +kernel
theorem dX9_withLetter_2 : decode cX9_withLetter 2 = .ok (.lshl, 1) := by decide +kernel
theorem dX9_withLetter_3 : decode cX9_withLetter 3 = .ok (.iload_n 2, 1) := by decide +kernel
theorem dX9_withLetter_4 : decode cX9_withLetter 4 = .ok (.bipush 97, 2) := by decide +kernel
theorem dX9_withLetter_6 : decode cX9_withLetter 6 = .ok (.isub, 1) := by decide +kernel
theorem dX9_withLetter_7 : decode cX9_withLetter 7 = .ok (.iconst 1, 1) := by decide +kernel
theorem dX9_withLetter_8 : decode cX9_withLetter 8 = .ok (.iadd, 1) := by decide +kernel
theorem dX9_withLetter_9 : decode cX9_withLetter 9 = .ok (.i2l, 1) := by decide +kernel
theorem dX9_withLetter_10 : decode cX9_withLetter 10 = .ok (.lor, 1) := by decide +kernel
theorem dX9_withLetter_11 : decode cX9_withLetter 11 = .ok (.lreturn, 1) := by decide +kernel
theorem dX9_split_0 : decode cX9_split 0 = .ok (.aload_n 0, 1) := by decide +kernel
theorem dX9_split_1 : decode cX9_split 1 = .ok (.aload_n 1, 1) := by decide +kernel
theorem dX9_split_2 : decode cX9_split 2 = .ok (.getfield 19, 3) := by decide +kernel
theorem dX9_split_5 : decode cX9_split 5 = .ok (.putfield 24, 3) := by decide +kernel
theorem dX9_split_8 : decode cX9_split 8 = .ok (.aload_n 0, 1) := by decide +kernel
theorem dX9_split_9 : decode cX9_split 9 = .ok (.aload_n 1, 1) := by decide +kernel
theorem dX9_split_10 : decode cX9_split 10 = .ok (.getfield 25, 3) := by decide +kernel
theorem dX9_split_13 : decode cX9_split 13 = .ok (.putfield 29, 3) := by decide +kernel
theorem dX9_split_16 : decode cX9_split 16 = .ok (.aload_n 0, 1) := by decide +kernel
theorem dX9_split_17 : decode cX9_split 17 = .ok (.iconst 0, 1) := by decide +kernel
theorem dX9_split_18 : decode cX9_split 18 = .ok (.putfield 30, 3) := by decide +kernel
theorem dX9_split_21 : decode cX9_split 21 = .ok (.aload_n 0, 1) := by decide +kernel
theorem dX9_split_22 : decode cX9_split 22 = .ok (.iconst 0, 1) := by decide +kernel
theorem dX9_split_23 : decode cX9_split 23 = .ok (.putfield 33, 3) := by decide +kernel
theorem dX9_split_26 : decode cX9_split 26 = .ok (.iconst 0, 1) := by decide +kernel
theorem dX9_split_27 : decode cX9_split 27 = .ok (.istore_n 2, 1) := by decide +kernel
theorem dX9_split_28 : decode cX9_split 28 = .ok (.iload_n 2, 1) := by decide +kernel
theorem dX9_split_29 : decode cX9_split 29 = .ok (.sipush 400, 3) := by decide +kernel
theorem dX9_split_32 : decode cX9_split 32 = .ok (.if_icmp .ge 80, 3) := by decide +kernel
theorem dX9_split_35 : decode cX9_split 35 = .ok (.aload_n 0, 1) := by decide +kernel
theorem dX9_split_36 : decode cX9_split 36 = .ok (.getfield 33, 3) := by decide +kernel
theorem dX9_split_39 : decode cX9_split 39 = .ok (.aload_n 0, 1) := by decide +kernel
theorem dX9_split_40 : decode cX9_split 40 = .ok (.getfield 29, 3) := by decide +kernel
theorem dX9_split_43 : decode cX9_split 43 = .ok (.if_icmp .ge 69, 3) := by decide +kernel
theorem dX9_split_46 : decode cX9_split 46 = .ok (.aload_n 0, 1) := by decide +kernel
theorem dX9_split_47 : decode cX9_split 47 = .ok (.getfield 24, 3) := by decide +kernel
theorem dX9_split_50 : decode cX9_split 50 = .ok (.aload_n 0, 1) := by decide +kernel
theorem dX9_split_51 : decode cX9_split 51 = .ok (.getfield 33, 3) := by decide +kernel
theorem dX9_split_54 : decode cX9_split 54 = .ok (.caload, 1) := by decide +kernel
theorem dX9_split_55 : decode cX9_split 55 = .ok (.istore_n 3, 1) := by decide +kernel
theorem dX9_split_56 : decode cX9_split 56 = .ok (.iload_n 3, 1) := by decide +kernel
theorem dX9_split_57 : decode cX9_split 57 = .ok (.invokestatic 36, 3) := by decide +kernel
theorem dX9_split_60 : decode cX9_split 60 = .ok (.ifCond .eq 10, 3) := by decide +kernel
theorem dX9_split_63 : decode cX9_split 63 = .ok (.aload_n 0, 1) := by decide +kernel
theorem dX9_split_64 : decode cX9_split 64 = .ok (.invokevirtual 40, 3) := by decide +kernel
theorem dX9_split_67 : decode cX9_split 67 = .ok (.goto 39, 3) := by decide +kernel
theorem dX9_split_70 : decode cX9_split 70 = .ok (.iload_n 3, 1) := by decide +kernel
theorem dX9_split_71 : decode cX9_split 71 = .ok (.invokestatic 43, 3) := by decide +kernel
theorem dX9_split_74 : decode cX9_split 74 = .ok (.ifCond .ne 9, 3) := by decide +kernel
theorem dX9_split_77 : decode cX9_split 77 = .ok (.iload_n 3, 1) := by decide +kernel
theorem dX9_split_78 : decode cX9_split 78 = .ok (.bipush 45, 2) := by decide +kernel
theorem dX9_split_80 : decode cX9_split 80 = .ok (.if_icmp .ne 21, 3) := by decide +kernel
theorem dX9_split_83 : decode cX9_split 83 = .ok (.aload_n 0, 1) := by decide +kernel
theorem dX9_split_84 : decode cX9_split 84 = .ok (.iload_n 3, 1) := by decide +kernel
theorem dX9_split_85 : decode cX9_split 85 = .ok (.bipush 45, 2) := by decide +kernel
theorem dX9_split_87 : decode cX9_split 87 = .ok (.if_icmp .ne 7, 3) := by decide +kernel
theorem dX9_split_90 : decode cX9_split 90 = .ok (.iconst 1, 1) := by decide +kernel
theorem dX9_split_91 : decode cX9_split 91 = .ok (.goto 4, 3) := by decide +kernel
theorem dX9_split_94 : decode cX9_split 94 = .ok (.iconst 0, 1) := by decide +kernel
theorem dX9_split_95 : decode cX9_split 95 = .ok (.invokevirtual 46, 3) := by decide +kernel
theorem dX9_split_98 : decode cX9_split 98 = .ok (.goto 8, 3) := by decide +kernel
theorem dX9_split_101 : decode cX9_split 101 = .ok (.aload_n 0, 1) := by decide +kernel
theorem dX9_split_102 : decode cX9_split 102 = .ok (.iload_n 3, 1) := by decide +kernel
theorem dX9_split_103 : decode cX9_split 103 = .ok (.invokevirtual 50, 3) := by decide +kernel
theorem dX9_split_106 : decode cX9_split 106 = .ok (.iinc 2 1, 3) := by decide +kernel
theorem dX9_split_109 : decode cX9_split 109 = .ok (.goto (-81), 3) := by decide +kernel
theorem dX9_split_112 : decode cX9_split 112 = .ok (.aload_n 0, 1) := by decide +kernel
theorem dX9_split_113 : decode cX9_split 113 = .ok (.bipush 10, 2) := by decide +kernel
theorem dX9_split_115 : decode cX9_split 115 = .ok (.lconst 0, 1) := by decide +kernel
theorem dX9_split_116 : decode cX9_split 116 = .ok (.invokevirtual 54, 3) := by decide +kernel
theorem dX9_split_119 : decode cX9_split 119 = .ok (.return_, 1) := by decide +kernel
theorem dX9_kindAt_0 : decode cX9_kindAt 0 = .ok (.iload_n 1, 1) := by decide +kernel
theorem dX9_kindAt_1 : decode cX9_kindAt 1 = .ok (.ifCond .lt 20, 3) := by decide +kernel
theorem dX9_kindAt_4 : decode cX9_kindAt 4 = .ok (.iload_n 1, 1) := by decide +kernel
theorem dX9_kindAt_5 : decode cX9_kindAt 5 = .ok (.aload_n 0, 1) := by decide +kernel
theorem dX9_kindAt_6 : decode cX9_kindAt 6 = .ok (.getfield 30, 3) := by decide +kernel
theorem dX9_kindAt_9 : decode cX9_kindAt 9 = .ok (.if_icmp .ge 12, 3) := by decide +kernel
theorem dX9_kindAt_12 : decode cX9_kindAt 12 = .ok (.aload_n 0, 1) := by decide +kernel
theorem dX9_kindAt_13 : decode cX9_kindAt 13 = .ok (.getfield 9, 3) := by decide +kernel
theorem dX9_kindAt_16 : decode cX9_kindAt 16 = .ok (.iload_n 1, 1) := by decide +kernel
theorem dX9_kindAt_17 : decode cX9_kindAt 17 = .ok (.caload, 1) := by decide +kernel
theorem dX9_kindAt_18 : decode cX9_kindAt 18 = .ok (.goto 5, 3) := by decide +kernel
theorem dX9_kindAt_21 : decode cX9_kindAt 21 = .ok (.bipush 10, 2) := by decide +kernel
theorem dX9_kindAt_23 : decode cX9_kindAt 23 = .ok (.ireturn, 1) := by decide +kernel
theorem dX9_valueAt_0 : decode cX9_valueAt 0 = .ok (.iload_n 1, 1) := by decide +kernel
theorem dX9_valueAt_1 : decode cX9_valueAt 1 = .ok (.ifCond .lt 20, 3) := by decide +kernel
theorem dX9_valueAt_4 : decode cX9_valueAt 4 = .ok (.iload_n 1, 1) := by decide +kernel
theorem dX9_valueAt_5 : decode cX9_valueAt 5 = .ok (.aload_n 0, 1) := by decide +kernel
theorem dX9_valueAt_6 : decode cX9_valueAt 6 = .ok (.getfield 30, 3) := by decide +kernel
theorem dX9_valueAt_9 : decode cX9_valueAt 9 = .ok (.if_icmp .ge 12, 3) := by decide +kernel
theorem dX9_valueAt_12 : decode cX9_valueAt 12 = .ok (.aload_n 0, 1) := by decide +kernel
theorem dX9_valueAt_13 : decode cX9_valueAt 13 = .ok (.getfield 15, 3) := by decide +kernel
theorem dX9_valueAt_16 : decode cX9_valueAt 16 = .ok (.iload_n 1, 1) := by decide +kernel
theorem dX9_valueAt_17 : decode cX9_valueAt 17 = .ok (.laload, 1) := by decide +kernel
theorem dX9_valueAt_18 : decode cX9_valueAt 18 = .ok (.goto 4, 3) := by decide +kernel
theorem dX9_valueAt_21 : decode cX9_valueAt 21 = .ok (.lconst 0, 1) := by decide +kernel
theorem dX9_valueAt_22 : decode cX9_valueAt 22 = .ok (.lreturn, 1) := by decide +kernel
theorem dX9_size_0 : decode cX9_size 0 = .ok (.aload_n 0, 1) := by decide +kernel
theorem dX9_size_1 : decode cX9_size 1 = .ok (.getfield 30, 3) := by decide +kernel
theorem dX9_size_4 : decode cX9_size 4 = .ok (.ireturn, 1) := by decide +kernel
theorem dX9_takeMark_0 : decode cX9_takeMark 0 = .ok (.aload_n 0, 1) := by decide +kernel
theorem dX9_takeMark_1 : decode cX9_takeMark 1 = .ok (.dup, 1) := by decide +kernel
theorem dX9_takeMark_2 : decode cX9_takeMark 2 = .ok (.getfield 33, 3) := by decide +kernel
theorem dX9_takeMark_5 : decode cX9_takeMark 5 = .ok (.iconst 1, 1) := by decide +kernel
theorem dX9_takeMark_6 : decode cX9_takeMark 6 = .ok (.iadd, 1) := by decide +kernel
theorem dX9_takeMark_7 : decode cX9_takeMark 7 = .ok (.putfield 33, 3) := by decide +kernel
theorem dX9_takeMark_10 : decode cX9_takeMark 10 = .ok (.iload_n 1, 1) := by decide +kernel
theorem dX9_takeMark_11 : decode cX9_takeMark 11 = .ok (.bipush 10, 2) := by decide +kernel
theorem dX9_takeMark_13 : decode cX9_takeMark 13 = .ok (.if_icmp .eq 9, 3) := by decide +kernel
theorem dX9_takeMark_16 : decode cX9_takeMark 16 = .ok (.iload_n 1, 1) := by decide +kernel
theorem dX9_takeMark_17 : decode cX9_takeMark 17 = .ok (.bipush 59, 2) := by decide +kernel
theorem dX9_takeMark_19 : decode cX9_takeMark 19 = .ok (.if_icmp .ne 13, 3) := by decide +kernel
theorem dX9_takeMark_22 : decode cX9_takeMark 22 = .ok (.aload_n 0, 1) := by decide +kernel
theorem dX9_takeMark_23 : decode cX9_takeMark 23 = .ok (.bipush 10, 2) := by decide +kernel
theorem dX9_takeMark_25 : decode cX9_takeMark 25 = .ok (.lconst 0, 1) := by decide +kernel
theorem dX9_takeMark_26 : decode cX9_takeMark 26 = .ok (.invokevirtual 54, 3) := by decide +kernel
theorem dX9_takeMark_29 : decode cX9_takeMark 29 = .ok (.goto 49, 3) := by decide +kernel
theorem dX9_takeMark_32 : decode cX9_takeMark 32 = .ok (.iload_n 1, 1) := by decide +kernel
theorem dX9_takeMark_33 : decode cX9_takeMark 33 = .ok (.bipush 44, 2) := by decide +kernel
theorem dX9_takeMark_35 : decode cX9_takeMark 35 = .ok (.if_icmp .eq 21, 3) := by decide +kernel
theorem dX9_takeMark_38 : decode cX9_takeMark 38 = .ok (.iload_n 1, 1) := by decide +kernel
theorem dX9_takeMark_39 : decode cX9_takeMark 39 = .ok (.bipush 40, 2) := by decide +kernel
theorem dX9_takeMark_41 : decode cX9_takeMark 41 = .ok (.if_icmp .eq 15, 3) := by decide +kernel
theorem dX9_takeMark_44 : decode cX9_takeMark 44 = .ok (.iload_n 1, 1) := by decide +kernel
theorem dX9_takeMark_45 : decode cX9_takeMark 45 = .ok (.bipush 41, 2) := by decide +kernel
theorem dX9_takeMark_47 : decode cX9_takeMark 47 = .ok (.if_icmp .eq 9, 3) := by decide +kernel
theorem dX9_takeMark_50 : decode cX9_takeMark 50 = .ok (.iload_n 1, 1) := by decide +kernel
theorem dX9_takeMark_51 : decode cX9_takeMark 51 = .ok (.bipush 58, 2) := by decide +kernel
theorem dX9_takeMark_53 : decode cX9_takeMark 53 = .ok (.if_icmp .ne 12, 3) := by decide +kernel
theorem dX9_takeMark_56 : decode cX9_takeMark 56 = .ok (.aload_n 0, 1) := by decide +kernel
theorem dX9_takeMark_57 : decode cX9_takeMark 57 = .ok (.iload_n 1, 1) := by decide +kernel
theorem dX9_takeMark_58 : decode cX9_takeMark 58 = .ok (.lconst 0, 1) := by decide +kernel
theorem dX9_takeMark_59 : decode cX9_takeMark 59 = .ok (.invokevirtual 54, 3) := by decide +kernel
theorem dX9_takeMark_62 : decode cX9_takeMark 62 = .ok (.goto 16, 3) := by decide +kernel
theorem dX9_takeMark_65 : decode cX9_takeMark 65 = .ok (.iload_n 1, 1) := by decide +kernel
theorem dX9_takeMark_66 : decode cX9_takeMark 66 = .ok (.bipush 32, 2) := by decide +kernel
theorem dX9_takeMark_68 : decode cX9_takeMark 68 = .ok (.if_icmp .eq 10, 3) := by decide +kernel
theorem dX9_takeMark_71 : decode cX9_takeMark 71 = .ok (.aload_n 0, 1) := by decide +kernel
theorem dX9_takeMark_72 : decode cX9_takeMark 72 = .ok (.bipush 63, 2) := by decide +kernel
theorem dX9_takeMark_74 : decode cX9_takeMark 74 = .ok (.lconst 0, 1) := by decide +kernel
theorem dX9_takeMark_75 : decode cX9_takeMark 75 = .ok (.invokevirtual 54, 3) := by decide +kernel
theorem dX9_takeMark_78 : decode cX9_takeMark 78 = .ok (.return_, 1) := by decide +kernel
theorem dX9_takeLetters_0 : decode cX9_takeLetters 0 = .ok (.aload_n 0, 1) := by decide +kernel
theorem dX9_takeLetters_1 : decode cX9_takeLetters 1 = .ok (.getfield 33, 3) := by decide +kernel
theorem dX9_takeLetters_4 : decode cX9_takeLetters 4 = .ok (.istore_n 1, 1) := by decide +kernel
theorem dX9_takeLetters_5 : decode cX9_takeLetters 5 = .ok (.lconst 0, 1) := by decide +kernel
theorem dX9_takeLetters_6 : decode cX9_takeLetters 6 = .ok (.lstore_n 2, 1) := by decide +kernel
theorem dX9_takeLetters_7 : decode cX9_takeLetters 7 = .ok (.aload_n 0, 1) := by decide +kernel
theorem dX9_takeLetters_8 : decode cX9_takeLetters 8 = .ok (.getfield 33, 3) := by decide +kernel
theorem dX9_takeLetters_11 : decode cX9_takeLetters 11 = .ok (.aload_n 0, 1) := by decide +kernel
theorem dX9_takeLetters_12 : decode cX9_takeLetters 12 = .ok (.getfield 29, 3) := by decide +kernel
theorem dX9_takeLetters_15 : decode cX9_takeLetters 15 = .ok (.if_icmp .ge 45, 3) := by decide +kernel
theorem dX9_takeLetters_18 : decode cX9_takeLetters 18 = .ok (.aload_n 0, 1) := by decide +kernel
theorem dX9_takeLetters_19 : decode cX9_takeLetters 19 = .ok (.getfield 24, 3) := by decide +kernel
theorem dX9_takeLetters_22 : decode cX9_takeLetters 22 = .ok (.aload_n 0, 1) := by decide +kernel
theorem dX9_takeLetters_23 : decode cX9_takeLetters 23 = .ok (.getfield 33, 3) := by decide +kernel
theorem dX9_takeLetters_26 : decode cX9_takeLetters 26 = .ok (.caload, 1) := by decide +kernel
theorem dX9_takeLetters_27 : decode cX9_takeLetters 27 = .ok (.invokestatic 36, 3) := by decide +kernel
theorem dX9_takeLetters_30 : decode cX9_takeLetters 30 = .ok (.ifCond .eq 30, 3) := by decide +kernel
theorem dX9_takeLetters_33 : decode cX9_takeLetters 33 = .ok (.lload_n 2, 1) := by decide +kernel
theorem dX9_takeLetters_34 : decode cX9_takeLetters 34 = .ok (.aload_n 0, 1) := by decide +kernel
theorem dX9_takeLetters_35 : decode cX9_takeLetters 35 = .ok (.getfield 24, 3) := by decide +kernel
theorem dX9_takeLetters_38 : decode cX9_takeLetters 38 = .ok (.aload_n 0, 1) := by decide +kernel
theorem dX9_takeLetters_39 : decode cX9_takeLetters 39 = .ok (.getfield 33, 3) := by decide +kernel
theorem dX9_takeLetters_42 : decode cX9_takeLetters 42 = .ok (.caload, 1) := by decide +kernel
theorem dX9_takeLetters_43 : decode cX9_takeLetters 43 = .ok (.invokestatic 58, 3) := by decide +kernel
theorem dX9_takeLetters_46 : decode cX9_takeLetters 46 = .ok (.lstore_n 2, 1) := by decide +kernel
theorem dX9_takeLetters_47 : decode cX9_takeLetters 47 = .ok (.aload_n 0, 1) := by decide +kernel
theorem dX9_takeLetters_48 : decode cX9_takeLetters 48 = .ok (.dup, 1) := by decide +kernel
theorem dX9_takeLetters_49 : decode cX9_takeLetters 49 = .ok (.getfield 33, 3) := by decide +kernel
theorem dX9_takeLetters_52 : decode cX9_takeLetters 52 = .ok (.iconst 1, 1) := by decide +kernel
theorem dX9_takeLetters_53 : decode cX9_takeLetters 53 = .ok (.iadd, 1) := by decide +kernel
theorem dX9_takeLetters_54 : decode cX9_takeLetters 54 = .ok (.putfield 33, 3) := by decide +kernel
theorem dX9_takeLetters_57 : decode cX9_takeLetters 57 = .ok (.goto (-50), 3) := by decide +kernel
theorem dX9_takeLetters_60 : decode cX9_takeLetters 60 = .ok (.aload_n 0, 1) := by decide +kernel
theorem dX9_takeLetters_61 : decode cX9_takeLetters 61 = .ok (.getfield 33, 3) := by decide +kernel
theorem dX9_takeLetters_64 : decode cX9_takeLetters 64 = .ok (.iload_n 1, 1) := by decide +kernel
theorem dX9_takeLetters_65 : decode cX9_takeLetters 65 = .ok (.isub, 1) := by decide +kernel
theorem dX9_takeLetters_66 : decode cX9_takeLetters 66 = .ok (.iconst 1, 1) := by decide +kernel
theorem dX9_takeLetters_67 : decode cX9_takeLetters 67 = .ok (.if_icmp .ne 18, 3) := by decide +kernel
theorem dX9_takeLetters_70 : decode cX9_takeLetters 70 = .ok (.aload_n 0, 1) := by decide +kernel
theorem dX9_takeLetters_71 : decode cX9_takeLetters 71 = .ok (.getfield 24, 3) := by decide +kernel
theorem dX9_takeLetters_74 : decode cX9_takeLetters 74 = .ok (.iload_n 1, 1) := by decide +kernel
theorem dX9_takeLetters_75 : decode cX9_takeLetters 75 = .ok (.caload, 1) := by decide +kernel
theorem dX9_takeLetters_76 : decode cX9_takeLetters 76 = .ok (.bipush 120, 2) := by decide +kernel
theorem dX9_takeLetters_78 : decode cX9_takeLetters 78 = .ok (.if_icmp .ne 7, 3) := by decide +kernel
theorem dX9_takeLetters_81 : decode cX9_takeLetters 81 = .ok (.iconst 1, 1) := by decide +kernel
theorem dX9_takeLetters_82 : decode cX9_takeLetters 82 = .ok (.goto 4, 3) := by decide +kernel
theorem dX9_takeLetters_85 : decode cX9_takeLetters 85 = .ok (.iconst 0, 1) := by decide +kernel
theorem dX9_takeLetters_86 : decode cX9_takeLetters 86 = .ok (.istore 4, 2) := by decide +kernel
theorem dX9_takeLetters_88 : decode cX9_takeLetters 88 = .ok (.iload 4, 2) := by decide +kernel
theorem dX9_takeLetters_90 : decode cX9_takeLetters 90 = .ok (.ifCond .eq 36, 3) := by decide +kernel
theorem dX9_takeLetters_93 : decode cX9_takeLetters 93 = .ok (.aload_n 0, 1) := by decide +kernel
theorem dX9_takeLetters_94 : decode cX9_takeLetters 94 = .ok (.getfield 33, 3) := by decide +kernel
theorem dX9_takeLetters_97 : decode cX9_takeLetters 97 = .ok (.aload_n 0, 1) := by decide +kernel
theorem dX9_takeLetters_98 : decode cX9_takeLetters 98 = .ok (.getfield 29, 3) := by decide +kernel
theorem dX9_takeLetters_101 : decode cX9_takeLetters 101 = .ok (.if_icmp .ge 25, 3) := by decide +kernel
theorem dX9_takeLetters_104 : decode cX9_takeLetters 104 = .ok (.aload_n 0, 1) := by decide +kernel
theorem dX9_takeLetters_105 : decode cX9_takeLetters 105 = .ok (.getfield 24, 3) := by decide +kernel
theorem dX9_takeLetters_108 : decode cX9_takeLetters 108 = .ok (.aload_n 0, 1) := by decide +kernel
theorem dX9_takeLetters_109 : decode cX9_takeLetters 109 = .ok (.getfield 33, 3) := by decide +kernel
theorem dX9_takeLetters_112 : decode cX9_takeLetters 112 = .ok (.caload, 1) := by decide +kernel
theorem dX9_takeLetters_113 : decode cX9_takeLetters 113 = .ok (.invokestatic 43, 3) := by decide +kernel
theorem dX9_takeLetters_116 : decode cX9_takeLetters 116 = .ok (.ifCond .eq 10, 3) := by decide +kernel
theorem dX9_takeLetters_119 : decode cX9_takeLetters 119 = .ok (.aload_n 0, 1) := by decide +kernel
theorem dX9_takeLetters_120 : decode cX9_takeLetters 120 = .ok (.invokevirtual 62, 3) := by decide +kernel
theorem dX9_takeLetters_123 : decode cX9_takeLetters 123 = .ok (.goto 26, 3) := by decide +kernel
theorem dX9_takeLetters_126 : decode cX9_takeLetters 126 = .ok (.aload_n 0, 1) := by decide +kernel
theorem dX9_takeLetters_127 : decode cX9_takeLetters 127 = .ok (.aload_n 0, 1) := by decide +kernel
theorem dX9_takeLetters_128 : decode cX9_takeLetters 128 = .ok (.getfield 33, 3) := by decide +kernel
theorem dX9_takeLetters_131 : decode cX9_takeLetters 131 = .ok (.iload_n 1, 1) := by decide +kernel
theorem dX9_takeLetters_132 : decode cX9_takeLetters 132 = .ok (.isub, 1) := by decide +kernel
theorem dX9_takeLetters_133 : decode cX9_takeLetters 133 = .ok (.bipush 8, 2) := by decide +kernel
theorem dX9_takeLetters_135 : decode cX9_takeLetters 135 = .ok (.if_icmp .le 8, 3) := by decide +kernel
theorem dX9_takeLetters_138 : decode cX9_takeLetters 138 = .ok (.bipush 63, 2) := by decide +kernel
theorem dX9_takeLetters_140 : decode cX9_takeLetters 140 = .ok (.goto 5, 3) := by decide +kernel
theorem dX9_takeLetters_143 : decode cX9_takeLetters 143 = .ok (.bipush 97, 2) := by decide +kernel
theorem dX9_takeLetters_145 : decode cX9_takeLetters 145 = .ok (.lload_n 2, 1) := by decide +kernel
theorem dX9_takeLetters_146 : decode cX9_takeLetters 146 = .ok (.invokevirtual 54, 3) := by decide +kernel
theorem dX9_takeLetters_149 : decode cX9_takeLetters 149 = .ok (.return_, 1) := by decide +kernel
theorem dX9_takeRegister_0 : decode cX9_takeRegister 0 = .ok (.aload_n 0, 1) := by decide +kernel
theorem dX9_takeRegister_1 : decode cX9_takeRegister 1 = .ok (.getfield 33, 3) := by decide +kernel
theorem dX9_takeRegister_4 : decode cX9_takeRegister 4 = .ok (.istore_n 1, 1) := by decide +kernel
theorem dX9_takeRegister_5 : decode cX9_takeRegister 5 = .ok (.aload_n 0, 1) := by decide +kernel
theorem dX9_takeRegister_6 : decode cX9_takeRegister 6 = .ok (.invokevirtual 65, 3) := by decide +kernel
theorem dX9_takeRegister_9 : decode cX9_takeRegister 9 = .ok (.lstore_n 2, 1) := by decide +kernel
theorem dX9_takeRegister_10 : decode cX9_takeRegister 10 = .ok (.aload_n 0, 1) := by decide +kernel
theorem dX9_takeRegister_11 : decode cX9_takeRegister 11 = .ok (.aload_n 0, 1) := by decide +kernel
theorem dX9_takeRegister_12 : decode cX9_takeRegister 12 = .ok (.getfield 33, 3) := by decide +kernel
theorem dX9_takeRegister_15 : decode cX9_takeRegister 15 = .ok (.iload_n 1, 1) := by decide +kernel
theorem dX9_takeRegister_16 : decode cX9_takeRegister 16 = .ok (.isub, 1) := by decide +kernel
theorem dX9_takeRegister_17 : decode cX9_takeRegister 17 = .ok (.iconst 2, 1) := by decide +kernel
theorem dX9_takeRegister_18 : decode cX9_takeRegister 18 = .ok (.if_icmp .gt 11, 3) := by decide +kernel
theorem dX9_takeRegister_21 : decode cX9_takeRegister 21 = .ok (.lload_n 2, 1) := by decide +kernel
theorem dX9_takeRegister_22 : decode cX9_takeRegister 22 = .ok (.ldc2_w 69, 3) := by decide +kernel
theorem dX9_takeRegister_25 : decode cX9_takeRegister 25 = .ok (.lcmp, 1) := by decide +kernel
theorem dX9_takeRegister_26 : decode cX9_takeRegister 26 = .ok (.ifCond .lt 8, 3) := by decide +kernel
theorem dX9_takeRegister_29 : decode cX9_takeRegister 29 = .ok (.bipush 63, 2) := by decide +kernel
theorem dX9_takeRegister_31 : decode cX9_takeRegister 31 = .ok (.goto 5, 3) := by decide +kernel
theorem dX9_takeRegister_34 : decode cX9_takeRegister 34 = .ok (.bipush 120, 2) := by decide +kernel
theorem dX9_takeRegister_36 : decode cX9_takeRegister 36 = .ok (.lload_n 2, 1) := by decide +kernel
theorem dX9_takeRegister_37 : decode cX9_takeRegister 37 = .ok (.invokevirtual 54, 3) := by decide +kernel
theorem dX9_takeRegister_40 : decode cX9_takeRegister 40 = .ok (.return_, 1) := by decide +kernel
theorem dX9_takeNumber_0 : decode cX9_takeNumber 0 = .ok (.iload_n 1, 1) := by decide +kernel
theorem dX9_takeNumber_1 : decode cX9_takeNumber 1 = .ok (.ifCond .eq 13, 3) := by decide +kernel
theorem dX9_takeNumber_4 : decode cX9_takeNumber 4 = .ok (.aload_n 0, 1) := by decide +kernel
theorem dX9_takeNumber_5 : decode cX9_takeNumber 5 = .ok (.dup, 1) := by decide +kernel
theorem dX9_takeNumber_6 : decode cX9_takeNumber 6 = .ok (.getfield 33, 3) := by decide +kernel
theorem dX9_takeNumber_9 : decode cX9_takeNumber 9 = .ok (.iconst 1, 1) := by decide +kernel
theorem dX9_takeNumber_10 : decode cX9_takeNumber 10 = .ok (.iadd, 1) := by decide +kernel
theorem dX9_takeNumber_11 : decode cX9_takeNumber 11 = .ok (.putfield 33, 3) := by decide +kernel
theorem dX9_takeNumber_14 : decode cX9_takeNumber 14 = .ok (.aload_n 0, 1) := by decide +kernel
theorem dX9_takeNumber_15 : decode cX9_takeNumber 15 = .ok (.getfield 33, 3) := by decide +kernel
theorem dX9_takeNumber_18 : decode cX9_takeNumber 18 = .ok (.istore_n 2, 1) := by decide +kernel
theorem dX9_takeNumber_19 : decode cX9_takeNumber 19 = .ok (.aload_n 0, 1) := by decide +kernel
theorem dX9_takeNumber_20 : decode cX9_takeNumber 20 = .ok (.invokevirtual 65, 3) := by decide +kernel
theorem dX9_takeNumber_23 : decode cX9_takeNumber 23 = .ok (.lstore_n 3, 1) := by decide +kernel
theorem dX9_takeNumber_24 : decode cX9_takeNumber 24 = .ok (.aload_n 0, 1) := by decide +kernel
theorem dX9_takeNumber_25 : decode cX9_takeNumber 25 = .ok (.aload_n 0, 1) := by decide +kernel
theorem dX9_takeNumber_26 : decode cX9_takeNumber 26 = .ok (.getfield 33, 3) := by decide +kernel
theorem dX9_takeNumber_29 : decode cX9_takeNumber 29 = .ok (.iload_n 2, 1) := by decide +kernel
theorem dX9_takeNumber_30 : decode cX9_takeNumber 30 = .ok (.if_icmp .ne 8, 3) := by decide +kernel
theorem dX9_takeNumber_33 : decode cX9_takeNumber 33 = .ok (.bipush 63, 2) := by decide +kernel
theorem dX9_takeNumber_35 : decode cX9_takeNumber 35 = .ok (.goto 5, 3) := by decide +kernel
theorem dX9_takeNumber_38 : decode cX9_takeNumber 38 = .ok (.bipush 48, 2) := by decide +kernel
theorem dX9_takeNumber_40 : decode cX9_takeNumber 40 = .ok (.iload_n 1, 1) := by decide +kernel
theorem dX9_takeNumber_41 : decode cX9_takeNumber 41 = .ok (.ifCond .eq 8, 3) := by decide +kernel
theorem dX9_takeNumber_44 : decode cX9_takeNumber 44 = .ok (.lload_n 3, 1) := by decide +kernel
theorem dX9_takeNumber_45 : decode cX9_takeNumber 45 = .ok (.lneg, 1) := by decide +kernel
theorem dX9_takeNumber_46 : decode cX9_takeNumber 46 = .ok (.goto 4, 3) := by decide +kernel
theorem dX9_takeNumber_49 : decode cX9_takeNumber 49 = .ok (.lload_n 3, 1) := by decide +kernel
theorem dX9_takeNumber_50 : decode cX9_takeNumber 50 = .ok (.invokevirtual 54, 3) := by decide +kernel
theorem dX9_takeNumber_53 : decode cX9_takeNumber 53 = .ok (.return_, 1) := by decide +kernel
theorem dX9_takeDigits_0 : decode cX9_takeDigits 0 = .ok (.aload_n 0, 1) := by decide +kernel
theorem dX9_takeDigits_1 : decode cX9_takeDigits 1 = .ok (.getfield 33, 3) := by decide +kernel
theorem dX9_takeDigits_4 : decode cX9_takeDigits 4 = .ok (.istore_n 1, 1) := by decide +kernel
theorem dX9_takeDigits_5 : decode cX9_takeDigits 5 = .ok (.lconst 0, 1) := by decide +kernel
theorem dX9_takeDigits_6 : decode cX9_takeDigits 6 = .ok (.lstore_n 2, 1) := by decide +kernel
theorem dX9_takeDigits_7 : decode cX9_takeDigits 7 = .ok (.aload_n 0, 1) := by decide +kernel
theorem dX9_takeDigits_8 : decode cX9_takeDigits 8 = .ok (.getfield 33, 3) := by decide +kernel
theorem dX9_takeDigits_11 : decode cX9_takeDigits 11 = .ok (.aload_n 0, 1) := by decide +kernel
theorem dX9_takeDigits_12 : decode cX9_takeDigits 12 = .ok (.getfield 29, 3) := by decide +kernel
theorem dX9_takeDigits_15 : decode cX9_takeDigits 15 = .ok (.if_icmp .ge 68, 3) := by decide +kernel
theorem dX9_takeDigits_18 : decode cX9_takeDigits 18 = .ok (.aload_n 0, 1) := by decide +kernel
theorem dX9_takeDigits_19 : decode cX9_takeDigits 19 = .ok (.getfield 24, 3) := by decide +kernel
theorem dX9_takeDigits_22 : decode cX9_takeDigits 22 = .ok (.aload_n 0, 1) := by decide +kernel
theorem dX9_takeDigits_23 : decode cX9_takeDigits 23 = .ok (.getfield 33, 3) := by decide +kernel
theorem dX9_takeDigits_26 : decode cX9_takeDigits 26 = .ok (.caload, 1) := by decide +kernel
theorem dX9_takeDigits_27 : decode cX9_takeDigits 27 = .ok (.invokestatic 43, 3) := by decide +kernel
theorem dX9_takeDigits_30 : decode cX9_takeDigits 30 = .ok (.ifCond .eq 53, 3) := by decide +kernel
theorem dX9_takeDigits_33 : decode cX9_takeDigits 33 = .ok (.aload_n 0, 1) := by decide +kernel
theorem dX9_takeDigits_34 : decode cX9_takeDigits 34 = .ok (.getfield 33, 3) := by decide +kernel
theorem dX9_takeDigits_37 : decode cX9_takeDigits 37 = .ok (.iload_n 1, 1) := by decide +kernel
theorem dX9_takeDigits_38 : decode cX9_takeDigits 38 = .ok (.isub, 1) := by decide +kernel
theorem dX9_takeDigits_39 : decode cX9_takeDigits 39 = .ok (.bipush 10, 2) := by decide +kernel
theorem dX9_takeDigits_41 : decode cX9_takeDigits 41 = .ok (.if_icmp .ge 25, 3) := by decide +kernel
theorem dX9_takeDigits_44 : decode cX9_takeDigits 44 = .ok (.lload_n 2, 1) := by decide +kernel
theorem dX9_takeDigits_45 : decode cX9_takeDigits 45 = .ok (.ldc2_w 71, 3) := by decide +kernel
theorem dX9_takeDigits_48 : decode cX9_takeDigits 48 = .ok (.lmul, 1) := by decide +kernel
theorem dX9_takeDigits_49 : decode cX9_takeDigits 49 = .ok (.aload_n 0, 1) := by decide +kernel
theorem dX9_takeDigits_50 : decode cX9_takeDigits 50 = .ok (.getfield 24, 3) := by decide +kernel
theorem dX9_takeDigits_53 : decode cX9_takeDigits 53 = .ok (.aload_n 0, 1) := by decide +kernel
theorem dX9_takeDigits_54 : decode cX9_takeDigits 54 = .ok (.getfield 33, 3) := by decide +kernel
theorem dX9_takeDigits_57 : decode cX9_takeDigits 57 = .ok (.caload, 1) := by decide +kernel
theorem dX9_takeDigits_58 : decode cX9_takeDigits 58 = .ok (.bipush 48, 2) := by decide +kernel
theorem dX9_takeDigits_60 : decode cX9_takeDigits 60 = .ok (.isub, 1) := by decide +kernel
theorem dX9_takeDigits_61 : decode cX9_takeDigits 61 = .ok (.i2l, 1) := by decide +kernel
theorem dX9_takeDigits_62 : decode cX9_takeDigits 62 = .ok (.ladd, 1) := by decide +kernel
theorem dX9_takeDigits_63 : decode cX9_takeDigits 63 = .ok (.goto 6, 3) := by decide +kernel
theorem dX9_takeDigits_66 : decode cX9_takeDigits 66 = .ok (.ldc2_w 73, 3) := by decide +kernel
theorem dX9_takeDigits_69 : decode cX9_takeDigits 69 = .ok (.lstore_n 2, 1) := by decide +kernel
theorem dX9_takeDigits_70 : decode cX9_takeDigits 70 = .ok (.aload_n 0, 1) := by decide +kernel
theorem dX9_takeDigits_71 : decode cX9_takeDigits 71 = .ok (.dup, 1) := by decide +kernel
theorem dX9_takeDigits_72 : decode cX9_takeDigits 72 = .ok (.getfield 33, 3) := by decide +kernel
theorem dX9_takeDigits_75 : decode cX9_takeDigits 75 = .ok (.iconst 1, 1) := by decide +kernel
theorem dX9_takeDigits_76 : decode cX9_takeDigits 76 = .ok (.iadd, 1) := by decide +kernel
theorem dX9_takeDigits_77 : decode cX9_takeDigits 77 = .ok (.putfield 33, 3) := by decide +kernel
theorem dX9_takeDigits_80 : decode cX9_takeDigits 80 = .ok (.goto (-73), 3) := by decide +kernel
theorem dX9_takeDigits_83 : decode cX9_takeDigits 83 = .ok (.lload_n 2, 1) := by decide +kernel
theorem dX9_takeDigits_84 : decode cX9_takeDigits 84 = .ok (.lreturn, 1) := by decide +kernel
theorem dX9_add_0 : decode cX9_add 0 = .ok (.aload_n 0, 1) := by decide +kernel
theorem dX9_add_1 : decode cX9_add 1 = .ok (.getfield 30, 3) := by decide +kernel
theorem dX9_add_4 : decode cX9_add 4 = .ok (.aload_n 0, 1) := by decide +kernel
theorem dX9_add_5 : decode cX9_add 5 = .ok (.getfield 9, 3) := by decide +kernel
theorem dX9_add_8 : decode cX9_add 8 = .ok (.arraylength, 1) := by decide +kernel
theorem dX9_add_9 : decode cX9_add 9 = .ok (.if_icmp .ge 33, 3) := by decide +kernel
theorem dX9_add_12 : decode cX9_add 12 = .ok (.aload_n 0, 1) := by decide +kernel
theorem dX9_add_13 : decode cX9_add 13 = .ok (.getfield 9, 3) := by decide +kernel
theorem dX9_add_16 : decode cX9_add 16 = .ok (.aload_n 0, 1) := by decide +kernel
theorem dX9_add_17 : decode cX9_add 17 = .ok (.getfield 30, 3) := by decide +kernel
theorem dX9_add_20 : decode cX9_add 20 = .ok (.iload_n 1, 1) := by decide +kernel
theorem dX9_add_21 : decode cX9_add 21 = .ok (.castore, 1) := by decide +kernel
theorem dX9_add_22 : decode cX9_add 22 = .ok (.aload_n 0, 1) := by decide +kernel
theorem dX9_add_23 : decode cX9_add 23 = .ok (.getfield 15, 3) := by decide +kernel
theorem dX9_add_26 : decode cX9_add 26 = .ok (.aload_n 0, 1) := by decide +kernel
theorem dX9_add_27 : decode cX9_add 27 = .ok (.getfield 30, 3) := by decide +kernel
theorem dX9_add_30 : decode cX9_add 30 = .ok (.lload_n 2, 1) := by decide +kernel
theorem dX9_add_31 : decode cX9_add 31 = .ok (.lastore, 1) := by decide +kernel
theorem dX9_add_32 : decode cX9_add 32 = .ok (.aload_n 0, 1) := by decide +kernel
theorem dX9_add_33 : decode cX9_add 33 = .ok (.dup, 1) := by decide +kernel
theorem dX9_add_34 : decode cX9_add 34 = .ok (.getfield 30, 3) := by decide +kernel
theorem dX9_add_37 : decode cX9_add 37 = .ok (.iconst 1, 1) := by decide +kernel
theorem dX9_add_38 : decode cX9_add 38 = .ok (.iadd, 1) := by decide +kernel
theorem dX9_add_39 : decode cX9_add 39 = .ok (.putfield 30, 3) := by decide +kernel
theorem dX9_add_42 : decode cX9_add 42 = .ok (.return_, 1) := by decide +kernel
theorem dX9_isLetter_0 : decode cX9_isLetter 0 = .ok (.iload_n 0, 1) := by decide +kernel
theorem dX9_isLetter_1 : decode cX9_isLetter 1 = .ok (.bipush 97, 2) := by decide +kernel
theorem dX9_isLetter_3 : decode cX9_isLetter 3 = .ok (.if_icmp .lt 13, 3) := by decide +kernel
theorem dX9_isLetter_6 : decode cX9_isLetter 6 = .ok (.iload_n 0, 1) := by decide +kernel
theorem dX9_isLetter_7 : decode cX9_isLetter 7 = .ok (.bipush 122, 2) := by decide +kernel
theorem dX9_isLetter_9 : decode cX9_isLetter 9 = .ok (.if_icmp .gt 7, 3) := by decide +kernel
theorem dX9_isLetter_12 : decode cX9_isLetter 12 = .ok (.iconst 1, 1) := by decide +kernel
theorem dX9_isLetter_13 : decode cX9_isLetter 13 = .ok (.goto 4, 3) := by decide +kernel
theorem dX9_isLetter_16 : decode cX9_isLetter 16 = .ok (.iconst 0, 1) := by decide +kernel
theorem dX9_isLetter_17 : decode cX9_isLetter 17 = .ok (.ireturn, 1) := by decide +kernel
theorem dX9_isDigit_0 : decode cX9_isDigit 0 = .ok (.iload_n 0, 1) := by decide +kernel
theorem dX9_isDigit_1 : decode cX9_isDigit 1 = .ok (.bipush 48, 2) := by decide +kernel
theorem dX9_isDigit_3 : decode cX9_isDigit 3 = .ok (.if_icmp .lt 13, 3) := by decide +kernel
theorem dX9_isDigit_6 : decode cX9_isDigit 6 = .ok (.iload_n 0, 1) := by decide +kernel
theorem dX9_isDigit_7 : decode cX9_isDigit 7 = .ok (.bipush 57, 2) := by decide +kernel
theorem dX9_isDigit_9 : decode cX9_isDigit 9 = .ok (.if_icmp .gt 7, 3) := by decide +kernel
theorem dX9_isDigit_12 : decode cX9_isDigit 12 = .ok (.iconst 1, 1) := by decide +kernel
theorem dX9_isDigit_13 : decode cX9_isDigit 13 = .ok (.goto 4, 3) := by decide +kernel
theorem dX9_isDigit_16 : decode cX9_isDigit 16 = .ok (.iconst 0, 1) := by decide +kernel
theorem dX9_isDigit_17 : decode cX9_isDigit 17 = .ok (.ireturn, 1) := by decide +kernel
theorem dJ9_floorMod_7cf53_0 : decode cJ9_floorMod_7cf53 0 = .ok (.iload_n 0, 1) := by decide +kernel
theorem dJ9_floorMod_7cf53_1 : decode cJ9_floorMod_7cf53 1 = .ok (.iload_n 1, 1) := by decide +kernel
theorem dJ9_floorMod_7cf53_2 : decode cJ9_floorMod_7cf53 2 = .ok (.irem, 1) := by decide +kernel
theorem dJ9_floorMod_7cf53_3 : decode cJ9_floorMod_7cf53 3 = .ok (.istore_n 2, 1) := by decide +kernel
theorem dJ9_floorMod_7cf53_4 : decode cJ9_floorMod_7cf53 4 = .ok (.iload_n 0, 1) := by decide +kernel
theorem dJ9_floorMod_7cf53_5 : decode cJ9_floorMod_7cf53 5 = .ok (.iload_n 1, 1) := by decide +kernel
theorem dJ9_floorMod_7cf53_6 : decode cJ9_floorMod_7cf53 6 = .ok (.ixor, 1) := by decide +kernel
theorem dJ9_floorMod_7cf53_7 : decode cJ9_floorMod_7cf53 7 = .ok (.ifCond .ge 11, 3) := by decide +kernel
theorem dJ9_floorMod_7cf53_10 : decode cJ9_floorMod_7cf53 10 = .ok (.iload_n 2, 1) := by decide +kernel
theorem dJ9_floorMod_7cf53_11 : decode cJ9_floorMod_7cf53 11 = .ok (.ifCond .eq 7, 3) := by decide +kernel
theorem dJ9_floorMod_7cf53_14 : decode cJ9_floorMod_7cf53 14 = .ok (.iload_n 2, 1) := by decide +kernel
theorem dJ9_floorMod_7cf53_15 : decode cJ9_floorMod_7cf53 15 = .ok (.iload_n 1, 1) := by decide +kernel
theorem dJ9_floorMod_7cf53_16 : decode cJ9_floorMod_7cf53 16 = .ok (.iadd, 1) := by decide +kernel
theorem dJ9_floorMod_7cf53_17 : decode cJ9_floorMod_7cf53 17 = .ok (.ireturn, 1) := by decide +kernel
theorem dJ9_floorMod_7cf53_18 : decode cJ9_floorMod_7cf53 18 = .ok (.iload_n 2, 1) := by decide +kernel
theorem dJ9_floorMod_7cf53_19 : decode cJ9_floorMod_7cf53 19 = .ok (.ireturn, 1) := by decide +kernel
theorem dJ9_max_7cf53_0 : decode cJ9_max_7cf53 0 = .ok (.iload_n 0, 1) := by decide +kernel
theorem dJ9_max_7cf53_1 : decode cJ9_max_7cf53 1 = .ok (.iload_n 1, 1) := by decide +kernel
theorem dJ9_max_7cf53_2 : decode cJ9_max_7cf53 2 = .ok (.if_icmp .lt 7, 3) := by decide +kernel
theorem dJ9_max_7cf53_5 : decode cJ9_max_7cf53 5 = .ok (.iload_n 0, 1) := by decide +kernel
theorem dJ9_max_7cf53_6 : decode cJ9_max_7cf53 6 = .ok (.goto 4, 3) := by decide +kernel
theorem dJ9_max_7cf53_9 : decode cJ9_max_7cf53 9 = .ok (.iload_n 1, 1) := by decide +kernel
theorem dJ9_max_7cf53_10 : decode cJ9_max_7cf53 10 = .ok (.ireturn, 1) := by decide +kernel
theorem dJ9_max_f86c9_0 : decode cJ9_max_f86c9 0 = .ok (.lload_n 0, 1) := by decide +kernel
theorem dJ9_max_f86c9_1 : decode cJ9_max_f86c9 1 = .ok (.lload_n 2, 1) := by decide +kernel
theorem dJ9_max_f86c9_2 : decode cJ9_max_f86c9 2 = .ok (.lcmp, 1) := by decide +kernel
theorem dJ9_max_f86c9_3 : decode cJ9_max_f86c9 3 = .ok (.ifCond .lt 7, 3) := by decide +kernel
theorem dJ9_max_f86c9_6 : decode cJ9_max_f86c9 6 = .ok (.lload_n 0, 1) := by decide +kernel
theorem dJ9_max_f86c9_7 : decode cJ9_max_f86c9 7 = .ok (.goto 4, 3) := by decide +kernel
theorem dJ9_max_f86c9_10 : decode cJ9_max_f86c9 10 = .ok (.lload_n 2, 1) := by decide +kernel
theorem dJ9_max_f86c9_11 : decode cJ9_max_f86c9 11 = .ok (.lreturn, 1) := by decide +kernel
theorem dJ9_min_7cf53_0 : decode cJ9_min_7cf53 0 = .ok (.iload_n 0, 1) := by decide +kernel
theorem dJ9_min_7cf53_1 : decode cJ9_min_7cf53 1 = .ok (.iload_n 1, 1) := by decide +kernel
theorem dJ9_min_7cf53_2 : decode cJ9_min_7cf53 2 = .ok (.if_icmp .gt 7, 3) := by decide +kernel
theorem dJ9_min_7cf53_5 : decode cJ9_min_7cf53 5 = .ok (.iload_n 0, 1) := by decide +kernel
theorem dJ9_min_7cf53_6 : decode cJ9_min_7cf53 6 = .ok (.goto 4, 3) := by decide +kernel
theorem dJ9_min_7cf53_9 : decode cJ9_min_7cf53 9 = .ok (.iload_n 1, 1) := by decide +kernel
theorem dJ9_min_7cf53_10 : decode cJ9_min_7cf53 10 = .ok (.ireturn, 1) := by decide +kernel
theorem dJ9_min_f86c9_0 : decode cJ9_min_f86c9 0 = .ok (.lload_n 0, 1) := by decide +kernel
theorem dJ9_min_f86c9_1 : decode cJ9_min_f86c9 1 = .ok (.lload_n 2, 1) := by decide +kernel
theorem dJ9_min_f86c9_2 : decode cJ9_min_f86c9 2 = .ok (.lcmp, 1) := by decide +kernel
theorem dJ9_min_f86c9_3 : decode cJ9_min_f86c9 3 = .ok (.ifCond .gt 7, 3) := by decide +kernel
theorem dJ9_min_f86c9_6 : decode cJ9_min_f86c9 6 = .ok (.lload_n 0, 1) := by decide +kernel
theorem dJ9_min_f86c9_7 : decode cJ9_min_f86c9 7 = .ok (.goto 4, 3) := by decide +kernel
theorem dJ9_min_f86c9_10 : decode cJ9_min_f86c9 10 = .ok (.lload_n 2, 1) := by decide +kernel
theorem dJ9_min_f86c9_11 : decode cJ9_min_f86c9 11 = .ok (.lreturn, 1) := by decide +kernel
theorem dJ0_length_8abf5_0 : decode cJ0_length_8abf5 0 = .ok (.aload_n 0, 1) := by decide +kernel
theorem dJ0_length_8abf5_1 : decode cJ0_length_8abf5 1 = .ok (.getfield 9, 3) := by decide +kernel
theorem dJ0_length_8abf5_4 : decode cJ0_length_8abf5 4 = .ok (.arraylength, 1) := by decide +kernel
theorem dJ0_length_8abf5_5 : decode cJ0_length_8abf5 5 = .ok (.aload_n 0, 1) := by decide +kernel
theorem dJ0_length_8abf5_6 : decode cJ0_length_8abf5 6 = .ok (.invokevirtual 335, 3) := by decide +kernel
theorem dJ0_length_8abf5_9 : decode cJ0_length_8abf5 9 = .ok (.ishr, 1) := by decide +kernel
theorem dJ0_length_8abf5_10 : decode cJ0_length_8abf5 10 = .ok (.ireturn, 1) := by decide +kernel
theorem dJ0_charAt_5068e_0 : decode cJ0_charAt_5068e 0 = .ok (.aload_n 0, 1) := by decide +kernel
theorem dJ0_charAt_5068e_1 : decode cJ0_charAt_5068e 1 = .ok (.invokevirtual 492, 3) := by decide +kernel
theorem dJ0_charAt_5068e_4 : decode cJ0_charAt_5068e 4 = .ok (.ifCond .eq 12, 3) := by decide +kernel
theorem dJ0_charAt_5068e_7 : decode cJ0_charAt_5068e 7 = .ok (.aload_n 0, 1) := by decide +kernel
theorem dJ0_charAt_5068e_8 : decode cJ0_charAt_5068e 8 = .ok (.getfield 9, 3) := by decide +kernel
theorem dJ0_charAt_5068e_11 : decode cJ0_charAt_5068e 11 = .ok (.iload_n 1, 1) := by decide +kernel
theorem dJ0_charAt_5068e_12 : decode cJ0_charAt_5068e 12 = .ok (.invokestatic 495, 3) := by decide +kernel
theorem dJ0_charAt_5068e_15 : decode cJ0_charAt_5068e 15 = .ok (.ireturn, 1) := by decide +kernel
theorem dJ0_charAt_5068e_16 : decode cJ0_charAt_5068e 16 = .ok (.aload_n 0, 1) := by decide +kernel
theorem dJ0_charAt_5068e_17 : decode cJ0_charAt_5068e 17 = .ok (.getfield 9, 3) := by decide +kernel
theorem dJ0_charAt_5068e_20 : decode cJ0_charAt_5068e 20 = .ok (.iload_n 1, 1) := by decide +kernel
theorem dJ0_charAt_5068e_21 : decode cJ0_charAt_5068e 21 = .ok (.invokestatic 498, 3) := by decide +kernel
theorem dJ0_charAt_5068e_24 : decode cJ0_charAt_5068e 24 = .ok (.ireturn, 1) := by decide +kernel
theorem dJ0_coder_7d493_0 : decode cJ0_coder_7d493 0 = .ok (.getstatic 38, 3) := by decide +kernel
theorem dJ0_coder_7d493_3 : decode cJ0_coder_7d493 3 = .ok (.ifCond .eq 10, 3) := by decide +kernel
theorem dJ0_coder_7d493_6 : decode cJ0_coder_7d493 6 = .ok (.aload_n 0, 1) := by decide +kernel
theorem dJ0_coder_7d493_7 : decode cJ0_coder_7d493 7 = .ok (.getfield 15, 3) := by decide +kernel
theorem dJ0_coder_7d493_10 : decode cJ0_coder_7d493 10 = .ok (.goto 4, 3) := by decide +kernel
theorem dJ0_coder_7d493_13 : decode cJ0_coder_7d493 13 = .ok (.iconst 1, 1) := by decide +kernel
theorem dJ0_coder_7d493_14 : decode cJ0_coder_7d493 14 = .ok (.ireturn, 1) := by decide +kernel
theorem dJ0_isLatin1_aae02_0 : decode cJ0_isLatin1_aae02 0 = .ok (.getstatic 38, 3) := by decide +kernel
theorem dJ0_isLatin1_aae02_3 : decode cJ0_isLatin1_aae02 3 = .ok (.ifCond .eq 14, 3) := by decide +kernel
theorem dJ0_isLatin1_aae02_6 : decode cJ0_isLatin1_aae02 6 = .ok (.aload_n 0, 1) := by decide +kernel
theorem dJ0_isLatin1_aae02_7 : decode cJ0_isLatin1_aae02 7 = .ok (.getfield 15, 3) := by decide +kernel
theorem dJ0_isLatin1_aae02_10 : decode cJ0_isLatin1_aae02 10 = .ok (.ifCond .ne 7, 3) := by decide +kernel
theorem dJ0_isLatin1_aae02_13 : decode cJ0_isLatin1_aae02 13 = .ok (.iconst 1, 1) := by decide +kernel
theorem dJ0_isLatin1_aae02_14 : decode cJ0_isLatin1_aae02 14 = .ok (.goto 4, 3) := by decide +kernel
theorem dJ0_isLatin1_aae02_17 : decode cJ0_isLatin1_aae02 17 = .ok (.iconst 0, 1) := by decide +kernel
theorem dJ0_isLatin1_aae02_18 : decode cJ0_isLatin1_aae02 18 = .ok (.ireturn, 1) := by decide +kernel
theorem dJ0_checkIndex_df160_0 : decode cJ0_checkIndex_df160 0 = .ok (.iload_n 0, 1) := by decide +kernel
theorem dJ0_checkIndex_df160_1 : decode cJ0_checkIndex_df160 1 = .ok (.iload_n 1, 1) := by decide +kernel
theorem dJ0_checkIndex_df160_2 : decode cJ0_checkIndex_df160 2 = .ok (.getstatic 1053, 3) := by decide +kernel
theorem dJ0_checkIndex_df160_5 : decode cJ0_checkIndex_df160 5 = .ok (.invokestatic 1059, 3) := by decide +kernel
theorem dJ0_checkIndex_df160_8 : decode cJ0_checkIndex_df160 8 = .ok (.pop, 1) := by decide +kernel
theorem dJ0_checkIndex_df160_9 : decode cJ0_checkIndex_df160 9 = .ok (.return_, 1) := by decide +kernel
theorem dJ1_charAt_3b067_0 : decode cJ1_charAt_3b067 0 = .ok (.iload_n 1, 1) := by decide +kernel
theorem dJ1_charAt_3b067_1 : decode cJ1_charAt_3b067 1 = .ok (.aload_n 0, 1) := by decide +kernel
theorem dJ1_charAt_3b067_2 : decode cJ1_charAt_3b067 2 = .ok (.arraylength, 1) := by decide +kernel
theorem dJ1_charAt_3b067_3 : decode cJ1_charAt_3b067 3 = .ok (.invokestatic 9, 3) := by decide +kernel
theorem dJ1_charAt_3b067_6 : decode cJ1_charAt_3b067 6 = .ok (.aload_n 0, 1) := by decide +kernel
theorem dJ1_charAt_3b067_7 : decode cJ1_charAt_3b067 7 = .ok (.iload_n 1, 1) := by decide +kernel
theorem dJ1_charAt_3b067_8 : decode cJ1_charAt_3b067 8 = .ok (.baload, 1) := by decide +kernel
theorem dJ1_charAt_3b067_9 : decode cJ1_charAt_3b067 9 = .ok (.sipush 255, 3) := by decide +kernel
theorem dJ1_charAt_3b067_12 : decode cJ1_charAt_3b067 12 = .ok (.iand, 1) := by decide +kernel
theorem dJ1_charAt_3b067_13 : decode cJ1_charAt_3b067 13 = .ok (.i2c, 1) := by decide +kernel
theorem dJ1_charAt_3b067_14 : decode cJ1_charAt_3b067 14 = .ok (.ireturn, 1) := by decide +kernel
theorem dJ2_getChar_3b067_0 : decode cJ2_getChar_3b067 0 = .ok (.getstatic 44, 3) := by decide +kernel
theorem dJ2_getChar_3b067_3 : decode cJ2_getChar_3b067 3 = .ok (.ifCond .ne 25, 3) := by decide +kernel
theorem dJ2_getChar_3b067_6 : decode cJ2_getChar_3b067 6 = .ok (.iload_n 1, 1) := by decide +kernel
theorem dJ2_getChar_3b067_7 : decode cJ2_getChar_3b067 7 = .ok (.ifCond .lt 11, 3) := by decide +kernel
theorem dJ2_getChar_3b067_10 : decode cJ2_getChar_3b067 10 = .ok (.iload_n 1, 1) := by decide +kernel
theorem dJ2_getChar_3b067_11 : decode cJ2_getChar_3b067 11 = .ok (.aload_n 0, 1) := by decide +kernel
theorem dJ2_getChar_3b067_12 : decode cJ2_getChar_3b067 12 = .ok (.invokestatic 48, 3) := by decide +kernel
theorem dJ2_getChar_3b067_15 : decode cJ2_getChar_3b067 15 = .ok (.if_icmp .lt 13, 3) := by decide +kernel
theorem dJ2_getChar_3b067_18 : decode cJ2_getChar_3b067 18 = .ok (.new 52, 3) := by decide +kernel
theorem dJ2_getChar_3b067_21 : decode cJ2_getChar_3b067 21 = .ok (.dup, 1) := by decide +kernel
theorem dJ2_getChar_3b067_22 : decode cJ2_getChar_3b067 22 = .ok (.ldc 54, 2) := by decide +kernel
theorem dJ2_getChar_3b067_24 : decode cJ2_getChar_3b067 24 = .ok (.invokespecial 56, 3) := by decide +kernel
theorem dJ2_getChar_3b067_27 : decode cJ2_getChar_3b067 27 = .ok (.athrow, 1) := by decide +kernel
theorem dJ2_getChar_3b067_28 : decode cJ2_getChar_3b067 28 = .ok (.iload_n 1, 1) := by decide +kernel
theorem dJ2_getChar_3b067_29 : decode cJ2_getChar_3b067 29 = .ok (.iconst 1, 1) := by decide +kernel
theorem dJ2_getChar_3b067_30 : decode cJ2_getChar_3b067 30 = .ok (.ishl, 1) := by decide +kernel
theorem dJ2_getChar_3b067_31 : decode cJ2_getChar_3b067 31 = .ok (.istore_n 1, 1) := by decide +kernel
theorem dJ2_getChar_3b067_32 : decode cJ2_getChar_3b067 32 = .ok (.aload_n 0, 1) := by decide +kernel
theorem dJ2_getChar_3b067_33 : decode cJ2_getChar_3b067 33 = .ok (.iload_n 1, 1) := by decide +kernel
theorem dJ2_getChar_3b067_34 : decode cJ2_getChar_3b067 34 = .ok (.iinc 1 1, 3) := by decide +kernel
theorem dJ2_getChar_3b067_37 : decode cJ2_getChar_3b067 37 = .ok (.baload, 1) := by decide +kernel
theorem dJ2_getChar_3b067_38 : decode cJ2_getChar_3b067 38 = .ok (.sipush 255, 3) := by decide +kernel
theorem dJ2_getChar_3b067_41 : decode cJ2_getChar_3b067 41 = .ok (.iand, 1) := by decide +kernel
theorem dJ2_getChar_3b067_42 : decode cJ2_getChar_3b067 42 = .ok (.getstatic 59, 3) := by decide +kernel
theorem dJ2_getChar_3b067_45 : decode cJ2_getChar_3b067 45 = .ok (.ishl, 1) := by decide +kernel
theorem dJ2_getChar_3b067_46 : decode cJ2_getChar_3b067 46 = .ok (.aload_n 0, 1) := by decide +kernel
theorem dJ2_getChar_3b067_47 : decode cJ2_getChar_3b067 47 = .ok (.iload_n 1, 1) := by decide +kernel
theorem dJ2_getChar_3b067_48 : decode cJ2_getChar_3b067 48 = .ok (.baload, 1) := by decide +kernel
theorem dJ2_getChar_3b067_49 : decode cJ2_getChar_3b067 49 = .ok (.sipush 255, 3) := by decide +kernel
theorem dJ2_getChar_3b067_52 : decode cJ2_getChar_3b067 52 = .ok (.iand, 1) := by decide +kernel
theorem dJ2_getChar_3b067_53 : decode cJ2_getChar_3b067 53 = .ok (.getstatic 63, 3) := by decide +kernel
theorem dJ2_getChar_3b067_56 : decode cJ2_getChar_3b067 56 = .ok (.ishl, 1) := by decide +kernel
theorem dJ2_getChar_3b067_57 : decode cJ2_getChar_3b067 57 = .ok (.ior, 1) := by decide +kernel
theorem dJ2_getChar_3b067_58 : decode cJ2_getChar_3b067 58 = .ok (.i2c, 1) := by decide +kernel
theorem dJ2_getChar_3b067_59 : decode cJ2_getChar_3b067 59 = .ok (.ireturn, 1) := by decide +kernel
theorem dJ2_length_9d52b_0 : decode cJ2_length_9d52b 0 = .ok (.aload_n 0, 1) := by decide +kernel
theorem dJ2_length_9d52b_1 : decode cJ2_length_9d52b 1 = .ok (.arraylength, 1) := by decide +kernel
theorem dJ2_length_9d52b_2 : decode cJ2_length_9d52b 2 = .ok (.iconst 1, 1) := by decide +kernel
theorem dJ2_length_9d52b_3 : decode cJ2_length_9d52b 3 = .ok (.ishr, 1) := by decide +kernel
theorem dJ2_length_9d52b_4 : decode cJ2_length_9d52b 4 = .ok (.ireturn, 1) := by decide +kernel
theorem dJ2_charAt_3b067_0 : decode cJ2_charAt_3b067 0 = .ok (.iload_n 1, 1) := by decide +kernel
theorem dJ2_charAt_3b067_1 : decode cJ2_charAt_3b067 1 = .ok (.aload_n 0, 1) := by decide +kernel
theorem dJ2_charAt_3b067_2 : decode cJ2_charAt_3b067 2 = .ok (.invokestatic 67, 3) := by decide +kernel
theorem dJ2_charAt_3b067_5 : decode cJ2_charAt_3b067 5 = .ok (.aload_n 0, 1) := by decide +kernel
theorem dJ2_charAt_3b067_6 : decode cJ2_charAt_3b067 6 = .ok (.iload_n 1, 1) := by decide +kernel
theorem dJ2_charAt_3b067_7 : decode cJ2_charAt_3b067 7 = .ok (.invokestatic 71, 3) := by decide +kernel
theorem dJ2_charAt_3b067_10 : decode cJ2_charAt_3b067 10 = .ok (.ireturn, 1) := by decide +kernel
theorem dJ2_checkIndex_2214a_0 : decode cJ2_checkIndex_2214a 0 = .ok (.iload_n 0, 1) := by decide +kernel
theorem dJ2_checkIndex_2214a_1 : decode cJ2_checkIndex_2214a 1 = .ok (.aload_n 1, 1) := by decide +kernel
theorem dJ2_checkIndex_2214a_2 : decode cJ2_checkIndex_2214a 2 = .ok (.invokestatic 48, 3) := by decide +kernel
theorem dJ2_checkIndex_2214a_5 : decode cJ2_checkIndex_2214a 5 = .ok (.invokestatic 414, 3) := by decide +kernel
theorem dJ2_checkIndex_2214a_8 : decode cJ2_checkIndex_2214a 8 = .ok (.return_, 1) := by decide +kernel
theorem dJ3_checkIndex_8e157_0 : decode cJ3_checkIndex_8e157 0 = .ok (.iload_n 0, 1) := by decide +kernel
theorem dJ3_checkIndex_8e157_1 : decode cJ3_checkIndex_8e157 1 = .ok (.ifCond .lt 8, 3) := by decide +kernel
theorem dJ3_checkIndex_8e157_4 : decode cJ3_checkIndex_8e157 4 = .ok (.iload_n 0, 1) := by decide +kernel
theorem dJ3_checkIndex_8e157_5 : decode cJ3_checkIndex_8e157 5 = .ok (.iload_n 1, 1) := by decide +kernel
theorem dJ3_checkIndex_8e157_6 : decode cJ3_checkIndex_8e157 6 = .ok (.if_icmp .lt 10, 3) := by decide +kernel
theorem dJ3_checkIndex_8e157_9 : decode cJ3_checkIndex_8e157 9 = .ok (.aload_n 2, 1) := by decide +kernel
theorem dJ3_checkIndex_8e157_10 : decode cJ3_checkIndex_8e157 10 = .ok (.iload_n 0, 1) := by decide +kernel
theorem dJ3_checkIndex_8e157_11 : decode cJ3_checkIndex_8e157 11 = .ok (.iload_n 1, 1) := by decide +kernel
theorem dJ3_checkIndex_8e157_12 : decode cJ3_checkIndex_8e157 12 = .ok (.invokestatic 95, 3) := by decide +kernel
theorem dJ3_checkIndex_8e157_15 : decode cJ3_checkIndex_8e157 15 = .ok (.athrow, 1) := by decide +kernel
theorem dJ3_checkIndex_8e157_16 : decode cJ3_checkIndex_8e157 16 = .ok (.iload_n 0, 1) := by decide +kernel
theorem dJ3_checkIndex_8e157_17 : decode cJ3_checkIndex_8e157 17 = .ok (.ireturn, 1) := by decide +kernel
theorem dL_cell_0 : decode cL_cell 0 = .ok (.iload_n 1, 1) := by decide +kernel
theorem dL_cell_1 : decode cL_cell 1 = .ok (.aload_n 0, 1) := by decide +kernel
theorem dL_cell_2 : decode cL_cell 2 = .ok (.arraylength, 1) := by decide +kernel
theorem dL_cell_3 : decode cL_cell 3 = .ok (.if_icmp .ge 9, 3) := by decide +kernel
theorem dL_cell_6 : decode cL_cell 6 = .ok (.aload_n 0, 1) := by decide +kernel
theorem dL_cell_7 : decode cL_cell 7 = .ok (.iload_n 1, 1) := by decide +kernel
theorem dL_cell_8 : decode cL_cell 8 = .ok (.iaload, 1) := by decide +kernel
theorem dL_cell_9 : decode cL_cell 9 = .ok (.goto 4, 3) := by decide +kernel
theorem dL_cell_12 : decode cL_cell 12 = .ok (.iconst 0, 1) := by decide +kernel
theorem dL_cell_13 : decode cL_cell 13 = .ok (.ireturn, 1) := by decide +kernel
theorem dL_type_0 : decode cL_type 0 = .ok (.aload 4, 2) := by decide +kernel
theorem dL_type_2 : decode cL_type 2 = .ok (.iconst 0, 1) := by decide +kernel
theorem dL_type_3 : decode cL_type 3 = .ok (.aload_n 0, 1) := by decide +kernel
theorem dL_type_4 : decode cL_type 4 = .ok (.lload_n 1, 1) := by decide +kernel
theorem dL_type_5 : decode cL_type 5 = .ok (.iload_n 3, 1) := by decide +kernel
theorem dL_type_6 : decode cL_type 6 = .ok (.invokevirtual 7, 3) := by decide +kernel
theorem dL_type_9 : decode cL_type 9 = .ok (.i2l, 1) := by decide +kernel
theorem dL_type_10 : decode cL_type 10 = .ok (.lastore, 1) := by decide +kernel
theorem dL_type_11 : decode cL_type 11 = .ok (.goto 11, 3) := by decide +kernel
theorem dL_type_14 : decode cL_type 14 = .ok (.astore 5, 2) := by decide +kernel
theorem dL_type_16 : decode cL_type 16 = .ok (.iconst 1, 1) := by decide +kernel
theorem dL_type_17 : decode cL_type 17 = .ok (.ireturn, 1) := by decide +kernel
theorem dL_type_18 : decode cL_type 18 = .ok (.astore 5, 2) := by decide +kernel
theorem dL_type_20 : decode cL_type 20 = .ok (.iconst 2, 1) := by decide +kernel
theorem dL_type_21 : decode cL_type 21 = .ok (.ireturn, 1) := by decide +kernel
theorem dL_type_22 : decode cL_type 22 = .ok (.iconst 0, 1) := by decide +kernel
theorem dL_type_23 : decode cL_type 23 = .ok (.ireturn, 1) := by decide +kernel
theorem dL_assemble_0 : decode cL_assemble 0 = .ok (.aload_n 3, 1) := by decide +kernel
theorem dL_assemble_1 : decode cL_assemble 1 = .ok (.iconst 0, 1) := by decide +kernel
theorem dL_assemble_2 : decode cL_assemble 2 = .ok (.aload_n 0, 1) := by decide +kernel
theorem dL_assemble_3 : decode cL_assemble 3 = .ok (.iload_n 1, 1) := by decide +kernel
theorem dL_assemble_4 : decode cL_assemble 4 = .ok (.iload_n 2, 1) := by decide +kernel
theorem dL_assemble_5 : decode cL_assemble 5 = .ok (.invokevirtual 17, 3) := by decide +kernel
theorem dL_assemble_8 : decode cL_assemble 8 = .ok (.i2l, 1) := by decide +kernel
theorem dL_assemble_9 : decode cL_assemble 9 = .ok (.lastore, 1) := by decide +kernel
theorem dL_assemble_10 : decode cL_assemble 10 = .ok (.goto 11, 3) := by decide +kernel
theorem dL_assemble_13 : decode cL_assemble 13 = .ok (.astore 4, 2) := by decide +kernel
theorem dL_assemble_15 : decode cL_assemble 15 = .ok (.iconst 1, 1) := by decide +kernel
theorem dL_assemble_16 : decode cL_assemble 16 = .ok (.ireturn, 1) := by decide +kernel
theorem dL_assemble_17 : decode cL_assemble 17 = .ok (.astore 4, 2) := by decide +kernel
theorem dL_assemble_19 : decode cL_assemble 19 = .ok (.iconst 2, 1) := by decide +kernel
theorem dL_assemble_20 : decode cL_assemble 20 = .ok (.ireturn, 1) := by decide +kernel
theorem dL_assemble_21 : decode cL_assemble 21 = .ok (.iconst 0, 1) := by decide +kernel
theorem dL_assemble_22 : decode cL_assemble 22 = .ok (.ireturn, 1) := by decide +kernel
theorem dL_law_0 : decode cL_law 0 = .ok (.new 8, 3) := by decide +kernel
theorem dL_law_3 : decode cL_law 3 = .ok (.dup, 1) := by decide +kernel
theorem dL_law_4 : decode cL_law 4 = .ok (.aload_n 0, 1) := by decide +kernel
theorem dL_law_5 : decode cL_law 5 = .ok (.iconst 0, 1) := by decide +kernel
theorem dL_law_6 : decode cL_law 6 = .ok (.invokestatic 23, 3) := by decide +kernel
theorem dL_law_9 : decode cL_law 9 = .ok (.invokespecial 29, 3) := by decide +kernel
theorem dL_law_12 : decode cL_law 12 = .ok (.astore_n 1, 1) := by decide +kernel
theorem dL_law_13 : decode cL_law 13 = .ok (.new 32, 3) := by decide +kernel
theorem dL_law_16 : decode cL_law 16 = .ok (.dup, 1) := by decide +kernel
theorem dL_law_17 : decode cL_law 17 = .ok (.aload_n 0, 1) := by decide +kernel
theorem dL_law_18 : decode cL_law 18 = .ok (.iconst 0, 1) := by decide +kernel
theorem dL_law_19 : decode cL_law 19 = .ok (.invokestatic 23, 3) := by decide +kernel
theorem dL_law_22 : decode cL_law 22 = .ok (.invokespecial 34, 3) := by decide +kernel
theorem dL_law_25 : decode cL_law 25 = .ok (.astore_n 2, 1) := by decide +kernel
theorem dL_law_26 : decode cL_law 26 = .ok (.iconst 1, 1) := by decide +kernel
theorem dL_law_27 : decode cL_law 27 = .ok (.newarray .long, 2) := by decide +kernel
theorem dL_law_29 : decode cL_law 29 = .ok (.astore_n 3, 1) := by decide +kernel
theorem dL_law_30 : decode cL_law 30 = .ok (.iconst 1, 1) := by decide +kernel
theorem dL_law_31 : decode cL_law 31 = .ok (.istore 4, 2) := by decide +kernel
theorem dL_law_33 : decode cL_law 33 = .ok (.iload 4, 2) := by decide +kernel
theorem dL_law_35 : decode cL_law 35 = .ok (.aload_n 0, 1) := by decide +kernel
theorem dL_law_36 : decode cL_law 36 = .ok (.arraylength, 1) := by decide +kernel
theorem dL_law_37 : decode cL_law 37 = .ok (.iconst 4, 1) := by decide +kernel
theorem dL_law_38 : decode cL_law 38 = .ok (.isub, 1) := by decide +kernel
theorem dL_law_39 : decode cL_law 39 = .ok (.if_icmp .gt 651, 3) := by decide +kernel
theorem dL_law_42 : decode cL_law 42 = .ok (.aload_n 0, 1) := by decide +kernel
theorem dL_law_43 : decode cL_law 43 = .ok (.iload 4, 2) := by decide +kernel
theorem dL_law_45 : decode cL_law 45 = .ok (.iaload, 1) := by decide +kernel
theorem dL_law_46 : decode cL_law 46 = .ok (.bipush 15, 2) := by decide +kernel
theorem dL_law_48 : decode cL_law 48 = .ok (.iand, 1) := by decide +kernel
theorem dL_law_49 : decode cL_law 49 = .ok (.tableswitch 635 0 13 #[71, 171, 184, 252, 277, 314, 363, 388, 437, 474, 499, 512, 549, 586], 71) := by decide +kernel
theorem dL_law_120 : decode cL_law 120 = .ok (.aload_n 1, 1) := by decide +kernel
theorem dL_law_121 : decode cL_law 121 = .ok (.aload_n 0, 1) := by decide +kernel
theorem dL_law_122 : decode cL_law 122 = .ok (.iload 4, 2) := by decide +kernel
theorem dL_law_124 : decode cL_law 124 = .ok (.iconst 1, 1) := by decide +kernel
theorem dL_law_125 : decode cL_law 125 = .ok (.iadd, 1) := by decide +kernel
theorem dL_law_126 : decode cL_law 126 = .ok (.iaload, 1) := by decide +kernel
theorem dL_law_127 : decode cL_law 127 = .ok (.i2l, 1) := by decide +kernel
theorem dL_law_128 : decode cL_law 128 = .ok (.bipush 32, 2) := by decide +kernel
theorem dL_law_130 : decode cL_law 130 = .ok (.lshl, 1) := by decide +kernel
theorem dL_law_131 : decode cL_law 131 = .ok (.aload_n 0, 1) := by decide +kernel
theorem dL_law_132 : decode cL_law 132 = .ok (.iload 4, 2) := by decide +kernel
theorem dL_law_134 : decode cL_law 134 = .ok (.iconst 2, 1) := by decide +kernel
theorem dL_law_135 : decode cL_law 135 = .ok (.iadd, 1) := by decide +kernel
theorem dL_law_136 : decode cL_law 136 = .ok (.iaload, 1) := by decide +kernel
theorem dL_law_137 : decode cL_law 137 = .ok (.i2l, 1) := by decide +kernel
theorem dL_law_138 : decode cL_law 138 = .ok (.ldc2_w 35, 3) := by decide +kernel
theorem dL_law_141 : decode cL_law 141 = .ok (.land, 1) := by decide +kernel
theorem dL_law_142 : decode cL_law 142 = .ok (.lor, 1) := by decide +kernel
theorem dL_law_143 : decode cL_law 143 = .ok (.aload_n 0, 1) := by decide +kernel
theorem dL_law_144 : decode cL_law 144 = .ok (.iload 4, 2) := by decide +kernel
theorem dL_law_146 : decode cL_law 146 = .ok (.iconst 3, 1) := by decide +kernel
theorem dL_law_147 : decode cL_law 147 = .ok (.iadd, 1) := by decide +kernel
theorem dL_law_148 : decode cL_law 148 = .ok (.iaload, 1) := by decide +kernel
theorem dL_law_149 : decode cL_law 149 = .ok (.aload_n 3, 1) := by decide +kernel
theorem dL_law_150 : decode cL_law 150 = .ok (.invokestatic 37, 3) := by decide +kernel
theorem dL_law_153 : decode cL_law 153 = .ok (.istore 5, 2) := by decide +kernel
theorem dL_law_155 : decode cL_law 155 = .ok (.aload_n 2, 1) := by decide +kernel
theorem dL_law_156 : decode cL_law 156 = .ok (.aload_n 0, 1) := by decide +kernel
theorem dL_law_157 : decode cL_law 157 = .ok (.iload 4, 2) := by decide +kernel
theorem dL_law_159 : decode cL_law 159 = .ok (.iconst 1, 1) := by decide +kernel
theorem dL_law_160 : decode cL_law 160 = .ok (.iadd, 1) := by decide +kernel
theorem dL_law_161 : decode cL_law 161 = .ok (.iaload, 1) := by decide +kernel
theorem dL_law_162 : decode cL_law 162 = .ok (.i2l, 1) := by decide +kernel
theorem dL_law_163 : decode cL_law 163 = .ok (.bipush 32, 2) := by decide +kernel
theorem dL_law_165 : decode cL_law 165 = .ok (.lshl, 1) := by decide +kernel
theorem dL_law_166 : decode cL_law 166 = .ok (.aload_n 0, 1) := by decide +kernel
theorem dL_law_167 : decode cL_law 167 = .ok (.iload 4, 2) := by decide +kernel
theorem dL_law_169 : decode cL_law 169 = .ok (.iconst 2, 1) := by decide +kernel
theorem dL_law_170 : decode cL_law 170 = .ok (.iadd, 1) := by decide +kernel
theorem dL_law_171 : decode cL_law 171 = .ok (.iaload, 1) := by decide +kernel
theorem dL_law_172 : decode cL_law 172 = .ok (.i2l, 1) := by decide +kernel
theorem dL_law_173 : decode cL_law 173 = .ok (.ldc2_w 35, 3) := by decide +kernel
theorem dL_law_176 : decode cL_law 176 = .ok (.land, 1) := by decide +kernel
theorem dL_law_177 : decode cL_law 177 = .ok (.lor, 1) := by decide +kernel
theorem dL_law_178 : decode cL_law 178 = .ok (.aload_n 0, 1) := by decide +kernel
theorem dL_law_179 : decode cL_law 179 = .ok (.iload 4, 2) := by decide +kernel
theorem dL_law_181 : decode cL_law 181 = .ok (.iconst 3, 1) := by decide +kernel
theorem dL_law_182 : decode cL_law 182 = .ok (.iadd, 1) := by decide +kernel
theorem dL_law_183 : decode cL_law 183 = .ok (.iaload, 1) := by decide +kernel
theorem dL_law_184 : decode cL_law 184 = .ok (.invokevirtual 40, 3) := by decide +kernel
theorem dL_law_187 : decode cL_law 187 = .ok (.istore 6, 2) := by decide +kernel
theorem dL_law_189 : decode cL_law 189 = .ok (.aload_n 2, 1) := by decide +kernel
theorem dL_law_190 : decode cL_law 190 = .ok (.invokevirtual 41, 3) := by decide +kernel
theorem dL_law_193 : decode cL_law 193 = .ok (.iload 5, 2) := by decide +kernel
theorem dL_law_195 : decode cL_law 195 = .ok (.if_icmp .eq 5, 3) := by decide +kernel
theorem dL_law_198 : decode cL_law 198 = .ok (.iconst 0, 1) := by decide +kernel
theorem dL_law_199 : decode cL_law 199 = .ok (.ireturn, 1) := by decide +kernel
theorem dL_law_200 : decode cL_law 200 = .ok (.iload 5, 2) := by decide +kernel
theorem dL_law_202 : decode cL_law 202 = .ok (.ifCond .ne 15, 3) := by decide +kernel
theorem dL_law_205 : decode cL_law 205 = .ok (.aload_n 3, 1) := by decide +kernel
theorem dL_law_206 : decode cL_law 206 = .ok (.iconst 0, 1) := by decide +kernel
theorem dL_law_207 : decode cL_law 207 = .ok (.laload, 1) := by decide +kernel
theorem dL_law_208 : decode cL_law 208 = .ok (.iload 6, 2) := by decide +kernel
theorem dL_law_210 : decode cL_law 210 = .ok (.i2l, 1) := by decide +kernel
theorem dL_law_211 : decode cL_law 211 = .ok (.lcmp, 1) := by decide +kernel
theorem dL_law_212 : decode cL_law 212 = .ok (.ifCond .eq 5, 3) := by decide +kernel
theorem dL_law_215 : decode cL_law 215 = .ok (.iconst 0, 1) := by decide +kernel
theorem dL_law_216 : decode cL_law 216 = .ok (.ireturn, 1) := by decide +kernel
theorem dL_law_217 : decode cL_law 217 = .ok (.goto 467, 3) := by decide +kernel
theorem dL_law_220 : decode cL_law 220 = .ok (.aload_n 1, 1) := by decide +kernel
theorem dL_law_221 : decode cL_law 221 = .ok (.invokevirtual 45, 3) := by decide +kernel
theorem dL_law_224 : decode cL_law 224 = .ok (.aload_n 2, 1) := by decide +kernel
theorem dL_law_225 : decode cL_law 225 = .ok (.invokevirtual 48, 3) := by decide +kernel
theorem dL_law_228 : decode cL_law 228 = .ok (.if_icmp .eq 456, 3) := by decide +kernel
theorem dL_law_231 : decode cL_law 231 = .ok (.iconst 0, 1) := by decide +kernel
theorem dL_law_232 : decode cL_law 232 = .ok (.ireturn, 1) := by decide +kernel
theorem dL_law_233 : decode cL_law 233 = .ok (.aload_n 1, 1) := by decide +kernel
theorem dL_law_234 : decode cL_law 234 = .ok (.aload_n 0, 1) := by decide +kernel
theorem dL_law_235 : decode cL_law 235 = .ok (.iload 4, 2) := by decide +kernel
theorem dL_law_237 : decode cL_law 237 = .ok (.iconst 1, 1) := by decide +kernel
theorem dL_law_238 : decode cL_law 238 = .ok (.iadd, 1) := by decide +kernel
theorem dL_law_239 : decode cL_law 239 = .ok (.iaload, 1) := by decide +kernel
theorem dL_law_240 : decode cL_law 240 = .ok (.aload_n 0, 1) := by decide +kernel
theorem dL_law_241 : decode cL_law 241 = .ok (.iload 4, 2) := by decide +kernel
theorem dL_law_243 : decode cL_law 243 = .ok (.iconst 2, 1) := by decide +kernel
theorem dL_law_244 : decode cL_law 244 = .ok (.iadd, 1) := by decide +kernel
theorem dL_law_245 : decode cL_law 245 = .ok (.iaload, 1) := by decide +kernel
theorem dL_law_246 : decode cL_law 246 = .ok (.aload_n 3, 1) := by decide +kernel
theorem dL_law_247 : decode cL_law 247 = .ok (.invokestatic 49, 3) := by decide +kernel
theorem dL_law_250 : decode cL_law 250 = .ok (.istore 5, 2) := by decide +kernel
theorem dL_law_252 : decode cL_law 252 = .ok (.aload_n 2, 1) := by decide +kernel
theorem dL_law_253 : decode cL_law 253 = .ok (.aload_n 0, 1) := by decide +kernel
theorem dL_law_254 : decode cL_law 254 = .ok (.iload 4, 2) := by decide +kernel
theorem dL_law_256 : decode cL_law 256 = .ok (.iconst 1, 1) := by decide +kernel
theorem dL_law_257 : decode cL_law 257 = .ok (.iadd, 1) := by decide +kernel
theorem dL_law_258 : decode cL_law 258 = .ok (.iaload, 1) := by decide +kernel
theorem dL_law_259 : decode cL_law 259 = .ok (.aload_n 0, 1) := by decide +kernel
theorem dL_law_260 : decode cL_law 260 = .ok (.iload 4, 2) := by decide +kernel
theorem dL_law_262 : decode cL_law 262 = .ok (.iconst 2, 1) := by decide +kernel
theorem dL_law_263 : decode cL_law 263 = .ok (.iadd, 1) := by decide +kernel
theorem dL_law_264 : decode cL_law 264 = .ok (.iaload, 1) := by decide +kernel
theorem dL_law_265 : decode cL_law 265 = .ok (.invokevirtual 52, 3) := by decide +kernel
theorem dL_law_268 : decode cL_law 268 = .ok (.istore 6, 2) := by decide +kernel
theorem dL_law_270 : decode cL_law 270 = .ok (.aload_n 2, 1) := by decide +kernel
theorem dL_law_271 : decode cL_law 271 = .ok (.invokevirtual 41, 3) := by decide +kernel
theorem dL_law_274 : decode cL_law 274 = .ok (.iload 5, 2) := by decide +kernel
theorem dL_law_276 : decode cL_law 276 = .ok (.if_icmp .eq 5, 3) := by decide +kernel
theorem dL_law_279 : decode cL_law 279 = .ok (.iconst 0, 1) := by decide +kernel
theorem dL_law_280 : decode cL_law 280 = .ok (.ireturn, 1) := by decide +kernel
theorem dL_law_281 : decode cL_law 281 = .ok (.iload 5, 2) := by decide +kernel
theorem dL_law_283 : decode cL_law 283 = .ok (.ifCond .ne 15, 3) := by decide +kernel
theorem dL_law_286 : decode cL_law 286 = .ok (.aload_n 3, 1) := by decide +kernel
theorem dL_law_287 : decode cL_law 287 = .ok (.iconst 0, 1) := by decide +kernel
theorem dL_law_288 : decode cL_law 288 = .ok (.laload, 1) := by decide +kernel
theorem dL_law_289 : decode cL_law 289 = .ok (.iload 6, 2) := by decide +kernel
theorem dL_law_291 : decode cL_law 291 = .ok (.i2l, 1) := by decide +kernel
theorem dL_law_292 : decode cL_law 292 = .ok (.lcmp, 1) := by decide +kernel
theorem dL_law_293 : decode cL_law 293 = .ok (.ifCond .eq 5, 3) := by decide +kernel
theorem dL_law_296 : decode cL_law 296 = .ok (.iconst 0, 1) := by decide +kernel
theorem dL_law_297 : decode cL_law 297 = .ok (.ireturn, 1) := by decide +kernel
theorem dL_law_298 : decode cL_law 298 = .ok (.goto 386, 3) := by decide +kernel
theorem dL_law_301 : decode cL_law 301 = .ok (.aload_n 1, 1) := by decide +kernel
theorem dL_law_302 : decode cL_law 302 = .ok (.aload_n 0, 1) := by decide +kernel
theorem dL_law_303 : decode cL_law 303 = .ok (.iload 4, 2) := by decide +kernel
theorem dL_law_305 : decode cL_law 305 = .ok (.iconst 1, 1) := by decide +kernel
theorem dL_law_306 : decode cL_law 306 = .ok (.iadd, 1) := by decide +kernel
theorem dL_law_307 : decode cL_law 307 = .ok (.iaload, 1) := by decide +kernel
theorem dL_law_308 : decode cL_law 308 = .ok (.invokevirtual 53, 3) := by decide +kernel
theorem dL_law_311 : decode cL_law 311 = .ok (.aload_n 2, 1) := by decide +kernel
theorem dL_law_312 : decode cL_law 312 = .ok (.aload_n 0, 1) := by decide +kernel
theorem dL_law_313 : decode cL_law 313 = .ok (.iload 4, 2) := by decide +kernel
theorem dL_law_315 : decode cL_law 315 = .ok (.iconst 1, 1) := by decide +kernel
theorem dL_law_316 : decode cL_law 316 = .ok (.iadd, 1) := by decide +kernel
theorem dL_law_317 : decode cL_law 317 = .ok (.iaload, 1) := by decide +kernel
theorem dL_law_318 : decode cL_law 318 = .ok (.invokevirtual 57, 3) := by decide +kernel
theorem dL_law_321 : decode cL_law 321 = .ok (.if_icmp .eq 363, 3) := by decide +kernel
theorem dL_law_324 : decode cL_law 324 = .ok (.iconst 0, 1) := by decide +kernel
theorem dL_law_325 : decode cL_law 325 = .ok (.ireturn, 1) := by decide +kernel
theorem dL_law_326 : decode cL_law 326 = .ok (.aload_n 1, 1) := by decide +kernel
theorem dL_law_327 : decode cL_law 327 = .ok (.aload_n 0, 1) := by decide +kernel
theorem dL_law_328 : decode cL_law 328 = .ok (.iload 4, 2) := by decide +kernel
theorem dL_law_330 : decode cL_law 330 = .ok (.iconst 1, 1) := by decide +kernel
theorem dL_law_331 : decode cL_law 331 = .ok (.iadd, 1) := by decide +kernel
theorem dL_law_332 : decode cL_law 332 = .ok (.iaload, 1) := by decide +kernel
theorem dL_law_333 : decode cL_law 333 = .ok (.aload_n 0, 1) := by decide +kernel
theorem dL_law_334 : decode cL_law 334 = .ok (.iload 4, 2) := by decide +kernel
theorem dL_law_336 : decode cL_law 336 = .ok (.iconst 2, 1) := by decide +kernel
theorem dL_law_337 : decode cL_law 337 = .ok (.iadd, 1) := by decide +kernel
theorem dL_law_338 : decode cL_law 338 = .ok (.iaload, 1) := by decide +kernel
theorem dL_law_339 : decode cL_law 339 = .ok (.invokevirtual 58, 3) := by decide +kernel
theorem dL_law_342 : decode cL_law 342 = .ok (.aload_n 2, 1) := by decide +kernel
theorem dL_law_343 : decode cL_law 343 = .ok (.aload_n 0, 1) := by decide +kernel
theorem dL_law_344 : decode cL_law 344 = .ok (.iload 4, 2) := by decide +kernel
theorem dL_law_346 : decode cL_law 346 = .ok (.iconst 1, 1) := by decide +kernel
theorem dL_law_347 : decode cL_law 347 = .ok (.iadd, 1) := by decide +kernel
theorem dL_law_348 : decode cL_law 348 = .ok (.iaload, 1) := by decide +kernel
theorem dL_law_349 : decode cL_law 349 = .ok (.aload_n 0, 1) := by decide +kernel
theorem dL_law_350 : decode cL_law 350 = .ok (.iload 4, 2) := by decide +kernel
theorem dL_law_352 : decode cL_law 352 = .ok (.iconst 2, 1) := by decide +kernel
theorem dL_law_353 : decode cL_law 353 = .ok (.iadd, 1) := by decide +kernel
theorem dL_law_354 : decode cL_law 354 = .ok (.iaload, 1) := by decide +kernel
theorem dL_law_355 : decode cL_law 355 = .ok (.invokevirtual 61, 3) := by decide +kernel
theorem dL_law_358 : decode cL_law 358 = .ok (.if_icmp .eq 326, 3) := by decide +kernel
theorem dL_law_361 : decode cL_law 361 = .ok (.iconst 0, 1) := by decide +kernel
theorem dL_law_362 : decode cL_law 362 = .ok (.ireturn, 1) := by decide +kernel
theorem dL_law_363 : decode cL_law 363 = .ok (.aload_n 1, 1) := by decide +kernel
theorem dL_law_364 : decode cL_law 364 = .ok (.aload_n 0, 1) := by decide +kernel
theorem dL_law_365 : decode cL_law 365 = .ok (.iload 4, 2) := by decide +kernel
theorem dL_law_367 : decode cL_law 367 = .ok (.iconst 1, 1) := by decide +kernel
theorem dL_law_368 : decode cL_law 368 = .ok (.iadd, 1) := by decide +kernel
theorem dL_law_369 : decode cL_law 369 = .ok (.iaload, 1) := by decide +kernel
theorem dL_law_370 : decode cL_law 370 = .ok (.aload_n 0, 1) := by decide +kernel
theorem dL_law_371 : decode cL_law 371 = .ok (.iload 4, 2) := by decide +kernel
theorem dL_law_373 : decode cL_law 373 = .ok (.iconst 2, 1) := by decide +kernel
theorem dL_law_374 : decode cL_law 374 = .ok (.iadd, 1) := by decide +kernel
theorem dL_law_375 : decode cL_law 375 = .ok (.iaload, 1) := by decide +kernel
theorem dL_law_376 : decode cL_law 376 = .ok (.aload_n 0, 1) := by decide +kernel
theorem dL_law_377 : decode cL_law 377 = .ok (.iload 4, 2) := by decide +kernel
theorem dL_law_379 : decode cL_law 379 = .ok (.iconst 3, 1) := by decide +kernel
theorem dL_law_380 : decode cL_law 380 = .ok (.iadd, 1) := by decide +kernel
theorem dL_law_381 : decode cL_law 381 = .ok (.iaload, 1) := by decide +kernel
theorem dL_law_382 : decode cL_law 382 = .ok (.invokevirtual 62, 3) := by decide +kernel
theorem dL_law_385 : decode cL_law 385 = .ok (.aload_n 2, 1) := by decide +kernel
theorem dL_law_386 : decode cL_law 386 = .ok (.aload_n 0, 1) := by decide +kernel
theorem dL_law_387 : decode cL_law 387 = .ok (.iload 4, 2) := by decide +kernel
theorem dL_law_389 : decode cL_law 389 = .ok (.iconst 1, 1) := by decide +kernel
theorem dL_law_390 : decode cL_law 390 = .ok (.iadd, 1) := by decide +kernel
theorem dL_law_391 : decode cL_law 391 = .ok (.iaload, 1) := by decide +kernel
theorem dL_law_392 : decode cL_law 392 = .ok (.aload_n 0, 1) := by decide +kernel
theorem dL_law_393 : decode cL_law 393 = .ok (.iload 4, 2) := by decide +kernel
theorem dL_law_395 : decode cL_law 395 = .ok (.iconst 2, 1) := by decide +kernel
theorem dL_law_396 : decode cL_law 396 = .ok (.iadd, 1) := by decide +kernel
theorem dL_law_397 : decode cL_law 397 = .ok (.iaload, 1) := by decide +kernel
theorem dL_law_398 : decode cL_law 398 = .ok (.aload_n 0, 1) := by decide +kernel
theorem dL_law_399 : decode cL_law 399 = .ok (.iload 4, 2) := by decide +kernel
theorem dL_law_401 : decode cL_law 401 = .ok (.iconst 3, 1) := by decide +kernel
theorem dL_law_402 : decode cL_law 402 = .ok (.iadd, 1) := by decide +kernel
theorem dL_law_403 : decode cL_law 403 = .ok (.iaload, 1) := by decide +kernel
theorem dL_law_404 : decode cL_law 404 = .ok (.invokevirtual 66, 3) := by decide +kernel
theorem dL_law_407 : decode cL_law 407 = .ok (.if_icmp .eq 277, 3) := by decide +kernel
theorem dL_law_410 : decode cL_law 410 = .ok (.iconst 0, 1) := by decide +kernel
theorem dL_law_411 : decode cL_law 411 = .ok (.ireturn, 1) := by decide +kernel
theorem dL_law_412 : decode cL_law 412 = .ok (.aload_n 1, 1) := by decide +kernel
theorem dL_law_413 : decode cL_law 413 = .ok (.aload_n 0, 1) := by decide +kernel
theorem dL_law_414 : decode cL_law 414 = .ok (.iload 4, 2) := by decide +kernel
theorem dL_law_416 : decode cL_law 416 = .ok (.iconst 1, 1) := by decide +kernel
theorem dL_law_417 : decode cL_law 417 = .ok (.iadd, 1) := by decide +kernel
theorem dL_law_418 : decode cL_law 418 = .ok (.iaload, 1) := by decide +kernel
theorem dL_law_419 : decode cL_law 419 = .ok (.invokevirtual 67, 3) := by decide +kernel
theorem dL_law_422 : decode cL_law 422 = .ok (.aload_n 2, 1) := by decide +kernel
theorem dL_law_423 : decode cL_law 423 = .ok (.aload_n 0, 1) := by decide +kernel
theorem dL_law_424 : decode cL_law 424 = .ok (.iload 4, 2) := by decide +kernel
theorem dL_law_426 : decode cL_law 426 = .ok (.iconst 1, 1) := by decide +kernel
theorem dL_law_427 : decode cL_law 427 = .ok (.iadd, 1) := by decide +kernel
theorem dL_law_428 : decode cL_law 428 = .ok (.iaload, 1) := by decide +kernel
theorem dL_law_429 : decode cL_law 429 = .ok (.invokevirtual 70, 3) := by decide +kernel
theorem dL_law_432 : decode cL_law 432 = .ok (.if_icmp .eq 252, 3) := by decide +kernel
theorem dL_law_435 : decode cL_law 435 = .ok (.iconst 0, 1) := by decide +kernel
theorem dL_law_436 : decode cL_law 436 = .ok (.ireturn, 1) := by decide +kernel
theorem dL_law_437 : decode cL_law 437 = .ok (.aload_n 1, 1) := by decide +kernel
theorem dL_law_438 : decode cL_law 438 = .ok (.aload_n 0, 1) := by decide +kernel
theorem dL_law_439 : decode cL_law 439 = .ok (.iload 4, 2) := by decide +kernel
theorem dL_law_441 : decode cL_law 441 = .ok (.iconst 1, 1) := by decide +kernel
theorem dL_law_442 : decode cL_law 442 = .ok (.iadd, 1) := by decide +kernel
theorem dL_law_443 : decode cL_law 443 = .ok (.iaload, 1) := by decide +kernel
theorem dL_law_444 : decode cL_law 444 = .ok (.aload_n 0, 1) := by decide +kernel
theorem dL_law_445 : decode cL_law 445 = .ok (.iload 4, 2) := by decide +kernel
theorem dL_law_447 : decode cL_law 447 = .ok (.iconst 2, 1) := by decide +kernel
theorem dL_law_448 : decode cL_law 448 = .ok (.iadd, 1) := by decide +kernel
theorem dL_law_449 : decode cL_law 449 = .ok (.iaload, 1) := by decide +kernel
theorem dL_law_450 : decode cL_law 450 = .ok (.aload_n 0, 1) := by decide +kernel
theorem dL_law_451 : decode cL_law 451 = .ok (.iload 4, 2) := by decide +kernel
theorem dL_law_453 : decode cL_law 453 = .ok (.iconst 3, 1) := by decide +kernel
theorem dL_law_454 : decode cL_law 454 = .ok (.iadd, 1) := by decide +kernel
theorem dL_law_455 : decode cL_law 455 = .ok (.iaload, 1) := by decide +kernel
theorem dL_law_456 : decode cL_law 456 = .ok (.invokevirtual 71, 3) := by decide +kernel
theorem dL_law_459 : decode cL_law 459 = .ok (.aload_n 2, 1) := by decide +kernel
theorem dL_law_460 : decode cL_law 460 = .ok (.aload_n 0, 1) := by decide +kernel
theorem dL_law_461 : decode cL_law 461 = .ok (.iload 4, 2) := by decide +kernel
theorem dL_law_463 : decode cL_law 463 = .ok (.iconst 1, 1) := by decide +kernel
theorem dL_law_464 : decode cL_law 464 = .ok (.iadd, 1) := by decide +kernel
theorem dL_law_465 : decode cL_law 465 = .ok (.iaload, 1) := by decide +kernel
theorem dL_law_466 : decode cL_law 466 = .ok (.aload_n 0, 1) := by decide +kernel
theorem dL_law_467 : decode cL_law 467 = .ok (.iload 4, 2) := by decide +kernel
theorem dL_law_469 : decode cL_law 469 = .ok (.iconst 2, 1) := by decide +kernel
theorem dL_law_470 : decode cL_law 470 = .ok (.iadd, 1) := by decide +kernel
theorem dL_law_471 : decode cL_law 471 = .ok (.iaload, 1) := by decide +kernel
theorem dL_law_472 : decode cL_law 472 = .ok (.aload_n 0, 1) := by decide +kernel
theorem dL_law_473 : decode cL_law 473 = .ok (.iload 4, 2) := by decide +kernel
theorem dL_law_475 : decode cL_law 475 = .ok (.iconst 3, 1) := by decide +kernel
theorem dL_law_476 : decode cL_law 476 = .ok (.iadd, 1) := by decide +kernel
theorem dL_law_477 : decode cL_law 477 = .ok (.iaload, 1) := by decide +kernel
theorem dL_law_478 : decode cL_law 478 = .ok (.invokevirtual 74, 3) := by decide +kernel
theorem dL_law_481 : decode cL_law 481 = .ok (.if_icmp .eq 203, 3) := by decide +kernel
theorem dL_law_484 : decode cL_law 484 = .ok (.iconst 0, 1) := by decide +kernel
theorem dL_law_485 : decode cL_law 485 = .ok (.ireturn, 1) := by decide +kernel
theorem dL_law_486 : decode cL_law 486 = .ok (.aload_n 1, 1) := by decide +kernel
theorem dL_law_487 : decode cL_law 487 = .ok (.aload_n 0, 1) := by decide +kernel
theorem dL_law_488 : decode cL_law 488 = .ok (.iload 4, 2) := by decide +kernel
theorem dL_law_490 : decode cL_law 490 = .ok (.iconst 1, 1) := by decide +kernel
theorem dL_law_491 : decode cL_law 491 = .ok (.iadd, 1) := by decide +kernel
theorem dL_law_492 : decode cL_law 492 = .ok (.iaload, 1) := by decide +kernel
theorem dL_law_493 : decode cL_law 493 = .ok (.aload_n 0, 1) := by decide +kernel
theorem dL_law_494 : decode cL_law 494 = .ok (.iload 4, 2) := by decide +kernel
theorem dL_law_496 : decode cL_law 496 = .ok (.iconst 2, 1) := by decide +kernel
theorem dL_law_497 : decode cL_law 497 = .ok (.iadd, 1) := by decide +kernel
theorem dL_law_498 : decode cL_law 498 = .ok (.iaload, 1) := by decide +kernel
theorem dL_law_499 : decode cL_law 499 = .ok (.invokevirtual 75, 3) := by decide +kernel
theorem dL_law_502 : decode cL_law 502 = .ok (.aload_n 2, 1) := by decide +kernel
theorem dL_law_503 : decode cL_law 503 = .ok (.aload_n 0, 1) := by decide +kernel
theorem dL_law_504 : decode cL_law 504 = .ok (.iload 4, 2) := by decide +kernel
theorem dL_law_506 : decode cL_law 506 = .ok (.iconst 1, 1) := by decide +kernel
theorem dL_law_507 : decode cL_law 507 = .ok (.iadd, 1) := by decide +kernel
theorem dL_law_508 : decode cL_law 508 = .ok (.iaload, 1) := by decide +kernel
theorem dL_law_509 : decode cL_law 509 = .ok (.aload_n 0, 1) := by decide +kernel
theorem dL_law_510 : decode cL_law 510 = .ok (.iload 4, 2) := by decide +kernel
theorem dL_law_512 : decode cL_law 512 = .ok (.iconst 2, 1) := by decide +kernel
theorem dL_law_513 : decode cL_law 513 = .ok (.iadd, 1) := by decide +kernel
theorem dL_law_514 : decode cL_law 514 = .ok (.iaload, 1) := by decide +kernel
theorem dL_law_515 : decode cL_law 515 = .ok (.invokevirtual 79, 3) := by decide +kernel
theorem dL_law_518 : decode cL_law 518 = .ok (.if_icmp .eq 166, 3) := by decide +kernel
theorem dL_law_521 : decode cL_law 521 = .ok (.iconst 0, 1) := by decide +kernel
theorem dL_law_522 : decode cL_law 522 = .ok (.ireturn, 1) := by decide +kernel
theorem dL_law_523 : decode cL_law 523 = .ok (.aload_n 1, 1) := by decide +kernel
theorem dL_law_524 : decode cL_law 524 = .ok (.aload_n 0, 1) := by decide +kernel
theorem dL_law_525 : decode cL_law 525 = .ok (.iload 4, 2) := by decide +kernel
theorem dL_law_527 : decode cL_law 527 = .ok (.iconst 1, 1) := by decide +kernel
theorem dL_law_528 : decode cL_law 528 = .ok (.iadd, 1) := by decide +kernel
theorem dL_law_529 : decode cL_law 529 = .ok (.iaload, 1) := by decide +kernel
theorem dL_law_530 : decode cL_law 530 = .ok (.invokevirtual 80, 3) := by decide +kernel
theorem dL_law_533 : decode cL_law 533 = .ok (.aload_n 2, 1) := by decide +kernel
theorem dL_law_534 : decode cL_law 534 = .ok (.aload_n 0, 1) := by decide +kernel
theorem dL_law_535 : decode cL_law 535 = .ok (.iload 4, 2) := by decide +kernel
theorem dL_law_537 : decode cL_law 537 = .ok (.iconst 1, 1) := by decide +kernel
theorem dL_law_538 : decode cL_law 538 = .ok (.iadd, 1) := by decide +kernel
theorem dL_law_539 : decode cL_law 539 = .ok (.iaload, 1) := by decide +kernel
theorem dL_law_540 : decode cL_law 540 = .ok (.invokevirtual 83, 3) := by decide +kernel
theorem dL_law_543 : decode cL_law 543 = .ok (.if_icmp .eq 141, 3) := by decide +kernel
theorem dL_law_546 : decode cL_law 546 = .ok (.iconst 0, 1) := by decide +kernel
theorem dL_law_547 : decode cL_law 547 = .ok (.ireturn, 1) := by decide +kernel
theorem dL_law_548 : decode cL_law 548 = .ok (.aload_n 1, 1) := by decide +kernel
theorem dL_law_549 : decode cL_law 549 = .ok (.invokevirtual 84, 3) := by decide +kernel
theorem dL_law_552 : decode cL_law 552 = .ok (.aload_n 2, 1) := by decide +kernel
theorem dL_law_553 : decode cL_law 553 = .ok (.invokevirtual 87, 3) := by decide +kernel
theorem dL_law_556 : decode cL_law 556 = .ok (.if_icmp .eq 128, 3) := by decide +kernel
theorem dL_law_559 : decode cL_law 559 = .ok (.iconst 0, 1) := by decide +kernel
theorem dL_law_560 : decode cL_law 560 = .ok (.ireturn, 1) := by decide +kernel
theorem dL_law_561 : decode cL_law 561 = .ok (.aload_n 1, 1) := by decide +kernel
theorem dL_law_562 : decode cL_law 562 = .ok (.aload_n 0, 1) := by decide +kernel
theorem dL_law_563 : decode cL_law 563 = .ok (.iload 4, 2) := by decide +kernel
theorem dL_law_565 : decode cL_law 565 = .ok (.iconst 1, 1) := by decide +kernel
theorem dL_law_566 : decode cL_law 566 = .ok (.iadd, 1) := by decide +kernel
theorem dL_law_567 : decode cL_law 567 = .ok (.iaload, 1) := by decide +kernel
theorem dL_law_568 : decode cL_law 568 = .ok (.aload_n 0, 1) := by decide +kernel
theorem dL_law_569 : decode cL_law 569 = .ok (.iload 4, 2) := by decide +kernel
theorem dL_law_571 : decode cL_law 571 = .ok (.iconst 2, 1) := by decide +kernel
theorem dL_law_572 : decode cL_law 572 = .ok (.iadd, 1) := by decide +kernel
theorem dL_law_573 : decode cL_law 573 = .ok (.iaload, 1) := by decide +kernel
theorem dL_law_574 : decode cL_law 574 = .ok (.invokevirtual 88, 3) := by decide +kernel
theorem dL_law_577 : decode cL_law 577 = .ok (.aload_n 2, 1) := by decide +kernel
theorem dL_law_578 : decode cL_law 578 = .ok (.aload_n 0, 1) := by decide +kernel
theorem dL_law_579 : decode cL_law 579 = .ok (.iload 4, 2) := by decide +kernel
theorem dL_law_581 : decode cL_law 581 = .ok (.iconst 1, 1) := by decide +kernel
theorem dL_law_582 : decode cL_law 582 = .ok (.iadd, 1) := by decide +kernel
theorem dL_law_583 : decode cL_law 583 = .ok (.iaload, 1) := by decide +kernel
theorem dL_law_584 : decode cL_law 584 = .ok (.aload_n 0, 1) := by decide +kernel
theorem dL_law_585 : decode cL_law 585 = .ok (.iload 4, 2) := by decide +kernel
theorem dL_law_587 : decode cL_law 587 = .ok (.iconst 2, 1) := by decide +kernel
theorem dL_law_588 : decode cL_law 588 = .ok (.iadd, 1) := by decide +kernel
theorem dL_law_589 : decode cL_law 589 = .ok (.iaload, 1) := by decide +kernel
theorem dL_law_590 : decode cL_law 590 = .ok (.invokevirtual 91, 3) := by decide +kernel
theorem dL_law_593 : decode cL_law 593 = .ok (.if_icmp .eq 91, 3) := by decide +kernel
theorem dL_law_596 : decode cL_law 596 = .ok (.iconst 0, 1) := by decide +kernel
theorem dL_law_597 : decode cL_law 597 = .ok (.ireturn, 1) := by decide +kernel
theorem dL_law_598 : decode cL_law 598 = .ok (.aload_n 1, 1) := by decide +kernel
theorem dL_law_599 : decode cL_law 599 = .ok (.aload_n 0, 1) := by decide +kernel
theorem dL_law_600 : decode cL_law 600 = .ok (.iload 4, 2) := by decide +kernel
theorem dL_law_602 : decode cL_law 602 = .ok (.iconst 1, 1) := by decide +kernel
theorem dL_law_603 : decode cL_law 603 = .ok (.iadd, 1) := by decide +kernel
theorem dL_law_604 : decode cL_law 604 = .ok (.iaload, 1) := by decide +kernel
theorem dL_law_605 : decode cL_law 605 = .ok (.aload_n 0, 1) := by decide +kernel
theorem dL_law_606 : decode cL_law 606 = .ok (.iload 4, 2) := by decide +kernel
theorem dL_law_608 : decode cL_law 608 = .ok (.iconst 2, 1) := by decide +kernel
theorem dL_law_609 : decode cL_law 609 = .ok (.iadd, 1) := by decide +kernel
theorem dL_law_610 : decode cL_law 610 = .ok (.iaload, 1) := by decide +kernel
theorem dL_law_611 : decode cL_law 611 = .ok (.invokevirtual 92, 3) := by decide +kernel
theorem dL_law_614 : decode cL_law 614 = .ok (.aload_n 2, 1) := by decide +kernel
theorem dL_law_615 : decode cL_law 615 = .ok (.aload_n 0, 1) := by decide +kernel
theorem dL_law_616 : decode cL_law 616 = .ok (.iload 4, 2) := by decide +kernel
theorem dL_law_618 : decode cL_law 618 = .ok (.iconst 1, 1) := by decide +kernel
theorem dL_law_619 : decode cL_law 619 = .ok (.iadd, 1) := by decide +kernel
theorem dL_law_620 : decode cL_law 620 = .ok (.iaload, 1) := by decide +kernel
theorem dL_law_621 : decode cL_law 621 = .ok (.aload_n 0, 1) := by decide +kernel
theorem dL_law_622 : decode cL_law 622 = .ok (.iload 4, 2) := by decide +kernel
theorem dL_law_624 : decode cL_law 624 = .ok (.iconst 2, 1) := by decide +kernel
theorem dL_law_625 : decode cL_law 625 = .ok (.iadd, 1) := by decide +kernel
theorem dL_law_626 : decode cL_law 626 = .ok (.iaload, 1) := by decide +kernel
theorem dL_law_627 : decode cL_law 627 = .ok (.invokevirtual 95, 3) := by decide +kernel
theorem dL_law_630 : decode cL_law 630 = .ok (.if_icmp .eq 54, 3) := by decide +kernel
theorem dL_law_633 : decode cL_law 633 = .ok (.iconst 0, 1) := by decide +kernel
theorem dL_law_634 : decode cL_law 634 = .ok (.ireturn, 1) := by decide +kernel
theorem dL_law_635 : decode cL_law 635 = .ok (.aload_n 1, 1) := by decide +kernel
theorem dL_law_636 : decode cL_law 636 = .ok (.aload_n 0, 1) := by decide +kernel
theorem dL_law_637 : decode cL_law 637 = .ok (.iload 4, 2) := by decide +kernel
theorem dL_law_639 : decode cL_law 639 = .ok (.iconst 1, 1) := by decide +kernel
theorem dL_law_640 : decode cL_law 640 = .ok (.iadd, 1) := by decide +kernel
theorem dL_law_641 : decode cL_law 641 = .ok (.iaload, 1) := by decide +kernel
theorem dL_law_642 : decode cL_law 642 = .ok (.aload_n 0, 1) := by decide +kernel
theorem dL_law_643 : decode cL_law 643 = .ok (.iload 4, 2) := by decide +kernel
theorem dL_law_645 : decode cL_law 645 = .ok (.iconst 2, 1) := by decide +kernel
theorem dL_law_646 : decode cL_law 646 = .ok (.iadd, 1) := by decide +kernel
theorem dL_law_647 : decode cL_law 647 = .ok (.iaload, 1) := by decide +kernel
theorem dL_law_648 : decode cL_law 648 = .ok (.aload_n 0, 1) := by decide +kernel
theorem dL_law_649 : decode cL_law 649 = .ok (.iload 4, 2) := by decide +kernel
theorem dL_law_651 : decode cL_law 651 = .ok (.iconst 3, 1) := by decide +kernel
theorem dL_law_652 : decode cL_law 652 = .ok (.iadd, 1) := by decide +kernel
theorem dL_law_653 : decode cL_law 653 = .ok (.iaload, 1) := by decide +kernel
theorem dL_law_654 : decode cL_law 654 = .ok (.invokevirtual 96, 3) := by decide +kernel
theorem dL_law_657 : decode cL_law 657 = .ok (.aload_n 2, 1) := by decide +kernel
theorem dL_law_658 : decode cL_law 658 = .ok (.aload_n 0, 1) := by decide +kernel
theorem dL_law_659 : decode cL_law 659 = .ok (.iload 4, 2) := by decide +kernel
theorem dL_law_661 : decode cL_law 661 = .ok (.iconst 1, 1) := by decide +kernel
theorem dL_law_662 : decode cL_law 662 = .ok (.iadd, 1) := by decide +kernel
theorem dL_law_663 : decode cL_law 663 = .ok (.iaload, 1) := by decide +kernel
theorem dL_law_664 : decode cL_law 664 = .ok (.aload_n 0, 1) := by decide +kernel
theorem dL_law_665 : decode cL_law 665 = .ok (.iload 4, 2) := by decide +kernel
theorem dL_law_667 : decode cL_law 667 = .ok (.iconst 2, 1) := by decide +kernel
theorem dL_law_668 : decode cL_law 668 = .ok (.iadd, 1) := by decide +kernel
theorem dL_law_669 : decode cL_law 669 = .ok (.iaload, 1) := by decide +kernel
theorem dL_law_670 : decode cL_law 670 = .ok (.aload_n 0, 1) := by decide +kernel
theorem dL_law_671 : decode cL_law 671 = .ok (.iload 4, 2) := by decide +kernel
theorem dL_law_673 : decode cL_law 673 = .ok (.iconst 3, 1) := by decide +kernel
theorem dL_law_674 : decode cL_law 674 = .ok (.iadd, 1) := by decide +kernel
theorem dL_law_675 : decode cL_law 675 = .ok (.iaload, 1) := by decide +kernel
theorem dL_law_676 : decode cL_law 676 = .ok (.invokevirtual 100, 3) := by decide +kernel
theorem dL_law_679 : decode cL_law 679 = .ok (.if_icmp .eq 5, 3) := by decide +kernel
theorem dL_law_682 : decode cL_law 682 = .ok (.iconst 0, 1) := by decide +kernel
theorem dL_law_683 : decode cL_law 683 = .ok (.ireturn, 1) := by decide +kernel
theorem dL_law_684 : decode cL_law 684 = .ok (.iinc 4 4, 3) := by decide +kernel
theorem dL_law_687 : decode cL_law 687 = .ok (.goto (-654), 3) := by decide +kernel
theorem dL_law_690 : decode cL_law 690 = .ok (.iconst 1, 1) := by decide +kernel
theorem dL_law_691 : decode cL_law 691 = .ok (.ireturn, 1) := by decide +kernel
