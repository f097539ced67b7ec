theorem dX11_init_0 : decode cX11_init 0 = .ok (.aload_n 0, 1) := by decide +kernel
theorem dX11_init_1 : decode cX11_init 1 = .ok (.invokespecial 1, 3) := by decide +kernel
theorem dX11_init_4 : decode cX11_init 4 = .ok (.aload_n 0, 1) := by decide +kernel
theorem dX11_init_5 : decode cX11_init 5 = .ok (.sipush 400, 3) := by decide +kernel
theorem dX11_init_8 : decode cX11_init 8 = .ok (.newarray .char, 2) := by decide +kernel
theorem dX11_init_10 : decode cX11_init 10 = .ok (.putfield 7, 3) := by decide +kernel
theorem dX11_init_13 : decode cX11_init 13 = .ok (.aload_n 0, 1) := by decide +kernel
theorem dX11_init_14 : decode cX11_init 14 = .ok (.sipush 128, 3) := by decide +kernel
theorem dX11_init_17 : decode cX11_init 17 = .ok (.newarray .int, 2) := by decide +kernel
theorem dX11_init_19 : decode cX11_init 19 = .ok (.putfield 13, 3) := by decide +kernel
theorem dX11_init_22 : decode cX11_init 22 = .ok (.aload_n 0, 1) := by decide +kernel
theorem dX11_init_23 : decode cX11_init 23 = .ok (.bipush 16, 2) := by decide +kernel
theorem dX11_init_25 : decode cX11_init 25 = .ok (.newarray .long, 2) := by decide +kernel
theorem dX11_init_27 : decode cX11_init 27 = .ok (.putfield 17, 3) := by decide +kernel
theorem dX11_init_30 : decode cX11_init 30 = .ok (.aload_n 0, 1) := by decide +kernel
theorem dX11_init_31 : decode cX11_init 31 = .ok (.bipush 16, 2) := by decide +kernel
theorem dX11_init_33 : decode cX11_init 33 = .ok (.newarray .int, 2) := by decide +kernel
theorem dX11_init_35 : decode cX11_init 35 = .ok (.putfield 21, 3) := by decide +kernel
theorem dX11_init_38 : decode cX11_init 38 = .ok (.aload_n 0, 1) := by decide +kernel
theorem dX11_init_39 : decode cX11_init 39 = .ok (.sipush 128, 3) := by decide +kernel
theorem dX11_init_42 : decode cX11_init 42 = .ok (.newarray .long, 2) := by decide +kernel
theorem dX11_init_44 : decode cX11_init 44 = .ok (.putfield 24, 3) := by decide +kernel
theorem dX11_init_47 : decode cX11_init 47 = .ok (.aload_n 0, 1) := by decide +kernel
theorem dX11_init_48 : decode cX11_init 48 = .ok (.sipush 128, 3) := by decide +kernel
theorem dX11_init_51 : decode cX11_init 51 = .ok (.newarray .int, 2) := by decide +kernel
theorem dX11_init_53 : decode cX11_init 53 = .ok (.putfield 27, 3) := by decide +kernel
theorem dX11_init_56 : decode cX11_init 56 = .ok (.aload_n 0, 1) := by decide +kernel
theorem dX11_init_57 : decode cX11_init 57 = .ok (.sipush 128, 3) := by decide +kernel
theorem dX11_init_60 : decode cX11_init 60 = .ok (.newarray .int, 2) := by decide +kernel
theorem dX11_init_62 : decode cX11_init 62 = .ok (.putfield 30, 3) := by decide +kernel
theorem dX11_init_65 : decode cX11_init 65 = .ok (.aload_n 0, 1) := by decide +kernel
theorem dX11_init_66 : decode cX11_init 66 = .ok (.sipush 512, 3) := by decide +kernel
theorem dX11_init_69 : decode cX11_init 69 = .ok (.newarray .int, 2) := by decide +kernel
theorem dX11_init_71 : decode cX11_init 71 = .ok (.putfield 33, 3) := by decide +kernel
theorem dX11_init_74 : decode cX11_init 74 = .ok (.aload_n 0, 1) := by decide +kernel
theorem dX11_init_75 : decode cX11_init 75 = .ok (.bipush 64, 2) := by decide +kernel
theorem dX11_init_77 : decode cX11_init 77 = .ok (.newarray .int, 2) := by decide +kernel
theorem dX11_init_79 : decode cX11_init 79 = .ok (.putfield 36, 3) := by decide +kernel
theorem dX11_init_82 : decode cX11_init 82 = .ok (.aload_n 0, 1) := by decide +kernel
theorem dX11_init_83 : decode cX11_init 83 = .ok (.iconst 4, 1) := by decide +kernel
theorem dX11_init_84 : decode cX11_init 84 = .ok (.newarray .int, 2) := by decide +kernel
theorem dX11_init_86 : decode cX11_init 86 = .ok (.putfield 39, 3) := by decide +kernel
theorem dX11_init_89 : decode cX11_init 89 = .ok (.aload_n 0, 1) := by decide +kernel
theorem dX11_init_90 : decode cX11_init 90 = .ok (.iconst 4, 1) := by decide +kernel
theorem dX11_init_91 : decode cX11_init 91 = .ok (.newarray .int, 2) := by decide +kernel
theorem dX11_init_93 : decode cX11_init 93 = .ok (.putfield 42, 3) := by decide +kernel
theorem dX11_init_96 : decode cX11_init 96 = .ok (.aload_n 0, 1) := by decide +kernel
theorem dX11_init_97 : decode cX11_init 97 = .ok (.bipush 64, 2) := by decide +kernel
theorem dX11_init_99 : decode cX11_init 99 = .ok (.newarray .int, 2) := by decide +kernel
theorem dX11_init_101 : decode cX11_init 101 = .ok (.putfield 45, 3) := by decide +kernel
theorem dX11_init_104 : decode cX11_init 104 = .ok (.aload_n 0, 1) := by decide +kernel
theorem dX11_init_105 : decode cX11_init 105 = .ok (.iconst 4, 1) := by decide +kernel
theorem dX11_init_106 : decode cX11_init 106 = .ok (.newarray .int, 2) := by decide +kernel
theorem dX11_init_108 : decode cX11_init 108 = .ok (.putfield 48, 3) := by decide +kernel
theorem dX11_init_111 : decode cX11_init 111 = .ok (.aload_n 0, 1) := by decide +kernel
theorem dX11_init_112 : decode cX11_init 112 = .ok (.iconst 4, 1) := by decide +kernel
theorem dX11_init_113 : decode cX11_init 113 = .ok (.newarray .int, 2) := by decide +kernel
theorem dX11_init_115 : decode cX11_init 115 = .ok (.putfield 51, 3) := by decide +kernel
theorem dX11_init_118 : decode cX11_init 118 = .ok (.aload_n 0, 1) := by decide +kernel
theorem dX11_init_119 : decode cX11_init 119 = .ok (.iconst 4, 1) := by decide +kernel
theorem dX11_init_120 : decode cX11_init 120 = .ok (.newarray .int, 2) := by decide +kernel
theorem dX11_init_122 : decode cX11_init 122 = .ok (.putfield 54, 3) := by decide +kernel
theorem dX11_init_125 : decode cX11_init 125 = .ok (.aload_n 0, 1) := by decide +kernel
theorem dX11_init_126 : decode cX11_init 126 = .ok (.iconst 4, 1) := by decide +kernel
theorem dX11_init_127 : decode cX11_init 127 = .ok (.newarray .int, 2) := by decide +kernel
theorem dX11_init_129 : decode cX11_init 129 = .ok (.putfield 57, 3) := by decide +kernel
theorem dX11_init_132 : decode cX11_init 132 = .ok (.aload_n 0, 1) := by decide +kernel
theorem dX11_init_133 : decode cX11_init 133 = .ok (.bipush 16, 2) := by decide +kernel
theorem dX11_init_135 : decode cX11_init 135 = .ok (.newarray .int, 2) := by decide +kernel
theorem dX11_init_137 : decode cX11_init 137 = .ok (.putfield 60, 3) := by decide +kernel
theorem dX11_init_140 : decode cX11_init 140 = .ok (.aload_n 0, 1) := by decide +kernel
theorem dX11_init_141 : decode cX11_init 141 = .ok (.sipush 192, 3) := by decide +kernel
theorem dX11_init_144 : decode cX11_init 144 = .ok (.newarray .int, 2) := by decide +kernel
theorem dX11_init_146 : decode cX11_init 146 = .ok (.putfield 63, 3) := by decide +kernel
theorem dX11_init_149 : decode cX11_init 149 = .ok (.aload_n 0, 1) := by decide +kernel
theorem dX11_init_150 : decode cX11_init 150 = .ok (.iload_n 1, 1) := by decide +kernel
theorem dX11_init_151 : decode cX11_init 151 = .ok (.iconst 1, 1) := by decide +kernel
theorem dX11_init_152 : decode cX11_init 152 = .ok (.if_icmp .ge 7, 3) := by decide +kernel
theorem dX11_init_155 : decode cX11_init 155 = .ok (.iconst 1, 1) := by decide +kernel
theorem dX11_init_156 : decode cX11_init 156 = .ok (.goto 15, 3) := by decide +kernel
theorem dX11_init_159 : decode cX11_init 159 = .ok (.iload_n 1, 1) := by decide +kernel
theorem dX11_init_160 : decode cX11_init 160 = .ok (.bipush 8, 2) := by decide +kernel
theorem dX11_init_162 : decode cX11_init 162 = .ok (.if_icmp .le 8, 3) := by decide +kernel
theorem dX11_init_165 : decode cX11_init 165 = .ok (.bipush 8, 2) := by decide +kernel
theorem dX11_init_167 : decode cX11_init 167 = .ok (.goto 4, 3) := by decide +kernel
theorem dX11_init_170 : decode cX11_init 170 = .ok (.iload_n 1, 1) := by decide +kernel
theorem dX11_init_171 : decode cX11_init 171 = .ok (.putfield 66, 3) := by decide +kernel
theorem dX11_init_174 : decode cX11_init 174 = .ok (.return_, 1) := by decide +kernel
theorem dX11_thrown_0 : decode cX11_thrown 0 = .ok (.aload_n 0, 1) := by decide +kernel
theorem dX11_thrown_1 : decode cX11_thrown 1 = .ok (.getfield 70, 3) := by decide +kernel
theorem dX11_thrown_4 : decode cX11_thrown 4 = .ok (.ireturn, 1) := by decide +kernel
theorem dX11_refuse_0 : decode cX11_refuse 0 = .ok (.aload_n 0, 1) := by decide +kernel
theorem dX11_refuse_1 : decode cX11_refuse 1 = .ok (.iload_n 1, 1) := by decide +kernel
theorem dX11_refuse_2 : decode cX11_refuse 2 = .ok (.putfield 70, 3) := by decide +kernel
theorem dX11_refuse_5 : decode cX11_refuse 5 = .ok (.iconst 0, 1) := by decide +kernel
theorem dX11_refuse_6 : decode cX11_refuse 6 = .ok (.ireturn, 1) := by decide +kernel
theorem dX11_isCharacter_0 : decode cX11_isCharacter 0 = .ok (.lload_n 0, 1) := by decide +kernel
theorem dX11_isCharacter_1 : decode cX11_isCharacter 1 = .ok (.ldc2_w 73, 3) := by decide +kernel
theorem dX11_isCharacter_4 : decode cX11_isCharacter 4 = .ok (.lcmp, 1) := by decide +kernel
theorem dX11_isCharacter_5 : decode cX11_isCharacter 5 = .ok (.ifCond .eq 19, 3) := by decide +kernel
theorem dX11_isCharacter_8 : decode cX11_isCharacter 8 = .ok (.lload_n 0, 1) := by decide +kernel
theorem dX11_isCharacter_9 : decode cX11_isCharacter 9 = .ok (.ldc2_w 75, 3) := by decide +kernel
theorem dX11_isCharacter_12 : decode cX11_isCharacter 12 = .ok (.lcmp, 1) := by decide +kernel
theorem dX11_isCharacter_13 : decode cX11_isCharacter 13 = .ok (.ifCond .lt 15, 3) := by decide +kernel
theorem dX11_isCharacter_16 : decode cX11_isCharacter 16 = .ok (.lload_n 0, 1) := by decide +kernel
theorem dX11_isCharacter_17 : decode cX11_isCharacter 17 = .ok (.ldc2_w 77, 3) := by decide +kernel
theorem dX11_isCharacter_20 : decode cX11_isCharacter 20 = .ok (.lcmp, 1) := by decide +kernel
theorem dX11_isCharacter_21 : decode cX11_isCharacter 21 = .ok (.ifCond .gt 7, 3) := by decide +kernel
theorem dX11_isCharacter_24 : decode cX11_isCharacter 24 = .ok (.iconst 1, 1) := by decide +kernel
theorem dX11_isCharacter_25 : decode cX11_isCharacter 25 = .ok (.goto 4, 3) := by decide +kernel
theorem dX11_isCharacter_28 : decode cX11_isCharacter 28 = .ok (.iconst 0, 1) := by decide +kernel
theorem dX11_isCharacter_29 : decode cX11_isCharacter 29 = .ok (.ireturn, 1) := by decide +kernel
theorem dX11_type_0 : decode cX11_type 0 = .ok (.iload_n 3, 1) := by decide +kernel
theorem dX11_type_1 : decode cX11_type 1 = .ok (.iconst 1, 1) := by decide +kernel
theorem dX11_type_2 : decode cX11_type 2 = .ok (.if_icmp .lt 13, 3) := by decide +kernel
theorem dX11_type_5 : decode cX11_type 5 = .ok (.iload_n 3, 1) := by decide +kernel
theorem dX11_type_6 : decode cX11_type 6 = .ok (.bipush 8, 2) := by decide +kernel
theorem dX11_type_8 : decode cX11_type 8 = .ok (.if_icmp .gt 7, 3) := by decide +kernel
theorem dX11_type_11 : decode cX11_type 11 = .ok (.iconst 1, 1) := by decide +kernel
theorem dX11_type_12 : decode cX11_type 12 = .ok (.goto 4, 3) := by decide +kernel
theorem dX11_type_15 : decode cX11_type 15 = .ok (.iconst 0, 1) := by decide +kernel
theorem dX11_type_16 : decode cX11_type 16 = .ok (.istore 4, 2) := by decide +kernel
theorem dX11_type_18 : decode cX11_type 18 = .ok (.iconst 0, 1) := by decide +kernel
theorem dX11_type_19 : decode cX11_type 19 = .ok (.istore 5, 2) := by decide +kernel
theorem dX11_type_21 : decode cX11_type 21 = .ok (.iload 5, 2) := by decide +kernel
theorem dX11_type_23 : decode cX11_type 23 = .ok (.iload_n 3, 1) := by decide +kernel
theorem dX11_type_24 : decode cX11_type 24 = .ok (.if_icmp .ge 30, 3) := by decide +kernel
theorem dX11_type_27 : decode cX11_type 27 = .ok (.iload 4, 2) := by decide +kernel
theorem dX11_type_29 : decode cX11_type 29 = .ok (.ifCond .eq 25, 3) := by decide +kernel
theorem dX11_type_32 : decode cX11_type 32 = .ok (.lload_n 1, 1) := by decide +kernel
theorem dX11_type_33 : decode cX11_type 33 = .ok (.bipush 8, 2) := by decide +kernel
theorem dX11_type_35 : decode cX11_type 35 = .ok (.iload 5, 2) := by decide +kernel
theorem dX11_type_37 : decode cX11_type 37 = .ok (.imul, 1) := by decide +kernel
theorem dX11_type_38 : decode cX11_type 38 = .ok (.lshr, 1) := by decide +kernel
theorem dX11_type_39 : decode cX11_type 39 = .ok (.ldc2_w 79, 3) := by decide +kernel
theorem dX11_type_42 : decode cX11_type 42 = .ok (.land, 1) := by decide +kernel
theorem dX11_type_43 : decode cX11_type 43 = .ok (.invokestatic 81, 3) := by decide +kernel
theorem dX11_type_46 : decode cX11_type 46 = .ok (.istore 4, 2) := by decide +kernel
theorem dX11_type_48 : decode cX11_type 48 = .ok (.iinc 5 1, 3) := by decide +kernel
theorem dX11_type_51 : decode cX11_type 51 = .ok (.goto (-30), 3) := by decide +kernel
theorem dX11_type_54 : decode cX11_type 54 = .ok (.aload_n 0, 1) := by decide +kernel
theorem dX11_type_55 : decode cX11_type 55 = .ok (.iload 4, 2) := by decide +kernel
theorem dX11_type_57 : decode cX11_type 57 = .ok (.ifCond .ne 7, 3) := by decide +kernel
theorem dX11_type_60 : decode cX11_type 60 = .ok (.iconst 1, 1) := by decide +kernel
theorem dX11_type_61 : decode cX11_type 61 = .ok (.goto 20, 3) := by decide +kernel
theorem dX11_type_64 : decode cX11_type 64 = .ok (.aload_n 0, 1) := by decide +kernel
theorem dX11_type_65 : decode cX11_type 65 = .ok (.getfield 85, 3) := by decide +kernel
theorem dX11_type_68 : decode cX11_type 68 = .ok (.iload_n 3, 1) := by decide +kernel
theorem dX11_type_69 : decode cX11_type 69 = .ok (.iadd, 1) := by decide +kernel
theorem dX11_type_70 : decode cX11_type 70 = .ok (.sipush 400, 3) := by decide +kernel
theorem dX11_type_73 : decode cX11_type 73 = .ok (.if_icmp .le 7, 3) := by decide +kernel
theorem dX11_type_76 : decode cX11_type 76 = .ok (.iconst 2, 1) := by decide +kernel
theorem dX11_type_77 : decode cX11_type 77 = .ok (.goto 4, 3) := by decide +kernel
theorem dX11_type_80 : decode cX11_type 80 = .ok (.iconst 0, 1) := by decide +kernel
theorem dX11_type_81 : decode cX11_type 81 = .ok (.putfield 70, 3) := by decide +kernel
theorem dX11_type_84 : decode cX11_type 84 = .ok (.iconst 0, 1) := by decide +kernel
theorem dX11_type_85 : decode cX11_type 85 = .ok (.istore 5, 2) := by decide +kernel
theorem dX11_type_87 : decode cX11_type 87 = .ok (.iload 5, 2) := by decide +kernel
theorem dX11_type_89 : decode cX11_type 89 = .ok (.iload_n 3, 1) := by decide +kernel
theorem dX11_type_90 : decode cX11_type 90 = .ok (.if_icmp .ge 41, 3) := by decide +kernel
theorem dX11_type_93 : decode cX11_type 93 = .ok (.aload_n 0, 1) := by decide +kernel
theorem dX11_type_94 : decode cX11_type 94 = .ok (.getfield 70, 3) := by decide +kernel
theorem dX11_type_97 : decode cX11_type 97 = .ok (.ifCond .ne 34, 3) := by decide +kernel
theorem dX11_type_100 : decode cX11_type 100 = .ok (.aload_n 0, 1) := by decide +kernel
theorem dX11_type_101 : decode cX11_type 101 = .ok (.getfield 7, 3) := by decide +kernel
theorem dX11_type_104 : decode cX11_type 104 = .ok (.aload_n 0, 1) := by decide +kernel
theorem dX11_type_105 : decode cX11_type 105 = .ok (.getfield 85, 3) := by decide +kernel
theorem dX11_type_108 : decode cX11_type 108 = .ok (.iload 5, 2) := by decide +kernel
theorem dX11_type_110 : decode cX11_type 110 = .ok (.iadd, 1) := by decide +kernel
theorem dX11_type_111 : decode cX11_type 111 = .ok (.lload_n 1, 1) := by decide +kernel
theorem dX11_type_112 : decode cX11_type 112 = .ok (.bipush 8, 2) := by decide +kernel
theorem dX11_type_114 : decode cX11_type 114 = .ok (.iload 5, 2) := by decide +kernel
theorem dX11_type_116 : decode cX11_type 116 = .ok (.imul, 1) := by decide +kernel
theorem dX11_type_117 : decode cX11_type 117 = .ok (.lshr, 1) := by decide +kernel
theorem dX11_type_118 : decode cX11_type 118 = .ok (.ldc2_w 79, 3) := by decide +kernel
theorem dX11_type_121 : decode cX11_type 121 = .ok (.land, 1) := by decide +kernel
theorem dX11_type_122 : decode cX11_type 122 = .ok (.l2i, 1) := by decide +kernel
theorem dX11_type_123 : decode cX11_type 123 = .ok (.i2c, 1) := by decide +kernel
theorem dX11_type_124 : decode cX11_type 124 = .ok (.castore, 1) := by decide +kernel
theorem dX11_type_125 : decode cX11_type 125 = .ok (.iinc 5 1, 3) := by decide +kernel
theorem dX11_type_128 : decode cX11_type 128 = .ok (.goto (-41), 3) := by decide +kernel
theorem dX11_type_131 : decode cX11_type 131 = .ok (.aload_n 0, 1) := by decide +kernel
theorem dX11_type_132 : decode cX11_type 132 = .ok (.dup, 1) := by decide +kernel
theorem dX11_type_133 : decode cX11_type 133 = .ok (.getfield 85, 3) := by decide +kernel
theorem dX11_type_136 : decode cX11_type 136 = .ok (.aload_n 0, 1) := by decide +kernel
theorem dX11_type_137 : decode cX11_type 137 = .ok (.getfield 70, 3) := by decide +kernel
theorem dX11_type_140 : decode cX11_type 140 = .ok (.ifCond .ne 7, 3) := by decide +kernel
theorem dX11_type_143 : decode cX11_type 143 = .ok (.iload_n 3, 1) := by decide +kernel
theorem dX11_type_144 : decode cX11_type 144 = .ok (.goto 4, 3) := by decide +kernel
theorem dX11_type_147 : decode cX11_type 147 = .ok (.iconst 0, 1) := by decide +kernel
theorem dX11_type_148 : decode cX11_type 148 = .ok (.iadd, 1) := by decide +kernel
theorem dX11_type_149 : decode cX11_type 149 = .ok (.putfield 85, 3) := by decide +kernel
theorem dX11_type_152 : decode cX11_type 152 = .ok (.aload_n 0, 1) := by decide +kernel
theorem dX11_type_153 : decode cX11_type 153 = .ok (.getfield 70, 3) := by decide +kernel
theorem dX11_type_156 : decode cX11_type 156 = .ok (.ifCond .ne 10, 3) := by decide +kernel
theorem dX11_type_159 : decode cX11_type 159 = .ok (.aload_n 0, 1) := by decide +kernel
theorem dX11_type_160 : decode cX11_type 160 = .ok (.getfield 85, 3) := by decide +kernel
theorem dX11_type_163 : decode cX11_type 163 = .ok (.goto 4, 3) := by decide +kernel
theorem dX11_type_166 : decode cX11_type 166 = .ok (.iconst 0, 1) := by decide +kernel
theorem dX11_type_167 : decode cX11_type 167 = .ok (.ireturn, 1) := by decide +kernel
theorem dX11_clear_0 : decode cX11_clear 0 = .ok (.aload_n 0, 1) := by decide +kernel
theorem dX11_clear_1 : decode cX11_clear 1 = .ok (.iconst 0, 1) := by decide +kernel
theorem dX11_clear_2 : decode cX11_clear 2 = .ok (.putfield 70, 3) := by decide +kernel
theorem dX11_clear_5 : decode cX11_clear 5 = .ok (.aload_n 0, 1) := by decide +kernel
theorem dX11_clear_6 : decode cX11_clear 6 = .ok (.getfield 85, 3) := by decide +kernel
theorem dX11_clear_9 : decode cX11_clear 9 = .ok (.istore_n 1, 1) := by decide +kernel
theorem dX11_clear_10 : decode cX11_clear 10 = .ok (.aload_n 0, 1) := by decide +kernel
theorem dX11_clear_11 : decode cX11_clear 11 = .ok (.iconst 0, 1) := by decide +kernel
theorem dX11_clear_12 : decode cX11_clear 12 = .ok (.putfield 85, 3) := by decide +kernel
theorem dX11_clear_15 : decode cX11_clear 15 = .ok (.iload_n 1, 1) := by decide +kernel
theorem dX11_clear_16 : decode cX11_clear 16 = .ok (.ireturn, 1) := by decide +kernel
theorem dX11_character_0 : decode cX11_character 0 = .ok (.iload_n 1, 1) := by decide +kernel
theorem dX11_character_1 : decode cX11_character 1 = .ok (.aload_n 0, 1) := by decide +kernel
theorem dX11_character_2 : decode cX11_character 2 = .ok (.getfield 85, 3) := by decide +kernel
theorem dX11_character_5 : decode cX11_character 5 = .ok (.if_icmp .ge 12, 3) := by decide +kernel
theorem dX11_character_8 : decode cX11_character 8 = .ok (.aload_n 0, 1) := by decide +kernel
theorem dX11_character_9 : decode cX11_character 9 = .ok (.getfield 7, 3) := by decide +kernel
theorem dX11_character_12 : decode cX11_character 12 = .ok (.iload_n 1, 1) := by decide +kernel
theorem dX11_character_13 : decode cX11_character 13 = .ok (.caload, 1) := by decide +kernel
theorem dX11_character_14 : decode cX11_character 14 = .ok (.goto 5, 3) := by decide +kernel
theorem dX11_character_17 : decode cX11_character 17 = .ok (.bipush 10, 2) := by decide +kernel
theorem dX11_character_19 : decode cX11_character 19 = .ok (.ireturn, 1) := by decide +kernel
theorem dX11_isLetter_0 : decode cX11_isLetter 0 = .ok (.iload_n 0, 1) := by decide +kernel
theorem dX11_isLetter_1 : decode cX11_isLetter 1 = .ok (.bipush 97, 2) := by decide +kernel
theorem dX11_isLetter_3 : decode cX11_isLetter 3 = .ok (.if_icmp .lt 13, 3) := by decide +kernel
theorem dX11_isLetter_6 : decode cX11_isLetter 6 = .ok (.iload_n 0, 1) := by decide +kernel
theorem dX11_isLetter_7 : decode cX11_isLetter 7 = .ok (.bipush 122, 2) := by decide +kernel
theorem dX11_isLetter_9 : decode cX11_isLetter 9 = .ok (.if_icmp .gt 7, 3) := by decide +kernel
theorem dX11_isLetter_12 : decode cX11_isLetter 12 = .ok (.iconst 1, 1) := by decide +kernel
theorem dX11_isLetter_13 : decode cX11_isLetter 13 = .ok (.goto 4, 3) := by decide +kernel
theorem dX11_isLetter_16 : decode cX11_isLetter 16 = .ok (.iconst 0, 1) := by decide +kernel
theorem dX11_isLetter_17 : decode cX11_isLetter 17 = .ok (.ireturn, 1) := by decide +kernel
theorem dX11_isDigit_0 : decode cX11_isDigit 0 = .ok (.iload_n 0, 1) := by decide +kernel
theorem dX11_isDigit_1 : decode cX11_isDigit 1 = .ok (.bipush 48, 2) := by decide +kernel
theorem dX11_isDigit_3 : decode cX11_isDigit 3 = .ok (.if_icmp .lt 13, 3) := by decide +kernel
theorem dX11_isDigit_6 : decode cX11_isDigit 6 = .ok (.iload_n 0, 1) := by decide +kernel
theorem dX11_isDigit_7 : decode cX11_isDigit 7 = .ok (.bipush 57, 2) := by decide +kernel
theorem dX11_isDigit_9 : decode cX11_isDigit 9 = .ok (.if_icmp .gt 7, 3) := by decide +kernel
theorem dX11_isDigit_12 : decode cX11_isDigit 12 = .ok (.iconst 1, 1) := by decide +kernel
theorem dX11_isDigit_13 : decode cX11_isDigit 13 = .ok (.goto 4, 3) := by decide +kernel
theorem dX11_isDigit_16 : decode cX11_isDigit 16 = .ok (.iconst 0, 1) := by decide +kernel
theorem dX11_isDigit_17 : decode cX11_isDigit 17 = .ok (.ireturn, 1) := by decide +kernel
theorem dX11_skip_0 : decode cX11_skip 0 = .ok (.aload_n 0, 1) := by decide +kernel
theorem dX11_skip_1 : decode cX11_skip 1 = .ok (.aload_n 0, 1) := by decide +kernel
theorem dX11_skip_2 : decode cX11_skip 2 = .ok (.getfield 88, 3) := by decide +kernel
theorem dX11_skip_5 : decode cX11_skip 5 = .ok (.invokevirtual 91, 3) := by decide +kernel
theorem dX11_skip_8 : decode cX11_skip 8 = .ok (.bipush 32, 2) := by decide +kernel
theorem dX11_skip_10 : decode cX11_skip 10 = .ok (.if_icmp .ne 16, 3) := by decide +kernel
theorem dX11_skip_13 : decode cX11_skip 13 = .ok (.aload_n 0, 1) := by decide +kernel
theorem dX11_skip_14 : decode cX11_skip 14 = .ok (.dup, 1) := by decide +kernel
theorem dX11_skip_15 : decode cX11_skip 15 = .ok (.getfield 88, 3) := by decide +kernel
theorem dX11_skip_18 : decode cX11_skip 18 = .ok (.iconst 1, 1) := by decide +kernel
theorem dX11_skip_19 : decode cX11_skip 19 = .ok (.iadd, 1) := by decide +kernel
theorem dX11_skip_20 : decode cX11_skip 20 = .ok (.putfield 88, 3) := by decide +kernel
theorem dX11_skip_23 : decode cX11_skip 23 = .ok (.goto (-23), 3) := by decide +kernel
theorem dX11_skip_26 : decode cX11_skip 26 = .ok (.return_, 1) := by decide +kernel
theorem dX11_isEnd_0 : decode cX11_isEnd 0 = .ok (.aload_n 0, 1) := by decide +kernel
theorem dX11_isEnd_1 : decode cX11_isEnd 1 = .ok (.aload_n 0, 1) := by decide +kernel
theorem dX11_isEnd_2 : decode cX11_isEnd 2 = .ok (.getfield 88, 3) := by decide +kernel
theorem dX11_isEnd_5 : decode cX11_isEnd 5 = .ok (.invokevirtual 91, 3) := by decide +kernel
theorem dX11_isEnd_8 : decode cX11_isEnd 8 = .ok (.bipush 10, 2) := by decide +kernel
theorem dX11_isEnd_10 : decode cX11_isEnd 10 = .ok (.if_icmp .eq 16, 3) := by decide +kernel
theorem dX11_isEnd_13 : decode cX11_isEnd 13 = .ok (.aload_n 0, 1) := by decide +kernel
theorem dX11_isEnd_14 : decode cX11_isEnd 14 = .ok (.aload_n 0, 1) := by decide +kernel
theorem dX11_isEnd_15 : decode cX11_isEnd 15 = .ok (.getfield 88, 3) := by decide +kernel
theorem dX11_isEnd_18 : decode cX11_isEnd 18 = .ok (.invokevirtual 91, 3) := by decide +kernel
theorem dX11_isEnd_21 : decode cX11_isEnd 21 = .ok (.bipush 59, 2) := by decide +kernel
theorem dX11_isEnd_23 : decode cX11_isEnd 23 = .ok (.if_icmp .ne 7, 3) := by decide +kernel
theorem dX11_isEnd_26 : decode cX11_isEnd 26 = .ok (.iconst 1, 1) := by decide +kernel
theorem dX11_isEnd_27 : decode cX11_isEnd 27 = .ok (.goto 4, 3) := by decide +kernel
theorem dX11_isEnd_30 : decode cX11_isEnd 30 = .ok (.iconst 0, 1) := by decide +kernel
theorem dX11_isEnd_31 : decode cX11_isEnd 31 = .ok (.ireturn, 1) := by decide +kernel
theorem dX11_letters_0 : decode cX11_letters 0 = .ok (.aload_n 0, 1) := by decide +kernel
theorem dX11_letters_1 : decode cX11_letters 1 = .ok (.invokevirtual 95, 3) := by decide +kernel
theorem dX11_letters_4 : decode cX11_letters 4 = .ok (.aload_n 0, 1) := by decide +kernel
theorem dX11_letters_5 : decode cX11_letters 5 = .ok (.getfield 88, 3) := by decide +kernel
theorem dX11_letters_8 : decode cX11_letters 8 = .ok (.istore_n 1, 1) := by decide +kernel
theorem dX11_letters_9 : decode cX11_letters 9 = .ok (.lconst 0, 1) := by decide +kernel
theorem dX11_letters_10 : decode cX11_letters 10 = .ok (.lstore_n 2, 1) := by decide +kernel
theorem dX11_letters_11 : decode cX11_letters 11 = .ok (.aload_n 0, 1) := by decide +kernel
theorem dX11_letters_12 : decode cX11_letters 12 = .ok (.aload_n 0, 1) := by decide +kernel
theorem dX11_letters_13 : decode cX11_letters 13 = .ok (.getfield 88, 3) := by decide +kernel
theorem dX11_letters_16 : decode cX11_letters 16 = .ok (.invokevirtual 91, 3) := by decide +kernel
theorem dX11_letters_19 : decode cX11_letters 19 = .ok (.invokestatic 98, 3) := by decide +kernel
theorem dX11_letters_22 : decode cX11_letters 22 = .ok (.ifCond .eq 53, 3) := by decide +kernel
theorem dX11_letters_25 : decode cX11_letters 25 = .ok (.aload_n 0, 1) := by decide +kernel
theorem dX11_letters_26 : decode cX11_letters 26 = .ok (.getfield 88, 3) := by decide +kernel
theorem dX11_letters_29 : decode cX11_letters 29 = .ok (.iload_n 1, 1) := by decide +kernel
theorem dX11_letters_30 : decode cX11_letters 30 = .ok (.isub, 1) := by decide +kernel
theorem dX11_letters_31 : decode cX11_letters 31 = .ok (.bipush 8, 2) := by decide +kernel
theorem dX11_letters_33 : decode cX11_letters 33 = .ok (.if_icmp .ge 27, 3) := by decide +kernel
theorem dX11_letters_36 : decode cX11_letters 36 = .ok (.lload_n 2, 1) := by decide +kernel
theorem dX11_letters_37 : decode cX11_letters 37 = .ok (.aload_n 0, 1) := by decide +kernel
theorem dX11_letters_38 : decode cX11_letters 38 = .ok (.aload_n 0, 1) := by decide +kernel
theorem dX11_letters_39 : decode cX11_letters 39 = .ok (.getfield 88, 3) := by decide +kernel
theorem dX11_letters_42 : decode cX11_letters 42 = .ok (.invokevirtual 91, 3) := by decide +kernel
theorem dX11_letters_45 : decode cX11_letters 45 = .ok (.i2l, 1) := by decide +kernel
theorem dX11_letters_46 : decode cX11_letters 46 = .ok (.bipush 8, 2) := by decide +kernel
theorem dX11_letters_48 : decode cX11_letters 48 = .ok (.aload_n 0, 1) := by decide +kernel
theorem dX11_letters_49 : decode cX11_letters 49 = .ok (.getfield 88, 3) := by decide +kernel
theorem dX11_letters_52 : decode cX11_letters 52 = .ok (.iload_n 1, 1) := by decide +kernel
theorem dX11_letters_53 : decode cX11_letters 53 = .ok (.isub, 1) := by decide +kernel
theorem dX11_letters_54 : decode cX11_letters 54 = .ok (.imul, 1) := by decide +kernel
theorem dX11_letters_55 : decode cX11_letters 55 = .ok (.lshl, 1) := by decide +kernel
theorem dX11_letters_56 : decode cX11_letters 56 = .ok (.lor, 1) := by decide +kernel
theorem dX11_letters_57 : decode cX11_letters 57 = .ok (.goto 4, 3) := by decide +kernel
theorem dX11_letters_60 : decode cX11_letters 60 = .ok (.lconst 0, 1) := by decide +kernel
theorem dX11_letters_61 : decode cX11_letters 61 = .ok (.lstore_n 2, 1) := by decide +kernel
theorem dX11_letters_62 : decode cX11_letters 62 = .ok (.aload_n 0, 1) := by decide +kernel
theorem dX11_letters_63 : decode cX11_letters 63 = .ok (.dup, 1) := by decide +kernel
theorem dX11_letters_64 : decode cX11_letters 64 = .ok (.getfield 88, 3) := by decide +kernel
theorem dX11_letters_67 : decode cX11_letters 67 = .ok (.iconst 1, 1) := by decide +kernel
theorem dX11_letters_68 : decode cX11_letters 68 = .ok (.iadd, 1) := by decide +kernel
theorem dX11_letters_69 : decode cX11_letters 69 = .ok (.putfield 88, 3) := by decide +kernel
theorem dX11_letters_72 : decode cX11_letters 72 = .ok (.goto (-61), 3) := by decide +kernel
theorem dX11_letters_75 : decode cX11_letters 75 = .ok (.aload_n 0, 1) := by decide +kernel
theorem dX11_letters_76 : decode cX11_letters 76 = .ok (.getfield 88, 3) := by decide +kernel
theorem dX11_letters_79 : decode cX11_letters 79 = .ok (.iload_n 1, 1) := by decide +kernel
theorem dX11_letters_80 : decode cX11_letters 80 = .ok (.isub, 1) := by decide +kernel
theorem dX11_letters_81 : decode cX11_letters 81 = .ok (.bipush 8, 2) := by decide +kernel
theorem dX11_letters_83 : decode cX11_letters 83 = .ok (.if_icmp .le 7, 3) := by decide +kernel
theorem dX11_letters_86 : decode cX11_letters 86 = .ok (.lconst 0, 1) := by decide +kernel
theorem dX11_letters_87 : decode cX11_letters 87 = .ok (.goto 4, 3) := by decide +kernel
theorem dX11_letters_90 : decode cX11_letters 90 = .ok (.lload_n 2, 1) := by decide +kernel
theorem dX11_letters_91 : decode cX11_letters 91 = .ok (.lreturn, 1) := by decide +kernel
theorem dX11_need_0 : decode cX11_need 0 = .ok (.aload_n 0, 1) := by decide +kernel
theorem dX11_need_1 : decode cX11_need 1 = .ok (.invokevirtual 95, 3) := by decide +kernel
theorem dX11_need_4 : decode cX11_need 4 = .ok (.aload_n 0, 1) := by decide +kernel
theorem dX11_need_5 : decode cX11_need 5 = .ok (.aload_n 0, 1) := by decide +kernel
theorem dX11_need_6 : decode cX11_need 6 = .ok (.getfield 102, 3) := by decide +kernel
theorem dX11_need_9 : decode cX11_need 9 = .ok (.ifCond .ne 15, 3) := by decide +kernel
theorem dX11_need_12 : decode cX11_need 12 = .ok (.aload_n 0, 1) := by decide +kernel
theorem dX11_need_13 : decode cX11_need 13 = .ok (.aload_n 0, 1) := by decide +kernel
theorem dX11_need_14 : decode cX11_need 14 = .ok (.getfield 88, 3) := by decide +kernel
theorem dX11_need_17 : decode cX11_need 17 = .ok (.invokevirtual 91, 3) := by decide +kernel
theorem dX11_need_20 : decode cX11_need 20 = .ok (.iload_n 1, 1) := by decide +kernel
theorem dX11_need_21 : decode cX11_need 21 = .ok (.if_icmp .eq 7, 3) := by decide +kernel
theorem dX11_need_24 : decode cX11_need 24 = .ok (.iconst 1, 1) := by decide +kernel
theorem dX11_need_25 : decode cX11_need 25 = .ok (.goto 4, 3) := by decide +kernel
theorem dX11_need_28 : decode cX11_need 28 = .ok (.iconst 0, 1) := by decide +kernel
theorem dX11_need_29 : decode cX11_need 29 = .ok (.putfield 102, 3) := by decide +kernel
theorem dX11_need_32 : decode cX11_need 32 = .ok (.aload_n 0, 1) := by decide +kernel
theorem dX11_need_33 : decode cX11_need 33 = .ok (.getfield 102, 3) := by decide +kernel
theorem dX11_need_36 : decode cX11_need 36 = .ok (.ifCond .ne 13, 3) := by decide +kernel
theorem dX11_need_39 : decode cX11_need 39 = .ok (.aload_n 0, 1) := by decide +kernel
theorem dX11_need_40 : decode cX11_need 40 = .ok (.dup, 1) := by decide +kernel
theorem dX11_need_41 : decode cX11_need 41 = .ok (.getfield 88, 3) := by decide +kernel
theorem dX11_need_44 : decode cX11_need 44 = .ok (.iconst 1, 1) := by decide +kernel
theorem dX11_need_45 : decode cX11_need 45 = .ok (.iadd, 1) := by decide +kernel
theorem dX11_need_46 : decode cX11_need 46 = .ok (.putfield 88, 3) := by decide +kernel
theorem dX11_need_49 : decode cX11_need 49 = .ok (.return_, 1) := by decide +kernel
theorem dX11_takeRegister_0 : decode cX11_takeRegister 0 = .ok (.aload_n 0, 1) := by decide +kernel
theorem dX11_takeRegister_1 : decode cX11_takeRegister 1 = .ok (.invokevirtual 95, 3) := by decide +kernel
theorem dX11_takeRegister_4 : decode cX11_takeRegister 4 = .ok (.aload_n 0, 1) := by decide +kernel
theorem dX11_takeRegister_5 : decode cX11_takeRegister 5 = .ok (.aload_n 0, 1) := by decide +kernel
theorem dX11_takeRegister_6 : decode cX11_takeRegister 6 = .ok (.getfield 102, 3) := by decide +kernel
theorem dX11_takeRegister_9 : decode cX11_takeRegister 9 = .ok (.ifCond .ne 32, 3) := by decide +kernel
theorem dX11_takeRegister_12 : decode cX11_takeRegister 12 = .ok (.aload_n 0, 1) := by decide +kernel
theorem dX11_takeRegister_13 : decode cX11_takeRegister 13 = .ok (.aload_n 0, 1) := by decide +kernel
theorem dX11_takeRegister_14 : decode cX11_takeRegister 14 = .ok (.getfield 88, 3) := by decide +kernel
theorem dX11_takeRegister_17 : decode cX11_takeRegister 17 = .ok (.invokevirtual 91, 3) := by decide +kernel
theorem dX11_takeRegister_20 : decode cX11_takeRegister 20 = .ok (.bipush 120, 2) := by decide +kernel
theorem dX11_takeRegister_22 : decode cX11_takeRegister 22 = .ok (.if_icmp .ne 19, 3) := by decide +kernel
theorem dX11_takeRegister_25 : decode cX11_takeRegister 25 = .ok (.aload_n 0, 1) := by decide +kernel
theorem dX11_takeRegister_26 : decode cX11_takeRegister 26 = .ok (.aload_n 0, 1) := by decide +kernel
theorem dX11_takeRegister_27 : decode cX11_takeRegister 27 = .ok (.getfield 88, 3) := by decide +kernel
theorem dX11_takeRegister_30 : decode cX11_takeRegister 30 = .ok (.iconst 1, 1) := by decide +kernel
theorem dX11_takeRegister_31 : decode cX11_takeRegister 31 = .ok (.iadd, 1) := by decide +kernel
theorem dX11_takeRegister_32 : decode cX11_takeRegister 32 = .ok (.invokevirtual 91, 3) := by decide +kernel
theorem dX11_takeRegister_35 : decode cX11_takeRegister 35 = .ok (.invokestatic 106, 3) := by decide +kernel
theorem dX11_takeRegister_38 : decode cX11_takeRegister 38 = .ok (.ifCond .ne 7, 3) := by decide +kernel
theorem dX11_takeRegister_41 : decode cX11_takeRegister 41 = .ok (.iconst 1, 1) := by decide +kernel
theorem dX11_takeRegister_42 : decode cX11_takeRegister 42 = .ok (.goto 4, 3) := by decide +kernel
theorem dX11_takeRegister_45 : decode cX11_takeRegister 45 = .ok (.iconst 0, 1) := by decide +kernel
theorem dX11_takeRegister_46 : decode cX11_takeRegister 46 = .ok (.putfield 102, 3) := by decide +kernel
theorem dX11_takeRegister_49 : decode cX11_takeRegister 49 = .ok (.aload_n 0, 1) := by decide +kernel
theorem dX11_takeRegister_50 : decode cX11_takeRegister 50 = .ok (.getfield 102, 3) := by decide +kernel
theorem dX11_takeRegister_53 : decode cX11_takeRegister 53 = .ok (.ifCond .eq 5, 3) := by decide +kernel
theorem dX11_takeRegister_56 : decode cX11_takeRegister 56 = .ok (.iconst 0, 1) := by decide +kernel
theorem dX11_takeRegister_57 : decode cX11_takeRegister 57 = .ok (.ireturn, 1) := by decide +kernel
theorem dX11_takeRegister_58 : decode cX11_takeRegister 58 = .ok (.aload_n 0, 1) := by decide +kernel
theorem dX11_takeRegister_59 : decode cX11_takeRegister 59 = .ok (.aload_n 0, 1) := by decide +kernel
theorem dX11_takeRegister_60 : decode cX11_takeRegister 60 = .ok (.getfield 88, 3) := by decide +kernel
theorem dX11_takeRegister_63 : decode cX11_takeRegister 63 = .ok (.iconst 1, 1) := by decide +kernel
theorem dX11_takeRegister_64 : decode cX11_takeRegister 64 = .ok (.iadd, 1) := by decide +kernel
theorem dX11_takeRegister_65 : decode cX11_takeRegister 65 = .ok (.invokevirtual 91, 3) := by decide +kernel
theorem dX11_takeRegister_68 : decode cX11_takeRegister 68 = .ok (.bipush 48, 2) := by decide +kernel
theorem dX11_takeRegister_70 : decode cX11_takeRegister 70 = .ok (.isub, 1) := by decide +kernel
theorem dX11_takeRegister_71 : decode cX11_takeRegister 71 = .ok (.istore_n 1, 1) := by decide +kernel
theorem dX11_takeRegister_72 : decode cX11_takeRegister 72 = .ok (.aload_n 0, 1) := by decide +kernel
theorem dX11_takeRegister_73 : decode cX11_takeRegister 73 = .ok (.dup, 1) := by decide +kernel
theorem dX11_takeRegister_74 : decode cX11_takeRegister 74 = .ok (.getfield 88, 3) := by decide +kernel
theorem dX11_takeRegister_77 : decode cX11_takeRegister 77 = .ok (.iconst 2, 1) := by decide +kernel
theorem dX11_takeRegister_78 : decode cX11_takeRegister 78 = .ok (.iadd, 1) := by decide +kernel
theorem dX11_takeRegister_79 : decode cX11_takeRegister 79 = .ok (.putfield 88, 3) := by decide +kernel
theorem dX11_takeRegister_82 : decode cX11_takeRegister 82 = .ok (.aload_n 0, 1) := by decide +kernel
theorem dX11_takeRegister_83 : decode cX11_takeRegister 83 = .ok (.aload_n 0, 1) := by decide +kernel
theorem dX11_takeRegister_84 : decode cX11_takeRegister 84 = .ok (.getfield 88, 3) := by decide +kernel
theorem dX11_takeRegister_87 : decode cX11_takeRegister 87 = .ok (.invokevirtual 91, 3) := by decide +kernel
theorem dX11_takeRegister_90 : decode cX11_takeRegister 90 = .ok (.invokestatic 106, 3) := by decide +kernel
theorem dX11_takeRegister_93 : decode cX11_takeRegister 93 = .ok (.ifCond .eq 30, 3) := by decide +kernel
theorem dX11_takeRegister_96 : decode cX11_takeRegister 96 = .ok (.bipush 10, 2) := by decide +kernel
theorem dX11_takeRegister_98 : decode cX11_takeRegister 98 = .ok (.iload_n 1, 1) := by decide +kernel
theorem dX11_takeRegister_99 : decode cX11_takeRegister 99 = .ok (.imul, 1) := by decide +kernel
theorem dX11_takeRegister_100 : decode cX11_takeRegister 100 = .ok (.aload_n 0, 1) := by decide +kernel
theorem dX11_takeRegister_101 : decode cX11_takeRegister 101 = .ok (.aload_n 0, 1) := by decide +kernel
theorem dX11_takeRegister_102 : decode cX11_takeRegister 102 = .ok (.getfield 88, 3) := by decide +kernel
theorem dX11_takeRegister_105 : decode cX11_takeRegister 105 = .ok (.invokevirtual 91, 3) := by decide +kernel
theorem dX11_takeRegister_108 : decode cX11_takeRegister 108 = .ok (.iadd, 1) := by decide +kernel
theorem dX11_takeRegister_109 : decode cX11_takeRegister 109 = .ok (.bipush 48, 2) := by decide +kernel
theorem dX11_takeRegister_111 : decode cX11_takeRegister 111 = .ok (.isub, 1) := by decide +kernel
theorem dX11_takeRegister_112 : decode cX11_takeRegister 112 = .ok (.istore_n 1, 1) := by decide +kernel
theorem dX11_takeRegister_113 : decode cX11_takeRegister 113 = .ok (.aload_n 0, 1) := by decide +kernel
theorem dX11_takeRegister_114 : decode cX11_takeRegister 114 = .ok (.dup, 1) := by decide +kernel
theorem dX11_takeRegister_115 : decode cX11_takeRegister 115 = .ok (.getfield 88, 3) := by decide +kernel
theorem dX11_takeRegister_118 : decode cX11_takeRegister 118 = .ok (.iconst 1, 1) := by decide +kernel
theorem dX11_takeRegister_119 : decode cX11_takeRegister 119 = .ok (.iadd, 1) := by decide +kernel
theorem dX11_takeRegister_120 : decode cX11_takeRegister 120 = .ok (.putfield 88, 3) := by decide +kernel
theorem dX11_takeRegister_123 : decode cX11_takeRegister 123 = .ok (.aload_n 0, 1) := by decide +kernel
theorem dX11_takeRegister_124 : decode cX11_takeRegister 124 = .ok (.aload_n 0, 1) := by decide +kernel
theorem dX11_takeRegister_125 : decode cX11_takeRegister 125 = .ok (.aload_n 0, 1) := by decide +kernel
theorem dX11_takeRegister_126 : decode cX11_takeRegister 126 = .ok (.getfield 88, 3) := by decide +kernel
theorem dX11_takeRegister_129 : decode cX11_takeRegister 129 = .ok (.invokevirtual 91, 3) := by decide +kernel
theorem dX11_takeRegister_132 : decode cX11_takeRegister 132 = .ok (.invokestatic 106, 3) := by decide +kernel
theorem dX11_takeRegister_135 : decode cX11_takeRegister 135 = .ok (.ifCond .ne 9, 3) := by decide +kernel
theorem dX11_takeRegister_138 : decode cX11_takeRegister 138 = .ok (.iload_n 1, 1) := by decide +kernel
theorem dX11_takeRegister_139 : decode cX11_takeRegister 139 = .ok (.bipush 15, 2) := by decide +kernel
theorem dX11_takeRegister_141 : decode cX11_takeRegister 141 = .ok (.if_icmp .le 7, 3) := by decide +kernel
theorem dX11_takeRegister_144 : decode cX11_takeRegister 144 = .ok (.iconst 1, 1) := by decide +kernel
theorem dX11_takeRegister_145 : decode cX11_takeRegister 145 = .ok (.goto 4, 3) := by decide +kernel
theorem dX11_takeRegister_148 : decode cX11_takeRegister 148 = .ok (.iconst 0, 1) := by decide +kernel
theorem dX11_takeRegister_149 : decode cX11_takeRegister 149 = .ok (.putfield 102, 3) := by decide +kernel
theorem dX11_takeRegister_152 : decode cX11_takeRegister 152 = .ok (.iload_n 1, 1) := by decide +kernel
theorem dX11_takeRegister_153 : decode cX11_takeRegister 153 = .ok (.ireturn, 1) := by decide +kernel
theorem dX11_number_0 : decode cX11_number 0 = .ok (.aload_n 0, 1) := by decide +kernel
theorem dX11_number_1 : decode cX11_number 1 = .ok (.invokevirtual 95, 3) := by decide +kernel
theorem dX11_number_4 : decode cX11_number 4 = .ok (.aload_n 0, 1) := by decide +kernel
theorem dX11_number_5 : decode cX11_number 5 = .ok (.aload_n 0, 1) := by decide +kernel
theorem dX11_number_6 : decode cX11_number 6 = .ok (.getfield 88, 3) := by decide +kernel
theorem dX11_number_9 : decode cX11_number 9 = .ok (.invokevirtual 91, 3) := by decide +kernel
theorem dX11_number_12 : decode cX11_number 12 = .ok (.bipush 45, 2) := by decide +kernel
theorem dX11_number_14 : decode cX11_number 14 = .ok (.if_icmp .ne 7, 3) := by decide +kernel
theorem dX11_number_17 : decode cX11_number 17 = .ok (.iconst 1, 1) := by decide +kernel
theorem dX11_number_18 : decode cX11_number 18 = .ok (.goto 4, 3) := by decide +kernel
theorem dX11_number_21 : decode cX11_number 21 = .ok (.iconst 0, 1) := by decide +kernel
theorem dX11_number_22 : decode cX11_number 22 = .ok (.istore 5, 2) := by decide +kernel
theorem dX11_number_24 : decode cX11_number 24 = .ok (.iload 5, 2) := by decide +kernel
theorem dX11_number_26 : decode cX11_number 26 = .ok (.ifCond .eq 12, 3) := by decide +kernel
theorem dX11_number_29 : decode cX11_number 29 = .ok (.aload_n 0, 1) := by decide +kernel
theorem dX11_number_30 : decode cX11_number 30 = .ok (.getfield 88, 3) := by decide +kernel
theorem dX11_number_33 : decode cX11_number 33 = .ok (.iconst 1, 1) := by decide +kernel
theorem dX11_number_34 : decode cX11_number 34 = .ok (.iadd, 1) := by decide +kernel
theorem dX11_number_35 : decode cX11_number 35 = .ok (.goto 7, 3) := by decide +kernel
theorem dX11_number_38 : decode cX11_number 38 = .ok (.aload_n 0, 1) := by decide +kernel
theorem dX11_number_39 : decode cX11_number 39 = .ok (.getfield 88, 3) := by decide +kernel
theorem dX11_number_42 : decode cX11_number 42 = .ok (.istore 6, 2) := by decide +kernel
theorem dX11_number_44 : decode cX11_number 44 = .ok (.aload_n 0, 1) := by decide +kernel
theorem dX11_number_45 : decode cX11_number 45 = .ok (.aload_n 0, 1) := by decide +kernel
theorem dX11_number_46 : decode cX11_number 46 = .ok (.getfield 102, 3) := by decide +kernel
theorem dX11_number_49 : decode cX11_number 49 = .ok (.ifCond .ne 15, 3) := by decide +kernel
theorem dX11_number_52 : decode cX11_number 52 = .ok (.aload_n 0, 1) := by decide +kernel
theorem dX11_number_53 : decode cX11_number 53 = .ok (.iload 6, 2) := by decide +kernel
theorem dX11_number_55 : decode cX11_number 55 = .ok (.invokevirtual 91, 3) := by decide +kernel
theorem dX11_number_58 : decode cX11_number 58 = .ok (.invokestatic 106, 3) := by decide +kernel
theorem dX11_number_61 : decode cX11_number 61 = .ok (.ifCond .ne 7, 3) := by decide +kernel
theorem dX11_number_64 : decode cX11_number 64 = .ok (.iconst 1, 1) := by decide +kernel
theorem dX11_number_65 : decode cX11_number 65 = .ok (.goto 4, 3) := by decide +kernel
theorem dX11_number_68 : decode cX11_number 68 = .ok (.iconst 0, 1) := by decide +kernel
theorem dX11_number_69 : decode cX11_number 69 = .ok (.putfield 102, 3) := by decide +kernel
theorem dX11_number_72 : decode cX11_number 72 = .ok (.aload_n 0, 1) := by decide +kernel
theorem dX11_number_73 : decode cX11_number 73 = .ok (.getfield 102, 3) := by decide +kernel
theorem dX11_number_76 : decode cX11_number 76 = .ok (.ifCond .eq 5, 3) := by decide +kernel
theorem dX11_number_79 : decode cX11_number 79 = .ok (.lconst 0, 1) := by decide +kernel
theorem dX11_number_80 : decode cX11_number 80 = .ok (.lreturn, 1) := by decide +kernel
theorem dX11_number_81 : decode cX11_number 81 = .ok (.iload 6, 2) := by decide +kernel
theorem dX11_number_83 : decode cX11_number 83 = .ok (.istore 7, 2) := by decide +kernel
theorem dX11_number_85 : decode cX11_number 85 = .ok (.lconst 0, 1) := by decide +kernel
theorem dX11_number_86 : decode cX11_number 86 = .ok (.lstore 8, 2) := by decide +kernel
theorem dX11_number_88 : decode cX11_number 88 = .ok (.aload_n 0, 1) := by decide +kernel
theorem dX11_number_89 : decode cX11_number 89 = .ok (.iload 6, 2) := by decide +kernel
theorem dX11_number_91 : decode cX11_number 91 = .ok (.invokevirtual 91, 3) := by decide +kernel
theorem dX11_number_94 : decode cX11_number 94 = .ok (.invokestatic 106, 3) := by decide +kernel
theorem dX11_number_97 : decode cX11_number 97 = .ok (.ifCond .eq 44, 3) := by decide +kernel
theorem dX11_number_100 : decode cX11_number 100 = .ok (.iload 6, 2) := by decide +kernel
theorem dX11_number_102 : decode cX11_number 102 = .ok (.iload 7, 2) := by decide +kernel
theorem dX11_number_104 : decode cX11_number 104 = .ok (.isub, 1) := by decide +kernel
theorem dX11_number_105 : decode cX11_number 105 = .ok (.bipush 10, 2) := by decide +kernel
theorem dX11_number_107 : decode cX11_number 107 = .ok (.if_icmp .ge 24, 3) := by decide +kernel
theorem dX11_number_110 : decode cX11_number 110 = .ok (.ldc2_w 73, 3) := by decide +kernel
theorem dX11_number_113 : decode cX11_number 113 = .ok (.lload 8, 2) := by decide +kernel
theorem dX11_number_115 : decode cX11_number 115 = .ok (.lmul, 1) := by decide +kernel
theorem dX11_number_116 : decode cX11_number 116 = .ok (.aload_n 0, 1) := by decide +kernel
theorem dX11_number_117 : decode cX11_number 117 = .ok (.iload 6, 2) := by decide +kernel
theorem dX11_number_119 : decode cX11_number 119 = .ok (.invokevirtual 91, 3) := by decide +kernel
theorem dX11_number_122 : decode cX11_number 122 = .ok (.i2l, 1) := by decide +kernel
theorem dX11_number_123 : decode cX11_number 123 = .ok (.ladd, 1) := by decide +kernel
theorem dX11_number_124 : decode cX11_number 124 = .ok (.ldc2_w 109, 3) := by decide +kernel
theorem dX11_number_127 : decode cX11_number 127 = .ok (.lsub, 1) := by decide +kernel
theorem dX11_number_128 : decode cX11_number 128 = .ok (.goto 5, 3) := by decide +kernel
theorem dX11_number_131 : decode cX11_number 131 = .ok (.lload 8, 2) := by decide +kernel
theorem dX11_number_133 : decode cX11_number 133 = .ok (.lstore 8, 2) := by decide +kernel
theorem dX11_number_135 : decode cX11_number 135 = .ok (.iinc 6 1, 3) := by decide +kernel
theorem dX11_number_138 : decode cX11_number 138 = .ok (.goto (-50), 3) := by decide +kernel
theorem dX11_number_141 : decode cX11_number 141 = .ok (.aload_n 0, 1) := by decide +kernel
theorem dX11_number_142 : decode cX11_number 142 = .ok (.iload 6, 2) := by decide +kernel
theorem dX11_number_144 : decode cX11_number 144 = .ok (.putfield 88, 3) := by decide +kernel
theorem dX11_number_147 : decode cX11_number 147 = .ok (.iload 5, 2) := by decide +kernel
theorem dX11_number_149 : decode cX11_number 149 = .ok (.ifCond .eq 9, 3) := by decide +kernel
theorem dX11_number_152 : decode cX11_number 152 = .ok (.lload 8, 2) := by decide +kernel
theorem dX11_number_154 : decode cX11_number 154 = .ok (.lneg, 1) := by decide +kernel
theorem dX11_number_155 : decode cX11_number 155 = .ok (.goto 5, 3) := by decide +kernel
theorem dX11_number_158 : decode cX11_number 158 = .ok (.lload 8, 2) := by decide +kernel
theorem dX11_number_160 : decode cX11_number 160 = .ok (.lstore 8, 2) := by decide +kernel
theorem dX11_number_162 : decode cX11_number 162 = .ok (.aload_n 0, 1) := by decide +kernel
theorem dX11_number_163 : decode cX11_number 163 = .ok (.aload_n 0, 1) := by decide +kernel
theorem dX11_number_164 : decode cX11_number 164 = .ok (.getfield 111, 3) := by decide +kernel
theorem dX11_number_167 : decode cX11_number 167 = .ok (.ifCond .ne 27, 3) := by decide +kernel
theorem dX11_number_170 : decode cX11_number 170 = .ok (.iload 6, 2) := by decide +kernel
theorem dX11_number_172 : decode cX11_number 172 = .ok (.iload 7, 2) := by decide +kernel
theorem dX11_number_174 : decode cX11_number 174 = .ok (.isub, 1) := by decide +kernel
theorem dX11_number_175 : decode cX11_number 175 = .ok (.bipush 10, 2) := by decide +kernel
theorem dX11_number_177 : decode cX11_number 177 = .ok (.if_icmp .gt 17, 3) := by decide +kernel
theorem dX11_number_180 : decode cX11_number 180 = .ok (.lload 8, 2) := by decide +kernel
theorem dX11_number_182 : decode cX11_number 182 = .ok (.lload_n 1, 1) := by decide +kernel
theorem dX11_number_183 : decode cX11_number 183 = .ok (.lcmp, 1) := by decide +kernel
theorem dX11_number_184 : decode cX11_number 184 = .ok (.ifCond .lt 10, 3) := by decide +kernel
theorem dX11_number_187 : decode cX11_number 187 = .ok (.lload 8, 2) := by decide +kernel
theorem dX11_number_189 : decode cX11_number 189 = .ok (.lload_n 3, 1) := by decide +kernel
theorem dX11_number_190 : decode cX11_number 190 = .ok (.lcmp, 1) := by decide +kernel
theorem dX11_number_191 : decode cX11_number 191 = .ok (.ifCond .le 7, 3) := by decide +kernel
theorem dX11_number_194 : decode cX11_number 194 = .ok (.iconst 1, 1) := by decide +kernel
theorem dX11_number_195 : decode cX11_number 195 = .ok (.goto 4, 3) := by decide +kernel
theorem dX11_number_198 : decode cX11_number 198 = .ok (.iconst 0, 1) := by decide +kernel
theorem dX11_number_199 : decode cX11_number 199 = .ok (.putfield 111, 3) := by decide +kernel
theorem dX11_number_202 : decode cX11_number 202 = .ok (.lload 8, 2) := by decide +kernel
theorem dX11_number_204 : decode cX11_number 204 = .ok (.lreturn, 1) := by decide +kernel
theorem dX11_lookup_0 : decode cX11_lookup 0 = .ok (.lload_n 0, 1) := by decide +kernel
theorem dX11_lookup_1 : decode cX11_lookup 1 = .ok (.ldc2_w 114, 3) := by decide +kernel
theorem dX11_lookup_4 : decode cX11_lookup 4 = .ok (.lcmp, 1) := by decide +kernel
theorem dX11_lookup_5 : decode cX11_lookup 5 = .ok (.ifCond .ne 7, 3) := by decide +kernel
theorem dX11_lookup_8 : decode cX11_lookup 8 = .ok (.sipush 887, 3) := by decide +kernel
theorem dX11_lookup_11 : decode cX11_lookup 11 = .ok (.ireturn, 1) := by decide +kernel
theorem dX11_lookup_12 : decode cX11_lookup 12 = .ok (.lload_n 0, 1) := by decide +kernel
theorem dX11_lookup_13 : decode cX11_lookup 13 = .ok (.ldc2_w 116, 3) := by decide +kernel
theorem dX11_lookup_16 : decode cX11_lookup 16 = .ok (.lcmp, 1) := by decide +kernel
theorem dX11_lookup_17 : decode cX11_lookup 17 = .ok (.ifCond .ne 7, 3) := by decide +kernel
theorem dX11_lookup_20 : decode cX11_lookup 20 = .ok (.sipush 1782, 3) := by decide +kernel
theorem dX11_lookup_23 : decode cX11_lookup 23 = .ok (.ireturn, 1) := by decide +kernel
theorem dX11_lookup_24 : decode cX11_lookup 24 = .ok (.lload_n 0, 1) := by decide +kernel
theorem dX11_lookup_25 : decode cX11_lookup 25 = .ok (.ldc2_w 118, 3) := by decide +kernel
theorem dX11_lookup_28 : decode cX11_lookup 28 = .ok (.lcmp, 1) := by decide +kernel
theorem dX11_lookup_29 : decode cX11_lookup 29 = .ok (.ifCond .ne 7, 3) := by decide +kernel
theorem dX11_lookup_32 : decode cX11_lookup 32 = .ok (.sipush 1651, 3) := by decide +kernel
theorem dX11_lookup_35 : decode cX11_lookup 35 = .ok (.ireturn, 1) := by decide +kernel
theorem dX11_lookup_36 : decode cX11_lookup 36 = .ok (.lload_n 0, 1) := by decide +kernel
theorem dX11_lookup_37 : decode cX11_lookup 37 = .ok (.ldc2_w 120, 3) := by decide +kernel
theorem dX11_lookup_40 : decode cX11_lookup 40 = .ok (.lcmp, 1) := by decide +kernel
theorem dX11_lookup_41 : decode cX11_lookup 41 = .ok (.ifCond .ne 7, 3) := by decide +kernel
theorem dX11_lookup_44 : decode cX11_lookup 44 = .ok (.sipush 1589, 3) := by decide +kernel
theorem dX11_lookup_47 : decode cX11_lookup 47 = .ok (.ireturn, 1) := by decide +kernel
theorem dX11_lookup_48 : decode cX11_lookup 48 = .ok (.lload_n 0, 1) := by decide +kernel
theorem dX11_lookup_49 : decode cX11_lookup 49 = .ok (.ldc2_w 122, 3) := by decide +kernel
theorem dX11_lookup_52 : decode cX11_lookup 52 = .ok (.lcmp, 1) := by decide +kernel
theorem dX11_lookup_53 : decode cX11_lookup 53 = .ok (.ifCond .ne 7, 3) := by decide +kernel
theorem dX11_lookup_56 : decode cX11_lookup 56 = .ok (.sipush 3637, 3) := by decide +kernel
theorem dX11_lookup_59 : decode cX11_lookup 59 = .ok (.ireturn, 1) := by decide +kernel
theorem dX11_lookup_60 : decode cX11_lookup 60 = .ok (.lload_n 0, 1) := by decide +kernel
theorem dX11_lookup_61 : decode cX11_lookup 61 = .ok (.ldc2_w 124, 3) := by decide +kernel
theorem dX11_lookup_64 : decode cX11_lookup 64 = .ok (.lcmp, 1) := by decide +kernel
theorem dX11_lookup_65 : decode cX11_lookup 65 = .ok (.ifCond .ne 7, 3) := by decide +kernel
theorem dX11_lookup_68 : decode cX11_lookup 68 = .ok (.sipush 9781, 3) := by decide +kernel
theorem dX11_lookup_71 : decode cX11_lookup 71 = .ok (.ireturn, 1) := by decide +kernel
theorem dX11_lookup_72 : decode cX11_lookup 72 = .ok (.lload_n 0, 1) := by decide +kernel
theorem dX11_lookup_73 : decode cX11_lookup 73 = .ok (.ldc2_w 126, 3) := by decide +kernel
theorem dX11_lookup_76 : decode cX11_lookup 76 = .ok (.lcmp, 1) := by decide +kernel
theorem dX11_lookup_77 : decode cX11_lookup 77 = .ok (.ifCond .ne 7, 3) := by decide +kernel
theorem dX11_lookup_80 : decode cX11_lookup 80 = .ok (.sipush 11829, 3) := by decide +kernel
theorem dX11_lookup_83 : decode cX11_lookup 83 = .ok (.ireturn, 1) := by decide +kernel
theorem dX11_lookup_84 : decode cX11_lookup 84 = .ok (.lload_n 0, 1) := by decide +kernel
theorem dX11_lookup_85 : decode cX11_lookup 85 = .ok (.ldc2_w 128, 3) := by decide +kernel
theorem dX11_lookup_88 : decode cX11_lookup 88 = .ok (.lcmp, 1) := by decide +kernel
theorem dX11_lookup_89 : decode cX11_lookup 89 = .ok (.ifCond .ne 7, 3) := by decide +kernel
theorem dX11_lookup_92 : decode cX11_lookup 92 = .ok (.sipush 13877, 3) := by decide +kernel
theorem dX11_lookup_95 : decode cX11_lookup 95 = .ok (.ireturn, 1) := by decide +kernel
theorem dX11_lookup_96 : decode cX11_lookup 96 = .ok (.lload_n 0, 1) := by decide +kernel
theorem dX11_lookup_97 : decode cX11_lookup 97 = .ok (.ldc2_w 130, 3) := by decide +kernel
theorem dX11_lookup_100 : decode cX11_lookup 100 = .ok (.lcmp, 1) := by decide +kernel
theorem dX11_lookup_101 : decode cX11_lookup 101 = .ok (.ifCond .ne 7, 3) := by decide +kernel
theorem dX11_lookup_104 : decode cX11_lookup 104 = .ok (.sipush 15925, 3) := by decide +kernel
theorem dX11_lookup_107 : decode cX11_lookup 107 = .ok (.ireturn, 1) := by decide +kernel
theorem dX11_lookup_108 : decode cX11_lookup 108 = .ok (.lload_n 0, 1) := by decide +kernel
theorem dX11_lookup_109 : decode cX11_lookup 109 = .ok (.ldc2_w 132, 3) := by decide +kernel
theorem dX11_lookup_112 : decode cX11_lookup 112 = .ok (.lcmp, 1) := by decide +kernel
theorem dX11_lookup_113 : decode cX11_lookup 113 = .ok (.ifCond .ne 7, 3) := by decide +kernel
theorem dX11_lookup_116 : decode cX11_lookup 116 = .ok (.sipush 4147, 3) := by decide +kernel
theorem dX11_lookup_119 : decode cX11_lookup 119 = .ok (.ireturn, 1) := by decide +kernel
theorem dX11_lookup_120 : decode cX11_lookup 120 = .ok (.lload_n 0, 1) := by decide +kernel
theorem dX11_lookup_121 : decode cX11_lookup 121 = .ok (.ldc2_w 134, 3) := by decide +kernel
theorem dX11_lookup_124 : decode cX11_lookup 124 = .ok (.lcmp, 1) := by decide +kernel
theorem dX11_lookup_125 : decode cX11_lookup 125 = .ok (.ifCond .ne 6, 3) := by decide +kernel
theorem dX11_lookup_128 : decode cX11_lookup 128 = .ok (.bipush 51, 2) := by decide +kernel
theorem dX11_lookup_130 : decode cX11_lookup 130 = .ok (.ireturn, 1) := by decide +kernel
theorem dX11_lookup_131 : decode cX11_lookup 131 = .ok (.lload_n 0, 1) := by decide +kernel
theorem dX11_lookup_132 : decode cX11_lookup 132 = .ok (.ldc2_w 136, 3) := by decide +kernel
theorem dX11_lookup_135 : decode cX11_lookup 135 = .ok (.lcmp, 1) := by decide +kernel
theorem dX11_lookup_136 : decode cX11_lookup 136 = .ok (.ifCond .ne 7, 3) := by decide +kernel
theorem dX11_lookup_139 : decode cX11_lookup 139 = .ok (.sipush 8243, 3) := by decide +kernel
theorem dX11_lookup_142 : decode cX11_lookup 142 = .ok (.ireturn, 1) := by decide +kernel
theorem dX11_lookup_143 : decode cX11_lookup 143 = .ok (.lload_n 0, 1) := by decide +kernel
theorem dX11_lookup_144 : decode cX11_lookup 144 = .ok (.ldc2_w 138, 3) := by decide +kernel
theorem dX11_lookup_147 : decode cX11_lookup 147 = .ok (.lcmp, 1) := by decide +kernel
theorem dX11_lookup_148 : decode cX11_lookup 148 = .ok (.ifCond .ne 7, 3) := by decide +kernel
theorem dX11_lookup_151 : decode cX11_lookup 151 = .ok (.sipush 4660, 3) := by decide +kernel
theorem dX11_lookup_154 : decode cX11_lookup 154 = .ok (.ireturn, 1) := by decide +kernel
theorem dX11_lookup_155 : decode cX11_lookup 155 = .ok (.lload_n 0, 1) := by decide +kernel
theorem dX11_lookup_156 : decode cX11_lookup 156 = .ok (.ldc2_w 140, 3) := by decide +kernel
theorem dX11_lookup_159 : decode cX11_lookup 159 = .ok (.lcmp, 1) := by decide +kernel
theorem dX11_lookup_160 : decode cX11_lookup 160 = .ok (.ifCond .ne 7, 3) := by decide +kernel
theorem dX11_lookup_163 : decode cX11_lookup 163 = .ok (.sipush 564, 3) := by decide +kernel
theorem dX11_lookup_166 : decode cX11_lookup 166 = .ok (.ireturn, 1) := by decide +kernel
theorem dX11_lookup_167 : decode cX11_lookup 167 = .ok (.lload_n 0, 1) := by decide +kernel
theorem dX11_lookup_168 : decode cX11_lookup 168 = .ok (.ldc2_w 142, 3) := by decide +kernel
theorem dX11_lookup_171 : decode cX11_lookup 171 = .ok (.lcmp, 1) := by decide +kernel
theorem dX11_lookup_172 : decode cX11_lookup 172 = .ok (.ifCond .ne 7, 3) := by decide +kernel
theorem dX11_lookup_175 : decode cX11_lookup 175 = .ok (.sipush 306, 3) := by decide +kernel
theorem dX11_lookup_178 : decode cX11_lookup 178 = .ok (.ireturn, 1) := by decide +kernel
theorem dX11_lookup_179 : decode cX11_lookup 179 = .ok (.lload_n 0, 1) := by decide +kernel
theorem dX11_lookup_180 : decode cX11_lookup 180 = .ok (.ldc2_w 144, 3) := by decide +kernel
theorem dX11_lookup_183 : decode cX11_lookup 183 = .ok (.lcmp, 1) := by decide +kernel
theorem dX11_lookup_184 : decode cX11_lookup 184 = .ok (.ifCond .ne 7, 3) := by decide +kernel
theorem dX11_lookup_187 : decode cX11_lookup 187 = .ok (.sipush 4402, 3) := by decide +kernel
theorem dX11_lookup_190 : decode cX11_lookup 190 = .ok (.ireturn, 1) := by decide +kernel
theorem dX11_lookup_191 : decode cX11_lookup 191 = .ok (.lload_n 0, 1) := by decide +kernel
theorem dX11_lookup_192 : decode cX11_lookup 192 = .ok (.ldc2_w 146, 3) := by decide +kernel
theorem dX11_lookup_195 : decode cX11_lookup 195 = .ok (.lcmp, 1) := by decide +kernel
theorem dX11_lookup_196 : decode cX11_lookup 196 = .ok (.ifCond .ne 7, 3) := by decide +kernel
theorem dX11_lookup_199 : decode cX11_lookup 199 = .ok (.sipush 6450, 3) := by decide +kernel
theorem dX11_lookup_202 : decode cX11_lookup 202 = .ok (.ireturn, 1) := by decide +kernel
theorem dX11_lookup_203 : decode cX11_lookup 203 = .ok (.lload_n 0, 1) := by decide +kernel
theorem dX11_lookup_204 : decode cX11_lookup 204 = .ok (.ldc2_w 148, 3) := by decide +kernel
theorem dX11_lookup_207 : decode cX11_lookup 207 = .ok (.lcmp, 1) := by decide +kernel
theorem dX11_lookup_208 : decode cX11_lookup 208 = .ok (.ifCond .ne 7, 3) := by decide +kernel
theorem dX11_lookup_211 : decode cX11_lookup 211 = .ok (.sipush 8498, 3) := by decide +kernel
theorem dX11_lookup_214 : decode cX11_lookup 214 = .ok (.ireturn, 1) := by decide +kernel
theorem dX11_lookup_215 : decode cX11_lookup 215 = .ok (.lload_n 0, 1) := by decide +kernel
theorem dX11_lookup_216 : decode cX11_lookup 216 = .ok (.ldc2_w 150, 3) := by decide +kernel
theorem dX11_lookup_219 : decode cX11_lookup 219 = .ok (.lcmp, 1) := by decide +kernel
theorem dX11_lookup_220 : decode cX11_lookup 220 = .ok (.ifCond .ne 7, 3) := by decide +kernel
theorem dX11_lookup_223 : decode cX11_lookup 223 = .ok (.sipush 12594, 3) := by decide +kernel
theorem dX11_lookup_226 : decode cX11_lookup 226 = .ok (.ireturn, 1) := by decide +kernel
theorem dX11_lookup_227 : decode cX11_lookup 227 = .ok (.lload_n 0, 1) := by decide +kernel
theorem dX11_lookup_228 : decode cX11_lookup 228 = .ok (.ldc2_w 152, 3) := by decide +kernel
theorem dX11_lookup_231 : decode cX11_lookup 231 = .ok (.lcmp, 1) := by decide +kernel
theorem dX11_lookup_232 : decode cX11_lookup 232 = .ok (.ifCond .ne 7, 3) := by decide +kernel
theorem dX11_lookup_235 : decode cX11_lookup 235 = .ok (.sipush 14642, 3) := by decide +kernel
theorem dX11_lookup_238 : decode cX11_lookup 238 = .ok (.ireturn, 1) := by decide +kernel
theorem dX11_lookup_239 : decode cX11_lookup 239 = .ok (.lload_n 0, 1) := by decide +kernel
theorem dX11_lookup_240 : decode cX11_lookup 240 = .ok (.ldc2_w 154, 3) := by decide +kernel
theorem dX11_lookup_243 : decode cX11_lookup 243 = .ok (.lcmp, 1) := by decide +kernel
theorem dX11_lookup_244 : decode cX11_lookup 244 = .ok (.ifCond .ne 7, 3) := by decide +kernel
theorem dX11_lookup_247 : decode cX11_lookup 247 = .ok (.sipush 2360, 3) := by decide +kernel
theorem dX11_lookup_250 : decode cX11_lookup 250 = .ok (.ireturn, 1) := by decide +kernel
theorem dX11_lookup_251 : decode cX11_lookup 251 = .ok (.lload_n 0, 1) := by decide +kernel
theorem dX11_lookup_252 : decode cX11_lookup 252 = .ok (.ldc2_w 156, 3) := by decide +kernel
theorem dX11_lookup_255 : decode cX11_lookup 255 = .ok (.lcmp, 1) := by decide +kernel
theorem dX11_lookup_256 : decode cX11_lookup 256 = .ok (.ifCond .ne 7, 3) := by decide +kernel
theorem dX11_lookup_259 : decode cX11_lookup 259 = .ok (.sipush 10552, 3) := by decide +kernel
theorem dX11_lookup_262 : decode cX11_lookup 262 = .ok (.ireturn, 1) := by decide +kernel
theorem dX11_lookup_263 : decode cX11_lookup 263 = .ok (.lload_n 0, 1) := by decide +kernel
theorem dX11_lookup_264 : decode cX11_lookup 264 = .ok (.ldc2_w 158, 3) := by decide +kernel
theorem dX11_lookup_267 : decode cX11_lookup 267 = .ok (.lcmp, 1) := by decide +kernel
theorem dX11_lookup_268 : decode cX11_lookup 268 = .ok (.ifCond .ne 6, 3) := by decide +kernel
theorem dX11_lookup_271 : decode cX11_lookup 271 = .ok (.ldc 160, 2) := by decide +kernel
theorem dX11_lookup_273 : decode cX11_lookup 273 = .ok (.ireturn, 1) := by decide +kernel
theorem dX11_lookup_274 : decode cX11_lookup 274 = .ok (.lload_n 0, 1) := by decide +kernel
theorem dX11_lookup_275 : decode cX11_lookup 275 = .ok (.ldc2_w 161, 3) := by decide +kernel
theorem dX11_lookup_278 : decode cX11_lookup 278 = .ok (.lcmp, 1) := by decide +kernel
theorem dX11_lookup_279 : decode cX11_lookup 279 = .ok (.ifCond .ne 7, 3) := by decide +kernel
theorem dX11_lookup_282 : decode cX11_lookup 282 = .ok (.sipush 817, 3) := by decide +kernel
theorem dX11_lookup_285 : decode cX11_lookup 285 = .ok (.ireturn, 1) := by decide +kernel
theorem dX11_lookup_286 : decode cX11_lookup 286 = .ok (.lload_n 0, 1) := by decide +kernel
theorem dX11_lookup_287 : decode cX11_lookup 287 = .ok (.ldc2_w 163, 3) := by decide +kernel
theorem dX11_lookup_290 : decode cX11_lookup 290 = .ok (.lcmp, 1) := by decide +kernel
theorem dX11_lookup_291 : decode cX11_lookup 291 = .ok (.ifCond .ne 7, 3) := by decide +kernel
theorem dX11_lookup_294 : decode cX11_lookup 294 = .ok (.sipush 2865, 3) := by decide +kernel
theorem dX11_lookup_297 : decode cX11_lookup 297 = .ok (.ireturn, 1) := by decide +kernel
theorem dX11_lookup_298 : decode cX11_lookup 298 = .ok (.lload_n 0, 1) := by decide +kernel
theorem dX11_lookup_299 : decode cX11_lookup 299 = .ok (.ldc2_w 165, 3) := by decide +kernel
theorem dX11_lookup_302 : decode cX11_lookup 302 = .ok (.lcmp, 1) := by decide +kernel
theorem dX11_lookup_303 : decode cX11_lookup 303 = .ok (.ifCond .ne 7, 3) := by decide +kernel
theorem dX11_lookup_306 : decode cX11_lookup 306 = .ok (.sipush 4913, 3) := by decide +kernel
theorem dX11_lookup_309 : decode cX11_lookup 309 = .ok (.ireturn, 1) := by decide +kernel
theorem dX11_lookup_310 : decode cX11_lookup 310 = .ok (.lload_n 0, 1) := by decide +kernel
theorem dX11_lookup_311 : decode cX11_lookup 311 = .ok (.ldc2_w 167, 3) := by decide +kernel
theorem dX11_lookup_314 : decode cX11_lookup 314 = .ok (.lcmp, 1) := by decide +kernel
theorem dX11_lookup_315 : decode cX11_lookup 315 = .ok (.ifCond .ne 7, 3) := by decide +kernel
theorem dX11_lookup_318 : decode cX11_lookup 318 = .ok (.sipush 6961, 3) := by decide +kernel
theorem dX11_lookup_321 : decode cX11_lookup 321 = .ok (.ireturn, 1) := by decide +kernel
theorem dX11_lookup_322 : decode cX11_lookup 322 = .ok (.lload_n 0, 1) := by decide +kernel
theorem dX11_lookup_323 : decode cX11_lookup 323 = .ok (.ldc2_w 169, 3) := by decide +kernel
theorem dX11_lookup_326 : decode cX11_lookup 326 = .ok (.lcmp, 1) := by decide +kernel
theorem dX11_lookup_327 : decode cX11_lookup 327 = .ok (.ifCond .ne 7, 3) := by decide +kernel
theorem dX11_lookup_330 : decode cX11_lookup 330 = .ok (.sipush 9009, 3) := by decide +kernel
theorem dX11_lookup_333 : decode cX11_lookup 333 = .ok (.ireturn, 1) := by decide +kernel
theorem dX11_lookup_334 : decode cX11_lookup 334 = .ok (.lload_n 0, 1) := by decide +kernel
theorem dX11_lookup_335 : decode cX11_lookup 335 = .ok (.ldc2_w 171, 3) := by decide +kernel
theorem dX11_lookup_338 : decode cX11_lookup 338 = .ok (.lcmp, 1) := by decide +kernel
theorem dX11_lookup_339 : decode cX11_lookup 339 = .ok (.ifCond .ne 7, 3) := by decide +kernel
theorem dX11_lookup_342 : decode cX11_lookup 342 = .ok (.sipush 11057, 3) := by decide +kernel
theorem dX11_lookup_345 : decode cX11_lookup 345 = .ok (.ireturn, 1) := by decide +kernel
theorem dX11_lookup_346 : decode cX11_lookup 346 = .ok (.lload_n 0, 1) := by decide +kernel
theorem dX11_lookup_347 : decode cX11_lookup 347 = .ok (.ldc2_w 173, 3) := by decide +kernel
theorem dX11_lookup_350 : decode cX11_lookup 350 = .ok (.lcmp, 1) := by decide +kernel
theorem dX11_lookup_351 : decode cX11_lookup 351 = .ok (.ifCond .ne 7, 3) := by decide +kernel
theorem dX11_lookup_354 : decode cX11_lookup 354 = .ok (.sipush 13105, 3) := by decide +kernel
theorem dX11_lookup_357 : decode cX11_lookup 357 = .ok (.ireturn, 1) := by decide +kernel
theorem dX11_lookup_358 : decode cX11_lookup 358 = .ok (.lload_n 0, 1) := by decide +kernel
theorem dX11_lookup_359 : decode cX11_lookup 359 = .ok (.ldc2_w 175, 3) := by decide +kernel
theorem dX11_lookup_362 : decode cX11_lookup 362 = .ok (.lcmp, 1) := by decide +kernel
theorem dX11_lookup_363 : decode cX11_lookup 363 = .ok (.ifCond .ne 7, 3) := by decide +kernel
theorem dX11_lookup_366 : decode cX11_lookup 366 = .ok (.sipush 15153, 3) := by decide +kernel
theorem dX11_lookup_369 : decode cX11_lookup 369 = .ok (.ireturn, 1) := by decide +kernel
theorem dX11_lookup_370 : decode cX11_lookup 370 = .ok (.lload_n 0, 1) := by decide +kernel
theorem dX11_lookup_371 : decode cX11_lookup 371 = .ok (.ldc2_w 177, 3) := by decide +kernel
theorem dX11_lookup_374 : decode cX11_lookup 374 = .ok (.lcmp, 1) := by decide +kernel
theorem dX11_lookup_375 : decode cX11_lookup 375 = .ok (.ifCond .ne 6, 3) := by decide +kernel
theorem dX11_lookup_378 : decode cX11_lookup 378 = .ok (.ldc 179, 2) := by decide +kernel
theorem dX11_lookup_380 : decode cX11_lookup 380 = .ok (.ireturn, 1) := by decide +kernel
theorem dX11_lookup_381 : decode cX11_lookup 381 = .ok (.lload_n 0, 1) := by decide +kernel
theorem dX11_lookup_382 : decode cX11_lookup 382 = .ok (.ldc2_w 180, 3) := by decide +kernel
theorem dX11_lookup_385 : decode cX11_lookup 385 = .ok (.lcmp, 1) := by decide +kernel
theorem dX11_lookup_386 : decode cX11_lookup 386 = .ok (.ifCond .ne 6, 3) := by decide +kernel
theorem dX11_lookup_389 : decode cX11_lookup 389 = .ok (.ldc 182, 2) := by decide +kernel
theorem dX11_lookup_391 : decode cX11_lookup 391 = .ok (.ireturn, 1) := by decide +kernel
theorem dX11_lookup_392 : decode cX11_lookup 392 = .ok (.lload_n 0, 1) := by decide +kernel
theorem dX11_lookup_393 : decode cX11_lookup 393 = .ok (.ldc2_w 183, 3) := by decide +kernel
theorem dX11_lookup_396 : decode cX11_lookup 396 = .ok (.lcmp, 1) := by decide +kernel
theorem dX11_lookup_397 : decode cX11_lookup 397 = .ok (.ifCond .ne 7, 3) := by decide +kernel
theorem dX11_lookup_400 : decode cX11_lookup 400 = .ok (.sipush 185, 3) := by decide +kernel
theorem dX11_lookup_403 : decode cX11_lookup 403 = .ok (.ireturn, 1) := by decide +kernel
theorem dX11_lookup_404 : decode cX11_lookup 404 = .ok (.lload_n 0, 1) := by decide +kernel
theorem dX11_lookup_405 : decode cX11_lookup 405 = .ok (.ldc2_w 185, 3) := by decide +kernel
theorem dX11_lookup_408 : decode cX11_lookup 408 = .ok (.lcmp, 1) := by decide +kernel
theorem dX11_lookup_409 : decode cX11_lookup 409 = .ok (.ifCond .ne 7, 3) := by decide +kernel
theorem dX11_lookup_412 : decode cX11_lookup 412 = .ok (.sipush 2234, 3) := by decide +kernel
theorem dX11_lookup_415 : decode cX11_lookup 415 = .ok (.ireturn, 1) := by decide +kernel
theorem dX11_lookup_416 : decode cX11_lookup 416 = .ok (.lload_n 0, 1) := by decide +kernel
theorem dX11_lookup_417 : decode cX11_lookup 417 = .ok (.ldc2_w 187, 3) := by decide +kernel
theorem dX11_lookup_420 : decode cX11_lookup 420 = .ok (.lcmp, 1) := by decide +kernel
theorem dX11_lookup_421 : decode cX11_lookup 421 = .ok (.ifCond .ne 7, 3) := by decide +kernel
theorem dX11_lookup_424 : decode cX11_lookup 424 = .ok (.sipush 1851, 3) := by decide +kernel
theorem dX11_lookup_427 : decode cX11_lookup 427 = .ok (.ireturn, 1) := by decide +kernel
theorem dX11_lookup_428 : decode cX11_lookup 428 = .ok (.lload_n 0, 1) := by decide +kernel
theorem dX11_lookup_429 : decode cX11_lookup 429 = .ok (.ldc2_w 189, 3) := by decide +kernel
theorem dX11_lookup_432 : decode cX11_lookup 432 = .ok (.lcmp, 1) := by decide +kernel
theorem dX11_lookup_433 : decode cX11_lookup 433 = .ok (.ifCond .ne 6, 3) := by decide +kernel
theorem dX11_lookup_436 : decode cX11_lookup 436 = .ok (.bipush 12, 2) := by decide +kernel
theorem dX11_lookup_438 : decode cX11_lookup 438 = .ok (.ireturn, 1) := by decide +kernel
theorem dX11_lookup_439 : decode cX11_lookup 439 = .ok (.iconst 0, 1) := by decide +kernel
theorem dX11_lookup_440 : decode cX11_lookup 440 = .ok (.ireturn, 1) := by decide +kernel
theorem dX11_immediate_0 : decode cX11_immediate 0 = .ok (.iload_n 0, 1) := by decide +kernel
theorem dX11_immediate_1 : decode cX11_immediate 1 = .ok (.bipush 20, 2) := by decide +kernel
theorem dX11_immediate_3 : decode cX11_immediate 3 = .ok (.ishl, 1) := by decide +kernel
theorem dX11_immediate_4 : decode cX11_immediate 4 = .ok (.ireturn, 1) := by decide +kernel
theorem dX11_storing_0 : decode cX11_storing 0 = .ok (.iload_n 0, 1) := by decide +kernel
theorem dX11_storing_1 : decode cX11_storing 1 = .ok (.bipush 31, 2) := by decide +kernel
theorem dX11_storing_3 : decode cX11_storing 3 = .ok (.iand, 1) := by decide +kernel
theorem dX11_storing_4 : decode cX11_storing 4 = .ok (.bipush 7, 2) := by decide +kernel
theorem dX11_storing_6 : decode cX11_storing 6 = .ok (.ishl, 1) := by decide +kernel
theorem dX11_storing_7 : decode cX11_storing 7 = .ok (.iload_n 0, 1) := by decide +kernel
theorem dX11_storing_8 : decode cX11_storing 8 = .ok (.iconst 5, 1) := by decide +kernel
theorem dX11_storing_9 : decode cX11_storing 9 = .ok (.ishr, 1) := by decide +kernel
theorem dX11_storing_10 : decode cX11_storing 10 = .ok (.bipush 25, 2) := by decide +kernel
theorem dX11_storing_12 : decode cX11_storing 12 = .ok (.ishl, 1) := by decide +kernel
theorem dX11_storing_13 : decode cX11_storing 13 = .ok (.ior, 1) := by decide +kernel
theorem dX11_storing_14 : decode cX11_storing 14 = .ok (.ireturn, 1) := by decide +kernel
theorem dX11_branching_0 : decode cX11_branching 0 = .ok (.iload_n 0, 1) := by decide +kernel
theorem dX11_branching_1 : decode cX11_branching 1 = .ok (.iconst 1, 1) := by decide +kernel
theorem dX11_branching_2 : decode cX11_branching 2 = .ok (.ishr, 1) := by decide +kernel
theorem dX11_branching_3 : decode cX11_branching 3 = .ok (.bipush 15, 2) := by decide +kernel
theorem dX11_branching_5 : decode cX11_branching 5 = .ok (.iand, 1) := by decide +kernel
theorem dX11_branching_6 : decode cX11_branching 6 = .ok (.bipush 8, 2) := by decide +kernel
theorem dX11_branching_8 : decode cX11_branching 8 = .ok (.ishl, 1) := by decide +kernel
theorem dX11_branching_9 : decode cX11_branching 9 = .ok (.iload_n 0, 1) := by decide +kernel
theorem dX11_branching_10 : decode cX11_branching 10 = .ok (.iconst 5, 1) := by decide +kernel
theorem dX11_branching_11 : decode cX11_branching 11 = .ok (.ishr, 1) := by decide +kernel
theorem dX11_branching_12 : decode cX11_branching 12 = .ok (.bipush 63, 2) := by decide +kernel
theorem dX11_branching_14 : decode cX11_branching 14 = .ok (.iand, 1) := by decide +kernel
theorem dX11_branching_15 : decode cX11_branching 15 = .ok (.bipush 25, 2) := by decide +kernel
theorem dX11_branching_17 : decode cX11_branching 17 = .ok (.ishl, 1) := by decide +kernel
theorem dX11_branching_18 : decode cX11_branching 18 = .ok (.ior, 1) := by decide +kernel
theorem dX11_branching_19 : decode cX11_branching 19 = .ok (.iload_n 0, 1) := by decide +kernel
theorem dX11_branching_20 : decode cX11_branching 20 = .ok (.bipush 11, 2) := by decide +kernel
theorem dX11_branching_22 : decode cX11_branching 22 = .ok (.ishr, 1) := by decide +kernel
theorem dX11_branching_23 : decode cX11_branching 23 = .ok (.iconst 1, 1) := by decide +kernel
theorem dX11_branching_24 : decode cX11_branching 24 = .ok (.iand, 1) := by decide +kernel
theorem dX11_branching_25 : decode cX11_branching 25 = .ok (.bipush 7, 2) := by decide +kernel
theorem dX11_branching_27 : decode cX11_branching 27 = .ok (.ishl, 1) := by decide +kernel
theorem dX11_branching_28 : decode cX11_branching 28 = .ok (.ior, 1) := by decide +kernel
theorem dX11_branching_29 : decode cX11_branching 29 = .ok (.iload_n 0, 1) := by decide +kernel
theorem dX11_branching_30 : decode cX11_branching 30 = .ok (.bipush 12, 2) := by decide +kernel
theorem dX11_branching_32 : decode cX11_branching 32 = .ok (.ishr, 1) := by decide +kernel
theorem dX11_branching_33 : decode cX11_branching 33 = .ok (.bipush 31, 2) := by decide +kernel
theorem dX11_branching_35 : decode cX11_branching 35 = .ok (.ishl, 1) := by decide +kernel
theorem dX11_branching_36 : decode cX11_branching 36 = .ok (.ior, 1) := by decide +kernel
theorem dX11_branching_37 : decode cX11_branching 37 = .ok (.ireturn, 1) := by decide +kernel
theorem dX11_jumping_0 : decode cX11_jumping 0 = .ok (.iload_n 0, 1) := by decide +kernel
theorem dX11_jumping_1 : decode cX11_jumping 1 = .ok (.iconst 1, 1) := by decide +kernel
theorem dX11_jumping_2 : decode cX11_jumping 2 = .ok (.ishr, 1) := by decide +kernel
theorem dX11_jumping_3 : decode cX11_jumping 3 = .ok (.sipush 1023, 3) := by decide +kernel
theorem dX11_jumping_6 : decode cX11_jumping 6 = .ok (.iand, 1) := by decide +kernel
theorem dX11_jumping_7 : decode cX11_jumping 7 = .ok (.bipush 21, 2) := by decide +kernel
theorem dX11_jumping_9 : decode cX11_jumping 9 = .ok (.ishl, 1) := by decide +kernel
theorem dX11_jumping_10 : decode cX11_jumping 10 = .ok (.iload_n 0, 1) := by decide +kernel
theorem dX11_jumping_11 : decode cX11_jumping 11 = .ok (.bipush 11, 2) := by decide +kernel
theorem dX11_jumping_13 : decode cX11_jumping 13 = .ok (.ishr, 1) := by decide +kernel
theorem dX11_jumping_14 : decode cX11_jumping 14 = .ok (.iconst 1, 1) := by decide +kernel
theorem dX11_jumping_15 : decode cX11_jumping 15 = .ok (.iand, 1) := by decide +kernel
theorem dX11_jumping_16 : decode cX11_jumping 16 = .ok (.bipush 20, 2) := by decide +kernel
theorem dX11_jumping_18 : decode cX11_jumping 18 = .ok (.ishl, 1) := by decide +kernel
theorem dX11_jumping_19 : decode cX11_jumping 19 = .ok (.ior, 1) := by decide +kernel
theorem dX11_jumping_20 : decode cX11_jumping 20 = .ok (.iload_n 0, 1) := by decide +kernel
theorem dX11_jumping_21 : decode cX11_jumping 21 = .ok (.bipush 12, 2) := by decide +kernel
theorem dX11_jumping_23 : decode cX11_jumping 23 = .ok (.ishr, 1) := by decide +kernel
theorem dX11_jumping_24 : decode cX11_jumping 24 = .ok (.sipush 255, 3) := by decide +kernel
theorem dX11_jumping_27 : decode cX11_jumping 27 = .ok (.iand, 1) := by decide +kernel
theorem dX11_jumping_28 : decode cX11_jumping 28 = .ok (.bipush 12, 2) := by decide +kernel
theorem dX11_jumping_30 : decode cX11_jumping 30 = .ok (.ishl, 1) := by decide +kernel
theorem dX11_jumping_31 : decode cX11_jumping 31 = .ok (.ior, 1) := by decide +kernel
theorem dX11_jumping_32 : decode cX11_jumping 32 = .ok (.iload_n 0, 1) := by decide +kernel
theorem dX11_jumping_33 : decode cX11_jumping 33 = .ok (.bipush 20, 2) := by decide +kernel
theorem dX11_jumping_35 : decode cX11_jumping 35 = .ok (.ishr, 1) := by decide +kernel
theorem dX11_jumping_36 : decode cX11_jumping 36 = .ok (.bipush 31, 2) := by decide +kernel
theorem dX11_jumping_38 : decode cX11_jumping 38 = .ok (.ishl, 1) := by decide +kernel
theorem dX11_jumping_39 : decode cX11_jumping 39 = .ok (.ior, 1) := by decide +kernel
theorem dX11_jumping_40 : decode cX11_jumping 40 = .ok (.ireturn, 1) := by decide +kernel
theorem dX11_distance_0 : decode cX11_distance 0 = .ok (.aload_n 0, 1) := by decide +kernel
theorem dX11_distance_1 : decode cX11_distance 1 = .ok (.invokevirtual 95, 3) := by decide +kernel
theorem dX11_distance_4 : decode cX11_distance 4 = .ok (.iload_n 1, 1) := by decide +kernel
theorem dX11_distance_5 : decode cX11_distance 5 = .ok (.ifCond .eq 9, 3) := by decide +kernel
theorem dX11_distance_8 : decode cX11_distance 8 = .ok (.ldc2_w 191, 3) := by decide +kernel
theorem dX11_distance_11 : decode cX11_distance 11 = .ok (.goto 6, 3) := by decide +kernel
theorem dX11_distance_14 : decode cX11_distance 14 = .ok (.ldc2_w 193, 3) := by decide +kernel
theorem dX11_distance_17 : decode cX11_distance 17 = .ok (.lstore_n 2, 1) := by decide +kernel
theorem dX11_distance_18 : decode cX11_distance 18 = .ok (.aload_n 0, 1) := by decide +kernel
theorem dX11_distance_19 : decode cX11_distance 19 = .ok (.aload_n 0, 1) := by decide +kernel
theorem dX11_distance_20 : decode cX11_distance 20 = .ok (.getfield 88, 3) := by decide +kernel
theorem dX11_distance_23 : decode cX11_distance 23 = .ok (.invokevirtual 91, 3) := by decide +kernel
theorem dX11_distance_26 : decode cX11_distance 26 = .ok (.invokestatic 98, 3) := by decide +kernel
theorem dX11_distance_29 : decode cX11_distance 29 = .ok (.ifCond .eq 119, 3) := by decide +kernel
theorem dX11_distance_32 : decode cX11_distance 32 = .ok (.aload_n 0, 1) := by decide +kernel
theorem dX11_distance_33 : decode cX11_distance 33 = .ok (.invokevirtual 195, 3) := by decide +kernel
theorem dX11_distance_36 : decode cX11_distance 36 = .ok (.lstore 4, 2) := by decide +kernel
theorem dX11_distance_38 : decode cX11_distance 38 = .ok (.aload_n 0, 1) := by decide +kernel
theorem dX11_distance_39 : decode cX11_distance 39 = .ok (.aload_n 0, 1) := by decide +kernel
theorem dX11_distance_40 : decode cX11_distance 40 = .ok (.getfield 102, 3) := by decide +kernel
theorem dX11_distance_43 : decode cX11_distance 43 = .ok (.ifCond .ne 10, 3) := by decide +kernel
theorem dX11_distance_46 : decode cX11_distance 46 = .ok (.lload 4, 2) := by decide +kernel
theorem dX11_distance_48 : decode cX11_distance 48 = .ok (.lconst 0, 1) := by decide +kernel
theorem dX11_distance_49 : decode cX11_distance 49 = .ok (.lcmp, 1) := by decide +kernel
theorem dX11_distance_50 : decode cX11_distance 50 = .ok (.ifCond .ne 7, 3) := by decide +kernel
theorem dX11_distance_53 : decode cX11_distance 53 = .ok (.iconst 1, 1) := by decide +kernel
theorem dX11_distance_54 : decode cX11_distance 54 = .ok (.goto 4, 3) := by decide +kernel
theorem dX11_distance_57 : decode cX11_distance 57 = .ok (.iconst 0, 1) := by decide +kernel
theorem dX11_distance_58 : decode cX11_distance 58 = .ok (.putfield 102, 3) := by decide +kernel
theorem dX11_distance_61 : decode cX11_distance 61 = .ok (.aload_n 0, 1) := by decide +kernel
theorem dX11_distance_62 : decode cX11_distance 62 = .ok (.getfield 102, 3) := by decide +kernel
theorem dX11_distance_65 : decode cX11_distance 65 = .ok (.ifCond .ne 50, 3) := by decide +kernel
theorem dX11_distance_68 : decode cX11_distance 68 = .ok (.aload_n 0, 1) := by decide +kernel
theorem dX11_distance_69 : decode cX11_distance 69 = .ok (.getfield 199, 3) := by decide +kernel
theorem dX11_distance_72 : decode cX11_distance 72 = .ok (.sipush 128, 3) := by decide +kernel
theorem dX11_distance_75 : decode cX11_distance 75 = .ok (.if_icmp .ge 40, 3) := by decide +kernel
theorem dX11_distance_78 : decode cX11_distance 78 = .ok (.aload_n 0, 1) := by decide +kernel
theorem dX11_distance_79 : decode cX11_distance 79 = .ok (.getfield 24, 3) := by decide +kernel
theorem dX11_distance_82 : decode cX11_distance 82 = .ok (.aload_n 0, 1) := by decide +kernel
theorem dX11_distance_83 : decode cX11_distance 83 = .ok (.getfield 199, 3) := by decide +kernel
theorem dX11_distance_86 : decode cX11_distance 86 = .ok (.lload 4, 2) := by decide +kernel
theorem dX11_distance_88 : decode cX11_distance 88 = .ok (.lastore, 1) := by decide +kernel
theorem dX11_distance_89 : decode cX11_distance 89 = .ok (.aload_n 0, 1) := by decide +kernel
theorem dX11_distance_90 : decode cX11_distance 90 = .ok (.getfield 27, 3) := by decide +kernel
theorem dX11_distance_93 : decode cX11_distance 93 = .ok (.aload_n 0, 1) := by decide +kernel
theorem dX11_distance_94 : decode cX11_distance 94 = .ok (.getfield 199, 3) := by decide +kernel
theorem dX11_distance_97 : decode cX11_distance 97 = .ok (.aload_n 0, 1) := by decide +kernel
theorem dX11_distance_98 : decode cX11_distance 98 = .ok (.getfield 202, 3) := by decide +kernel
theorem dX11_distance_101 : decode cX11_distance 101 = .ok (.iastore, 1) := by decide +kernel
theorem dX11_distance_102 : decode cX11_distance 102 = .ok (.aload_n 0, 1) := by decide +kernel
theorem dX11_distance_103 : decode cX11_distance 103 = .ok (.getfield 30, 3) := by decide +kernel
theorem dX11_distance_106 : decode cX11_distance 106 = .ok (.aload_n 0, 1) := by decide +kernel
theorem dX11_distance_107 : decode cX11_distance 107 = .ok (.getfield 199, 3) := by decide +kernel
theorem dX11_distance_110 : decode cX11_distance 110 = .ok (.aload_n 0, 1) := by decide +kernel
theorem dX11_distance_111 : decode cX11_distance 111 = .ok (.getfield 205, 3) := by decide +kernel
theorem dX11_distance_114 : decode cX11_distance 114 = .ok (.iastore, 1) := by decide +kernel
theorem dX11_distance_115 : decode cX11_distance 115 = .ok (.aload_n 0, 1) := by decide +kernel
theorem dX11_distance_116 : decode cX11_distance 116 = .ok (.dup, 1) := by decide +kernel
theorem dX11_distance_117 : decode cX11_distance 117 = .ok (.getfield 199, 3) := by decide +kernel
theorem dX11_distance_120 : decode cX11_distance 120 = .ok (.aload_n 0, 1) := by decide +kernel
theorem dX11_distance_121 : decode cX11_distance 121 = .ok (.getfield 102, 3) := by decide +kernel
theorem dX11_distance_124 : decode cX11_distance 124 = .ok (.ifCond .ne 13, 3) := by decide +kernel
theorem dX11_distance_127 : decode cX11_distance 127 = .ok (.aload_n 0, 1) := by decide +kernel
theorem dX11_distance_128 : decode cX11_distance 128 = .ok (.getfield 199, 3) := by decide +kernel
theorem dX11_distance_131 : decode cX11_distance 131 = .ok (.sipush 128, 3) := by decide +kernel
theorem dX11_distance_134 : decode cX11_distance 134 = .ok (.if_icmp .ne 7, 3) := by decide +kernel
theorem dX11_distance_137 : decode cX11_distance 137 = .ok (.iconst 0, 1) := by decide +kernel
theorem dX11_distance_138 : decode cX11_distance 138 = .ok (.goto 4, 3) := by decide +kernel
theorem dX11_distance_141 : decode cX11_distance 141 = .ok (.iconst 1, 1) := by decide +kernel
theorem dX11_distance_142 : decode cX11_distance 142 = .ok (.iadd, 1) := by decide +kernel
theorem dX11_distance_143 : decode cX11_distance 143 = .ok (.putfield 199, 3) := by decide +kernel
theorem dX11_distance_146 : decode cX11_distance 146 = .ok (.iconst 0, 1) := by decide +kernel
theorem dX11_distance_147 : decode cX11_distance 147 = .ok (.ireturn, 1) := by decide +kernel
theorem dX11_distance_148 : decode cX11_distance 148 = .ok (.aload_n 0, 1) := by decide +kernel
theorem dX11_distance_149 : decode cX11_distance 149 = .ok (.lload_n 2, 1) := by decide +kernel
theorem dX11_distance_150 : decode cX11_distance 150 = .ok (.lneg, 1) := by decide +kernel
theorem dX11_distance_151 : decode cX11_distance 151 = .ok (.ldc2_w 208, 3) := by decide +kernel
theorem dX11_distance_154 : decode cX11_distance 154 = .ok (.lsub, 1) := by decide +kernel
theorem dX11_distance_155 : decode cX11_distance 155 = .ok (.lload_n 2, 1) := by decide +kernel
theorem dX11_distance_156 : decode cX11_distance 156 = .ok (.invokevirtual 210, 3) := by decide +kernel
theorem dX11_distance_159 : decode cX11_distance 159 = .ok (.lstore 4, 2) := by decide +kernel
theorem dX11_distance_161 : decode cX11_distance 161 = .ok (.aload_n 0, 1) := by decide +kernel
theorem dX11_distance_162 : decode cX11_distance 162 = .ok (.aload_n 0, 1) := by decide +kernel
theorem dX11_distance_163 : decode cX11_distance 163 = .ok (.getfield 111, 3) := by decide +kernel
theorem dX11_distance_166 : decode cX11_distance 166 = .ok (.ifCond .ne 12, 3) := by decide +kernel
theorem dX11_distance_169 : decode cX11_distance 169 = .ok (.lload 4, 2) := by decide +kernel
theorem dX11_distance_171 : decode cX11_distance 171 = .ok (.lconst 1, 1) := by decide +kernel
theorem dX11_distance_172 : decode cX11_distance 172 = .ok (.land, 1) := by decide +kernel
theorem dX11_distance_173 : decode cX11_distance 173 = .ok (.lconst 0, 1) := by decide +kernel
theorem dX11_distance_174 : decode cX11_distance 174 = .ok (.lcmp, 1) := by decide +kernel
theorem dX11_distance_175 : decode cX11_distance 175 = .ok (.ifCond .eq 7, 3) := by decide +kernel
theorem dX11_distance_178 : decode cX11_distance 178 = .ok (.iconst 1, 1) := by decide +kernel
theorem dX11_distance_179 : decode cX11_distance 179 = .ok (.goto 4, 3) := by decide +kernel
theorem dX11_distance_182 : decode cX11_distance 182 = .ok (.iconst 0, 1) := by decide +kernel
theorem dX11_distance_183 : decode cX11_distance 183 = .ok (.putfield 111, 3) := by decide +kernel
theorem dX11_distance_186 : decode cX11_distance 186 = .ok (.iload_n 1, 1) := by decide +kernel
theorem dX11_distance_187 : decode cX11_distance 187 = .ok (.ifCond .eq 12, 3) := by decide +kernel
theorem dX11_distance_190 : decode cX11_distance 190 = .ok (.lload 4, 2) := by decide +kernel
theorem dX11_distance_192 : decode cX11_distance 192 = .ok (.l2i, 1) := by decide +kernel
theorem dX11_distance_193 : decode cX11_distance 193 = .ok (.invokestatic 214, 3) := by decide +kernel
theorem dX11_distance_196 : decode cX11_distance 196 = .ok (.goto 9, 3) := by decide +kernel
theorem dX11_distance_199 : decode cX11_distance 199 = .ok (.lload 4, 2) := by decide +kernel
theorem dX11_distance_201 : decode cX11_distance 201 = .ok (.l2i, 1) := by decide +kernel
theorem dX11_distance_202 : decode cX11_distance 202 = .ok (.invokestatic 217, 3) := by decide +kernel
theorem dX11_distance_205 : decode cX11_distance 205 = .ok (.ireturn, 1) := by decide +kernel
theorem dX11_pair_0 : decode cX11_pair 0 = .ok (.aload_n 0, 1) := by decide +kernel
theorem dX11_pair_1 : decode cX11_pair 1 = .ok (.invokevirtual 220, 3) := by decide +kernel
theorem dX11_pair_4 : decode cX11_pair 4 = .ok (.istore_n 3, 1) := by decide +kernel
theorem dX11_pair_5 : decode cX11_pair 5 = .ok (.aload_n 0, 1) := by decide +kernel
theorem dX11_pair_6 : decode cX11_pair 6 = .ok (.bipush 44, 2) := by decide +kernel
theorem dX11_pair_8 : decode cX11_pair 8 = .ok (.invokevirtual 224, 3) := by decide +kernel
theorem dX11_pair_11 : decode cX11_pair 11 = .ok (.aload_n 0, 1) := by decide +kernel
theorem dX11_pair_12 : decode cX11_pair 12 = .ok (.invokevirtual 220, 3) := by decide +kernel
theorem dX11_pair_15 : decode cX11_pair 15 = .ok (.istore 4, 2) := by decide +kernel
theorem dX11_pair_17 : decode cX11_pair 17 = .ok (.iload_n 3, 1) := by decide +kernel
theorem dX11_pair_18 : decode cX11_pair 18 = .ok (.iload_n 1, 1) := by decide +kernel
theorem dX11_pair_19 : decode cX11_pair 19 = .ok (.ishl, 1) := by decide +kernel
theorem dX11_pair_20 : decode cX11_pair 20 = .ok (.iload 4, 2) := by decide +kernel
theorem dX11_pair_22 : decode cX11_pair 22 = .ok (.iload_n 2, 1) := by decide +kernel
theorem dX11_pair_23 : decode cX11_pair 23 = .ok (.ishl, 1) := by decide +kernel
theorem dX11_pair_24 : decode cX11_pair 24 = .ok (.ior, 1) := by decide +kernel
theorem dX11_pair_25 : decode cX11_pair 25 = .ok (.ireturn, 1) := by decide +kernel
theorem dX11_operands_0 : decode cX11_operands 0 = .ok (.iconst 0, 1) := by decide +kernel
theorem dX11_operands_1 : decode cX11_operands 1 = .ok (.istore_n 2, 1) := by decide +kernel
theorem dX11_operands_2 : decode cX11_operands 2 = .ok (.lconst 0, 1) := by decide +kernel
theorem dX11_operands_3 : decode cX11_operands 3 = .ok (.lstore_n 3, 1) := by decide +kernel
theorem dX11_operands_4 : decode cX11_operands 4 = .ok (.iload_n 1, 1) := by decide +kernel
theorem dX11_operands_5 : decode cX11_operands 5 = .ok (.tableswitch 366 1 12 #[63, 88, 139, 139, 220, 243, 265, 88, 294, 346, 366, 354], 63) := by decide +kernel
theorem dX11_operands_68 : decode cX11_operands 68 = .ok (.aload_n 0, 1) := by decide +kernel
theorem dX11_operands_69 : decode cX11_operands 69 = .ok (.bipush 7, 2) := by decide +kernel
theorem dX11_operands_71 : decode cX11_operands 71 = .ok (.bipush 15, 2) := by decide +kernel
theorem dX11_operands_73 : decode cX11_operands 73 = .ok (.invokevirtual 228, 3) := by decide +kernel
theorem dX11_operands_76 : decode cX11_operands 76 = .ok (.istore_n 2, 1) := by decide +kernel
theorem dX11_operands_77 : decode cX11_operands 77 = .ok (.aload_n 0, 1) := by decide +kernel
theorem dX11_operands_78 : decode cX11_operands 78 = .ok (.bipush 44, 2) := by decide +kernel
theorem dX11_operands_80 : decode cX11_operands 80 = .ok (.invokevirtual 224, 3) := by decide +kernel
theorem dX11_operands_83 : decode cX11_operands 83 = .ok (.iload_n 2, 1) := by decide +kernel
theorem dX11_operands_84 : decode cX11_operands 84 = .ok (.aload_n 0, 1) := by decide +kernel
theorem dX11_operands_85 : decode cX11_operands 85 = .ok (.invokevirtual 220, 3) := by decide +kernel
theorem dX11_operands_88 : decode cX11_operands 88 = .ok (.bipush 20, 2) := by decide +kernel
theorem dX11_operands_90 : decode cX11_operands 90 = .ok (.ishl, 1) := by decide +kernel
theorem dX11_operands_91 : decode cX11_operands 91 = .ok (.ior, 1) := by decide +kernel
theorem dX11_operands_92 : decode cX11_operands 92 = .ok (.ireturn, 1) := by decide +kernel
theorem dX11_operands_93 : decode cX11_operands 93 = .ok (.aload_n 0, 1) := by decide +kernel
theorem dX11_operands_94 : decode cX11_operands 94 = .ok (.bipush 7, 2) := by decide +kernel
theorem dX11_operands_96 : decode cX11_operands 96 = .ok (.bipush 15, 2) := by decide +kernel
theorem dX11_operands_98 : decode cX11_operands 98 = .ok (.invokevirtual 228, 3) := by decide +kernel
theorem dX11_operands_101 : decode cX11_operands 101 = .ok (.istore_n 2, 1) := by decide +kernel
theorem dX11_operands_102 : decode cX11_operands 102 = .ok (.aload_n 0, 1) := by decide +kernel
theorem dX11_operands_103 : decode cX11_operands 103 = .ok (.bipush 44, 2) := by decide +kernel
theorem dX11_operands_105 : decode cX11_operands 105 = .ok (.invokevirtual 224, 3) := by decide +kernel
theorem dX11_operands_108 : decode cX11_operands 108 = .ok (.iload_n 1, 1) := by decide +kernel
theorem dX11_operands_109 : decode cX11_operands 109 = .ok (.bipush 8, 2) := by decide +kernel
theorem dX11_operands_111 : decode cX11_operands 111 = .ok (.if_icmp .ne 14, 3) := by decide +kernel
theorem dX11_operands_114 : decode cX11_operands 114 = .ok (.aload_n 0, 1) := by decide +kernel
theorem dX11_operands_115 : decode cX11_operands 115 = .ok (.lconst 0, 1) := by decide +kernel
theorem dX11_operands_116 : decode cX11_operands 116 = .ok (.ldc2_w 232, 3) := by decide +kernel
theorem dX11_operands_119 : decode cX11_operands 119 = .ok (.invokevirtual 210, 3) := by decide +kernel
theorem dX11_operands_122 : decode cX11_operands 122 = .ok (.goto 13, 3) := by decide +kernel
theorem dX11_operands_125 : decode cX11_operands 125 = .ok (.aload_n 0, 1) := by decide +kernel
theorem dX11_operands_126 : decode cX11_operands 126 = .ok (.ldc2_w 234, 3) := by decide +kernel
theorem dX11_operands_129 : decode cX11_operands 129 = .ok (.ldc2_w 236, 3) := by decide +kernel
theorem dX11_operands_132 : decode cX11_operands 132 = .ok (.invokevirtual 210, 3) := by decide +kernel
theorem dX11_operands_135 : decode cX11_operands 135 = .ok (.lstore_n 3, 1) := by decide +kernel
theorem dX11_operands_136 : decode cX11_operands 136 = .ok (.iload_n 2, 1) := by decide +kernel
theorem dX11_operands_137 : decode cX11_operands 137 = .ok (.lload_n 3, 1) := by decide +kernel
theorem dX11_operands_138 : decode cX11_operands 138 = .ok (.l2i, 1) := by decide +kernel
theorem dX11_operands_139 : decode cX11_operands 139 = .ok (.invokestatic 238, 3) := by decide +kernel
theorem dX11_operands_142 : decode cX11_operands 142 = .ok (.ior, 1) := by decide +kernel
theorem dX11_operands_143 : decode cX11_operands 143 = .ok (.ireturn, 1) := by decide +kernel
theorem dX11_operands_144 : decode cX11_operands 144 = .ok (.aload_n 0, 1) := by decide +kernel
theorem dX11_operands_145 : decode cX11_operands 145 = .ok (.invokevirtual 220, 3) := by decide +kernel
theorem dX11_operands_148 : decode cX11_operands 148 = .ok (.istore_n 2, 1) := by decide +kernel
theorem dX11_operands_149 : decode cX11_operands 149 = .ok (.aload_n 0, 1) := by decide +kernel
theorem dX11_operands_150 : decode cX11_operands 150 = .ok (.bipush 44, 2) := by decide +kernel
theorem dX11_operands_152 : decode cX11_operands 152 = .ok (.invokevirtual 224, 3) := by decide +kernel
theorem dX11_operands_155 : decode cX11_operands 155 = .ok (.aload_n 0, 1) := by decide +kernel
theorem dX11_operands_156 : decode cX11_operands 156 = .ok (.ldc2_w 234, 3) := by decide +kernel
theorem dX11_operands_159 : decode cX11_operands 159 = .ok (.ldc2_w 236, 3) := by decide +kernel
theorem dX11_operands_162 : decode cX11_operands 162 = .ok (.invokevirtual 210, 3) := by decide +kernel
theorem dX11_operands_165 : decode cX11_operands 165 = .ok (.lstore_n 3, 1) := by decide +kernel
theorem dX11_operands_166 : decode cX11_operands 166 = .ok (.aload_n 0, 1) := by decide +kernel
theorem dX11_operands_167 : decode cX11_operands 167 = .ok (.bipush 40, 2) := by decide +kernel
theorem dX11_operands_169 : decode cX11_operands 169 = .ok (.invokevirtual 224, 3) := by decide +kernel
theorem dX11_operands_172 : decode cX11_operands 172 = .ok (.aload_n 0, 1) := by decide +kernel
theorem dX11_operands_173 : decode cX11_operands 173 = .ok (.invokevirtual 220, 3) := by decide +kernel
theorem dX11_operands_176 : decode cX11_operands 176 = .ok (.istore 5, 2) := by decide +kernel
theorem dX11_operands_178 : decode cX11_operands 178 = .ok (.aload_n 0, 1) := by decide +kernel
theorem dX11_operands_179 : decode cX11_operands 179 = .ok (.bipush 41, 2) := by decide +kernel
theorem dX11_operands_181 : decode cX11_operands 181 = .ok (.invokevirtual 224, 3) := by decide +kernel
theorem dX11_operands_184 : decode cX11_operands 184 = .ok (.iload_n 1, 1) := by decide +kernel
theorem dX11_operands_185 : decode cX11_operands 185 = .ok (.iconst 3, 1) := by decide +kernel
theorem dX11_operands_186 : decode cX11_operands 186 = .ok (.if_icmp .ne 22, 3) := by decide +kernel
theorem dX11_operands_189 : decode cX11_operands 189 = .ok (.iload_n 2, 1) := by decide +kernel
theorem dX11_operands_190 : decode cX11_operands 190 = .ok (.bipush 7, 2) := by decide +kernel
theorem dX11_operands_192 : decode cX11_operands 192 = .ok (.ishl, 1) := by decide +kernel
theorem dX11_operands_193 : decode cX11_operands 193 = .ok (.iload 5, 2) := by decide +kernel
theorem dX11_operands_195 : decode cX11_operands 195 = .ok (.bipush 15, 2) := by decide +kernel
theorem dX11_operands_197 : decode cX11_operands 197 = .ok (.ishl, 1) := by decide +kernel
theorem dX11_operands_198 : decode cX11_operands 198 = .ok (.ior, 1) := by decide +kernel
theorem dX11_operands_199 : decode cX11_operands 199 = .ok (.lload_n 3, 1) := by decide +kernel
theorem dX11_operands_200 : decode cX11_operands 200 = .ok (.l2i, 1) := by decide +kernel
theorem dX11_operands_201 : decode cX11_operands 201 = .ok (.invokestatic 238, 3) := by decide +kernel
theorem dX11_operands_204 : decode cX11_operands 204 = .ok (.ior, 1) := by decide +kernel
theorem dX11_operands_205 : decode cX11_operands 205 = .ok (.goto 19, 3) := by decide +kernel
theorem dX11_operands_208 : decode cX11_operands 208 = .ok (.iload_n 2, 1) := by decide +kernel
theorem dX11_operands_209 : decode cX11_operands 209 = .ok (.bipush 20, 2) := by decide +kernel
theorem dX11_operands_211 : decode cX11_operands 211 = .ok (.ishl, 1) := by decide +kernel
theorem dX11_operands_212 : decode cX11_operands 212 = .ok (.iload 5, 2) := by decide +kernel
theorem dX11_operands_214 : decode cX11_operands 214 = .ok (.bipush 15, 2) := by decide +kernel
theorem dX11_operands_216 : decode cX11_operands 216 = .ok (.ishl, 1) := by decide +kernel
theorem dX11_operands_217 : decode cX11_operands 217 = .ok (.ior, 1) := by decide +kernel
theorem dX11_operands_218 : decode cX11_operands 218 = .ok (.lload_n 3, 1) := by decide +kernel
theorem dX11_operands_219 : decode cX11_operands 219 = .ok (.l2i, 1) := by decide +kernel
theorem dX11_operands_220 : decode cX11_operands 220 = .ok (.invokestatic 241, 3) := by decide +kernel
theorem dX11_operands_223 : decode cX11_operands 223 = .ok (.ior, 1) := by decide +kernel
theorem dX11_operands_224 : decode cX11_operands 224 = .ok (.ireturn, 1) := by decide +kernel
theorem dX11_operands_225 : decode cX11_operands 225 = .ok (.aload_n 0, 1) := by decide +kernel
theorem dX11_operands_226 : decode cX11_operands 226 = .ok (.bipush 15, 2) := by decide +kernel
theorem dX11_operands_228 : decode cX11_operands 228 = .ok (.bipush 20, 2) := by decide +kernel
theorem dX11_operands_230 : decode cX11_operands 230 = .ok (.invokevirtual 228, 3) := by decide +kernel
theorem dX11_operands_233 : decode cX11_operands 233 = .ok (.istore_n 2, 1) := by decide +kernel
theorem dX11_operands_234 : decode cX11_operands 234 = .ok (.aload_n 0, 1) := by decide +kernel
theorem dX11_operands_235 : decode cX11_operands 235 = .ok (.bipush 44, 2) := by decide +kernel
theorem dX11_operands_237 : decode cX11_operands 237 = .ok (.invokevirtual 224, 3) := by decide +kernel
theorem dX11_operands_240 : decode cX11_operands 240 = .ok (.iload_n 2, 1) := by decide +kernel
theorem dX11_operands_241 : decode cX11_operands 241 = .ok (.aload_n 0, 1) := by decide +kernel
theorem dX11_operands_242 : decode cX11_operands 242 = .ok (.iconst 0, 1) := by decide +kernel
theorem dX11_operands_243 : decode cX11_operands 243 = .ok (.invokevirtual 244, 3) := by decide +kernel
theorem dX11_operands_246 : decode cX11_operands 246 = .ok (.ior, 1) := by decide +kernel
theorem dX11_operands_247 : decode cX11_operands 247 = .ok (.ireturn, 1) := by decide +kernel
theorem dX11_operands_248 : decode cX11_operands 248 = .ok (.aload_n 0, 1) := by decide +kernel
theorem dX11_operands_249 : decode cX11_operands 249 = .ok (.invokevirtual 220, 3) := by decide +kernel
theorem dX11_operands_252 : decode cX11_operands 252 = .ok (.bipush 7, 2) := by decide +kernel
theorem dX11_operands_254 : decode cX11_operands 254 = .ok (.ishl, 1) := by decide +kernel
theorem dX11_operands_255 : decode cX11_operands 255 = .ok (.istore_n 2, 1) := by decide +kernel
theorem dX11_operands_256 : decode cX11_operands 256 = .ok (.aload_n 0, 1) := by decide +kernel
theorem dX11_operands_257 : decode cX11_operands 257 = .ok (.bipush 44, 2) := by decide +kernel
theorem dX11_operands_259 : decode cX11_operands 259 = .ok (.invokevirtual 224, 3) := by decide +kernel
theorem dX11_operands_262 : decode cX11_operands 262 = .ok (.iload_n 2, 1) := by decide +kernel
theorem dX11_operands_263 : decode cX11_operands 263 = .ok (.aload_n 0, 1) := by decide +kernel
theorem dX11_operands_264 : decode cX11_operands 264 = .ok (.iconst 1, 1) := by decide +kernel
theorem dX11_operands_265 : decode cX11_operands 265 = .ok (.invokevirtual 244, 3) := by decide +kernel
theorem dX11_operands_268 : decode cX11_operands 268 = .ok (.ior, 1) := by decide +kernel
theorem dX11_operands_269 : decode cX11_operands 269 = .ok (.ireturn, 1) := by decide +kernel
theorem dX11_operands_270 : decode cX11_operands 270 = .ok (.aload_n 0, 1) := by decide +kernel
theorem dX11_operands_271 : decode cX11_operands 271 = .ok (.invokevirtual 220, 3) := by decide +kernel
theorem dX11_operands_274 : decode cX11_operands 274 = .ok (.bipush 7, 2) := by decide +kernel
theorem dX11_operands_276 : decode cX11_operands 276 = .ok (.ishl, 1) := by decide +kernel
theorem dX11_operands_277 : decode cX11_operands 277 = .ok (.istore_n 2, 1) := by decide +kernel
theorem dX11_operands_278 : decode cX11_operands 278 = .ok (.aload_n 0, 1) := by decide +kernel
theorem dX11_operands_279 : decode cX11_operands 279 = .ok (.bipush 44, 2) := by decide +kernel
theorem dX11_operands_281 : decode cX11_operands 281 = .ok (.invokevirtual 224, 3) := by decide +kernel
theorem dX11_operands_284 : decode cX11_operands 284 = .ok (.iload_n 2, 1) := by decide +kernel
theorem dX11_operands_285 : decode cX11_operands 285 = .ok (.aload_n 0, 1) := by decide +kernel
theorem dX11_operands_286 : decode cX11_operands 286 = .ok (.lconst 0, 1) := by decide +kernel
theorem dX11_operands_287 : decode cX11_operands 287 = .ok (.ldc2_w 248, 3) := by decide +kernel
theorem dX11_operands_290 : decode cX11_operands 290 = .ok (.invokevirtual 210, 3) := by decide +kernel
theorem dX11_operands_293 : decode cX11_operands 293 = .ok (.l2i, 1) := by decide +kernel
theorem dX11_operands_294 : decode cX11_operands 294 = .ok (.bipush 12, 2) := by decide +kernel
theorem dX11_operands_296 : decode cX11_operands 296 = .ok (.ishl, 1) := by decide +kernel
theorem dX11_operands_297 : decode cX11_operands 297 = .ok (.ior, 1) := by decide +kernel
theorem dX11_operands_298 : decode cX11_operands 298 = .ok (.ireturn, 1) := by decide +kernel
theorem dX11_operands_299 : decode cX11_operands 299 = .ok (.aload_n 0, 1) := by decide +kernel
theorem dX11_operands_300 : decode cX11_operands 300 = .ok (.lconst 0, 1) := by decide +kernel
theorem dX11_operands_301 : decode cX11_operands 301 = .ok (.ldc2_w 250, 3) := by decide +kernel
theorem dX11_operands_304 : decode cX11_operands 304 = .ok (.invokevirtual 210, 3) := by decide +kernel
theorem dX11_operands_307 : decode cX11_operands 307 = .ok (.lstore_n 3, 1) := by decide +kernel
theorem dX11_operands_308 : decode cX11_operands 308 = .ok (.aload_n 0, 1) := by decide +kernel
theorem dX11_operands_309 : decode cX11_operands 309 = .ok (.bipush 44, 2) := by decide +kernel
theorem dX11_operands_311 : decode cX11_operands 311 = .ok (.invokevirtual 224, 3) := by decide +kernel
theorem dX11_operands_314 : decode cX11_operands 314 = .ok (.lload_n 3, 1) := by decide +kernel
theorem dX11_operands_315 : decode cX11_operands 315 = .ok (.l2i, 1) := by decide +kernel
theorem dX11_operands_316 : decode cX11_operands 316 = .ok (.bipush 7, 2) := by decide +kernel
theorem dX11_operands_318 : decode cX11_operands 318 = .ok (.ishl, 1) := by decide +kernel
theorem dX11_operands_319 : decode cX11_operands 319 = .ok (.aload_n 0, 1) := by decide +kernel
theorem dX11_operands_320 : decode cX11_operands 320 = .ok (.invokevirtual 220, 3) := by decide +kernel
theorem dX11_operands_323 : decode cX11_operands 323 = .ok (.bipush 15, 2) := by decide +kernel
theorem dX11_operands_325 : decode cX11_operands 325 = .ok (.ishl, 1) := by decide +kernel
theorem dX11_operands_326 : decode cX11_operands 326 = .ok (.ior, 1) := by decide +kernel
theorem dX11_operands_327 : decode cX11_operands 327 = .ok (.istore_n 2, 1) := by decide +kernel
theorem dX11_operands_328 : decode cX11_operands 328 = .ok (.aload_n 0, 1) := by decide +kernel
theorem dX11_operands_329 : decode cX11_operands 329 = .ok (.bipush 44, 2) := by decide +kernel
theorem dX11_operands_331 : decode cX11_operands 331 = .ok (.invokevirtual 224, 3) := by decide +kernel
theorem dX11_operands_334 : decode cX11_operands 334 = .ok (.iload_n 2, 1) := by decide +kernel
theorem dX11_operands_335 : decode cX11_operands 335 = .ok (.aload_n 0, 1) := by decide +kernel
theorem dX11_operands_336 : decode cX11_operands 336 = .ok (.ldc2_w 234, 3) := by decide +kernel
theorem dX11_operands_339 : decode cX11_operands 339 = .ok (.ldc2_w 236, 3) := by decide +kernel
theorem dX11_operands_342 : decode cX11_operands 342 = .ok (.invokevirtual 210, 3) := by decide +kernel
theorem dX11_operands_345 : decode cX11_operands 345 = .ok (.l2i, 1) := by decide +kernel
theorem dX11_operands_346 : decode cX11_operands 346 = .ok (.invokestatic 238, 3) := by decide +kernel
theorem dX11_operands_349 : decode cX11_operands 349 = .ok (.ior, 1) := by decide +kernel
theorem dX11_operands_350 : decode cX11_operands 350 = .ok (.ireturn, 1) := by decide +kernel
theorem dX11_operands_351 : decode cX11_operands 351 = .ok (.aload_n 0, 1) := by decide +kernel
theorem dX11_operands_352 : decode cX11_operands 352 = .ok (.invokevirtual 220, 3) := by decide +kernel
theorem dX11_operands_355 : decode cX11_operands 355 = .ok (.bipush 7, 2) := by decide +kernel
theorem dX11_operands_357 : decode cX11_operands 357 = .ok (.ishl, 1) := by decide +kernel
theorem dX11_operands_358 : decode cX11_operands 358 = .ok (.ireturn, 1) := by decide +kernel
theorem dX11_operands_359 : decode cX11_operands 359 = .ok (.aload_n 0, 1) := by decide +kernel
theorem dX11_operands_360 : decode cX11_operands 360 = .ok (.ldc2_w 252, 3) := by decide +kernel
theorem dX11_operands_363 : decode cX11_operands 363 = .ok (.ldc2_w 254, 3) := by decide +kernel
theorem dX11_operands_366 : decode cX11_operands 366 = .ok (.invokevirtual 210, 3) := by decide +kernel
theorem dX11_operands_369 : decode cX11_operands 369 = .ok (.l2i, 1) := by decide +kernel
theorem dX11_operands_370 : decode cX11_operands 370 = .ok (.ireturn, 1) := by decide +kernel
theorem dX11_operands_371 : decode cX11_operands 371 = .ok (.iconst 0, 1) := by decide +kernel
theorem dX11_operands_372 : decode cX11_operands 372 = .ok (.ireturn, 1) := by decide +kernel
theorem dX11_labelOf_0 : decode cX11_labelOf 0 = .ok (.iconst (-1), 1) := by decide +kernel
theorem dX11_labelOf_1 : decode cX11_labelOf 1 = .ok (.istore_n 3, 1) := by decide +kernel
theorem dX11_labelOf_2 : decode cX11_labelOf 2 = .ok (.iconst 0, 1) := by decide +kernel
theorem dX11_labelOf_3 : decode cX11_labelOf 3 = .ok (.istore 4, 2) := by decide +kernel
theorem dX11_labelOf_5 : decode cX11_labelOf 5 = .ok (.iload 4, 2) := by decide +kernel
theorem dX11_labelOf_7 : decode cX11_labelOf 7 = .ok (.aload_n 0, 1) := by decide +kernel
theorem dX11_labelOf_8 : decode cX11_labelOf 8 = .ok (.getfield 256, 3) := by decide +kernel
theorem dX11_labelOf_11 : decode cX11_labelOf 11 = .ok (.if_icmp .ge 28, 3) := by decide +kernel
theorem dX11_labelOf_14 : decode cX11_labelOf 14 = .ok (.aload_n 0, 1) := by decide +kernel
theorem dX11_labelOf_15 : decode cX11_labelOf 15 = .ok (.getfield 17, 3) := by decide +kernel
theorem dX11_labelOf_18 : decode cX11_labelOf 18 = .ok (.iload 4, 2) := by decide +kernel
theorem dX11_labelOf_20 : decode cX11_labelOf 20 = .ok (.laload, 1) := by decide +kernel
theorem dX11_labelOf_21 : decode cX11_labelOf 21 = .ok (.lload_n 1, 1) := by decide +kernel
theorem dX11_labelOf_22 : decode cX11_labelOf 22 = .ok (.lcmp, 1) := by decide +kernel
theorem dX11_labelOf_23 : decode cX11_labelOf 23 = .ok (.ifCond .ne 8, 3) := by decide +kernel
theorem dX11_labelOf_26 : decode cX11_labelOf 26 = .ok (.iload 4, 2) := by decide +kernel
theorem dX11_labelOf_28 : decode cX11_labelOf 28 = .ok (.goto 4, 3) := by decide +kernel
theorem dX11_labelOf_31 : decode cX11_labelOf 31 = .ok (.iload_n 3, 1) := by decide +kernel
theorem dX11_labelOf_32 : decode cX11_labelOf 32 = .ok (.istore_n 3, 1) := by decide +kernel
theorem dX11_labelOf_33 : decode cX11_labelOf 33 = .ok (.iinc 4 1, 3) := by decide +kernel
theorem dX11_labelOf_36 : decode cX11_labelOf 36 = .ok (.goto (-31), 3) := by decide +kernel
theorem dX11_labelOf_39 : decode cX11_labelOf 39 = .ok (.iload_n 3, 1) := by decide +kernel
theorem dX11_labelOf_40 : decode cX11_labelOf 40 = .ok (.ireturn, 1) := by decide +kernel
theorem dX11_takeLine_0 : decode cX11_takeLine 0 = .ok (.aload_n 0, 1) := by decide +kernel
theorem dX11_takeLine_1 : decode cX11_takeLine 1 = .ok (.iconst 0, 1) := by decide +kernel
theorem dX11_takeLine_2 : decode cX11_takeLine 2 = .ok (.putfield 102, 3) := by decide +kernel
theorem dX11_takeLine_5 : decode cX11_takeLine 5 = .ok (.aload_n 0, 1) := by decide +kernel
theorem dX11_takeLine_6 : decode cX11_takeLine 6 = .ok (.iconst 0, 1) := by decide +kernel
theorem dX11_takeLine_7 : decode cX11_takeLine 7 = .ok (.putfield 111, 3) := by decide +kernel
theorem dX11_takeLine_10 : decode cX11_takeLine 10 = .ok (.iconst 0, 1) := by decide +kernel
theorem dX11_takeLine_11 : decode cX11_takeLine 11 = .ok (.istore_n 2, 1) := by decide +kernel
theorem dX11_takeLine_12 : decode cX11_takeLine 12 = .ok (.iconst 0, 1) := by decide +kernel
theorem dX11_takeLine_13 : decode cX11_takeLine 13 = .ok (.istore_n 3, 1) := by decide +kernel
theorem dX11_takeLine_14 : decode cX11_takeLine 14 = .ok (.aload_n 0, 1) := by decide +kernel
theorem dX11_takeLine_15 : decode cX11_takeLine 15 = .ok (.invokevirtual 95, 3) := by decide +kernel
theorem dX11_takeLine_18 : decode cX11_takeLine 18 = .ok (.aload_n 0, 1) := by decide +kernel
theorem dX11_takeLine_19 : decode cX11_takeLine 19 = .ok (.getfield 88, 3) := by decide +kernel
theorem dX11_takeLine_22 : decode cX11_takeLine 22 = .ok (.istore 4, 2) := by decide +kernel
theorem dX11_takeLine_24 : decode cX11_takeLine 24 = .ok (.aload_n 0, 1) := by decide +kernel
theorem dX11_takeLine_25 : decode cX11_takeLine 25 = .ok (.invokevirtual 195, 3) := by decide +kernel
theorem dX11_takeLine_28 : decode cX11_takeLine 28 = .ok (.lstore 5, 2) := by decide +kernel
theorem dX11_takeLine_30 : decode cX11_takeLine 30 = .ok (.aload_n 0, 1) := by decide +kernel
theorem dX11_takeLine_31 : decode cX11_takeLine 31 = .ok (.getfield 88, 3) := by decide +kernel
theorem dX11_takeLine_34 : decode cX11_takeLine 34 = .ok (.iload 4, 2) := by decide +kernel
theorem dX11_takeLine_36 : decode cX11_takeLine 36 = .ok (.if_icmp .le 7, 3) := by decide +kernel
theorem dX11_takeLine_39 : decode cX11_takeLine 39 = .ok (.iconst 1, 1) := by decide +kernel
theorem dX11_takeLine_40 : decode cX11_takeLine 40 = .ok (.goto 4, 3) := by decide +kernel
theorem dX11_takeLine_43 : decode cX11_takeLine 43 = .ok (.iconst 0, 1) := by decide +kernel
theorem dX11_takeLine_44 : decode cX11_takeLine 44 = .ok (.istore 7, 2) := by decide +kernel
theorem dX11_takeLine_46 : decode cX11_takeLine 46 = .ok (.aload_n 0, 1) := by decide +kernel
theorem dX11_takeLine_47 : decode cX11_takeLine 47 = .ok (.invokevirtual 95, 3) := by decide +kernel
theorem dX11_takeLine_50 : decode cX11_takeLine 50 = .ok (.iload 7, 2) := by decide +kernel
theorem dX11_takeLine_52 : decode cX11_takeLine 52 = .ok (.ifCond .eq 151, 3) := by decide +kernel
theorem dX11_takeLine_55 : decode cX11_takeLine 55 = .ok (.aload_n 0, 1) := by decide +kernel
theorem dX11_takeLine_56 : decode cX11_takeLine 56 = .ok (.aload_n 0, 1) := by decide +kernel
theorem dX11_takeLine_57 : decode cX11_takeLine 57 = .ok (.getfield 88, 3) := by decide +kernel
theorem dX11_takeLine_60 : decode cX11_takeLine 60 = .ok (.invokevirtual 91, 3) := by decide +kernel
theorem dX11_takeLine_63 : decode cX11_takeLine 63 = .ok (.bipush 58, 2) := by decide +kernel
theorem dX11_takeLine_65 : decode cX11_takeLine 65 = .ok (.if_icmp .ne 138, 3) := by decide +kernel
theorem dX11_takeLine_68 : decode cX11_takeLine 68 = .ok (.aload_n 0, 1) := by decide +kernel
theorem dX11_takeLine_69 : decode cX11_takeLine 69 = .ok (.dup, 1) := by decide +kernel
theorem dX11_takeLine_70 : decode cX11_takeLine 70 = .ok (.getfield 88, 3) := by decide +kernel
theorem dX11_takeLine_73 : decode cX11_takeLine 73 = .ok (.iconst 1, 1) := by decide +kernel
theorem dX11_takeLine_74 : decode cX11_takeLine 74 = .ok (.iadd, 1) := by decide +kernel
theorem dX11_takeLine_75 : decode cX11_takeLine 75 = .ok (.putfield 88, 3) := by decide +kernel
theorem dX11_takeLine_78 : decode cX11_takeLine 78 = .ok (.aload_n 0, 1) := by decide +kernel
theorem dX11_takeLine_79 : decode cX11_takeLine 79 = .ok (.lload 5, 2) := by decide +kernel
theorem dX11_takeLine_81 : decode cX11_takeLine 81 = .ok (.lconst 0, 1) := by decide +kernel
theorem dX11_takeLine_82 : decode cX11_takeLine 82 = .ok (.lcmp, 1) := by decide +kernel
theorem dX11_takeLine_83 : decode cX11_takeLine 83 = .ok (.ifCond .ne 7, 3) := by decide +kernel
theorem dX11_takeLine_86 : decode cX11_takeLine 86 = .ok (.iconst 1, 1) := by decide +kernel
theorem dX11_takeLine_87 : decode cX11_takeLine 87 = .ok (.goto 4, 3) := by decide +kernel
theorem dX11_takeLine_90 : decode cX11_takeLine 90 = .ok (.iconst 0, 1) := by decide +kernel
theorem dX11_takeLine_91 : decode cX11_takeLine 91 = .ok (.putfield 102, 3) := by decide +kernel
theorem dX11_takeLine_94 : decode cX11_takeLine 94 = .ok (.aload_n 0, 1) := by decide +kernel
theorem dX11_takeLine_95 : decode cX11_takeLine 95 = .ok (.getfield 256, 3) := by decide +kernel
theorem dX11_takeLine_98 : decode cX11_takeLine 98 = .ok (.bipush 16, 2) := by decide +kernel
theorem dX11_takeLine_100 : decode cX11_takeLine 100 = .ok (.if_icmp .ne 7, 3) := by decide +kernel
theorem dX11_takeLine_103 : decode cX11_takeLine 103 = .ok (.iconst 1, 1) := by decide +kernel
theorem dX11_takeLine_104 : decode cX11_takeLine 104 = .ok (.goto 4, 3) := by decide +kernel
theorem dX11_takeLine_107 : decode cX11_takeLine 107 = .ok (.iconst 0, 1) := by decide +kernel
theorem dX11_takeLine_108 : decode cX11_takeLine 108 = .ok (.istore_n 2, 1) := by decide +kernel
theorem dX11_takeLine_109 : decode cX11_takeLine 109 = .ok (.aload_n 0, 1) := by decide +kernel
theorem dX11_takeLine_110 : decode cX11_takeLine 110 = .ok (.lload 5, 2) := by decide +kernel
theorem dX11_takeLine_112 : decode cX11_takeLine 112 = .ok (.invokevirtual 259, 3) := by decide +kernel
theorem dX11_takeLine_115 : decode cX11_takeLine 115 = .ok (.ifCond .lt 7, 3) := by decide +kernel
theorem dX11_takeLine_118 : decode cX11_takeLine 118 = .ok (.iconst 1, 1) := by decide +kernel
theorem dX11_takeLine_119 : decode cX11_takeLine 119 = .ok (.goto 4, 3) := by decide +kernel
theorem dX11_takeLine_122 : decode cX11_takeLine 122 = .ok (.iconst 0, 1) := by decide +kernel
theorem dX11_takeLine_123 : decode cX11_takeLine 123 = .ok (.istore_n 3, 1) := by decide +kernel
theorem dX11_takeLine_124 : decode cX11_takeLine 124 = .ok (.aload_n 0, 1) := by decide +kernel
theorem dX11_takeLine_125 : decode cX11_takeLine 125 = .ok (.getfield 102, 3) := by decide +kernel
theorem dX11_takeLine_128 : decode cX11_takeLine 128 = .ok (.ifCond .ne 43, 3) := by decide +kernel
theorem dX11_takeLine_131 : decode cX11_takeLine 131 = .ok (.iload_n 2, 1) := by decide +kernel
theorem dX11_takeLine_132 : decode cX11_takeLine 132 = .ok (.ifCond .ne 39, 3) := by decide +kernel
theorem dX11_takeLine_135 : decode cX11_takeLine 135 = .ok (.aload_n 0, 1) := by decide +kernel
theorem dX11_takeLine_136 : decode cX11_takeLine 136 = .ok (.getfield 17, 3) := by decide +kernel
theorem dX11_takeLine_139 : decode cX11_takeLine 139 = .ok (.aload_n 0, 1) := by decide +kernel
theorem dX11_takeLine_140 : decode cX11_takeLine 140 = .ok (.getfield 256, 3) := by decide +kernel
theorem dX11_takeLine_143 : decode cX11_takeLine 143 = .ok (.lload 5, 2) := by decide +kernel
theorem dX11_takeLine_145 : decode cX11_takeLine 145 = .ok (.lastore, 1) := by decide +kernel
theorem dX11_takeLine_146 : decode cX11_takeLine 146 = .ok (.aload_n 0, 1) := by decide +kernel
theorem dX11_takeLine_147 : decode cX11_takeLine 147 = .ok (.getfield 21, 3) := by decide +kernel
theorem dX11_takeLine_150 : decode cX11_takeLine 150 = .ok (.aload_n 0, 1) := by decide +kernel
theorem dX11_takeLine_151 : decode cX11_takeLine 151 = .ok (.getfield 256, 3) := by decide +kernel
theorem dX11_takeLine_154 : decode cX11_takeLine 154 = .ok (.iload_n 1, 1) := by decide +kernel
theorem dX11_takeLine_155 : decode cX11_takeLine 155 = .ok (.aload_n 0, 1) := by decide +kernel
theorem dX11_takeLine_156 : decode cX11_takeLine 156 = .ok (.getfield 202, 3) := by decide +kernel
theorem dX11_takeLine_159 : decode cX11_takeLine 159 = .ok (.iadd, 1) := by decide +kernel
theorem dX11_takeLine_160 : decode cX11_takeLine 160 = .ok (.iastore, 1) := by decide +kernel
theorem dX11_takeLine_161 : decode cX11_takeLine 161 = .ok (.aload_n 0, 1) := by decide +kernel
theorem dX11_takeLine_162 : decode cX11_takeLine 162 = .ok (.dup, 1) := by decide +kernel
theorem dX11_takeLine_163 : decode cX11_takeLine 163 = .ok (.getfield 256, 3) := by decide +kernel
theorem dX11_takeLine_166 : decode cX11_takeLine 166 = .ok (.iconst 1, 1) := by decide +kernel
theorem dX11_takeLine_167 : decode cX11_takeLine 167 = .ok (.iadd, 1) := by decide +kernel
theorem dX11_takeLine_168 : decode cX11_takeLine 168 = .ok (.putfield 256, 3) := by decide +kernel
theorem dX11_takeLine_171 : decode cX11_takeLine 171 = .ok (.aload_n 0, 1) := by decide +kernel
theorem dX11_takeLine_172 : decode cX11_takeLine 172 = .ok (.invokevirtual 95, 3) := by decide +kernel
theorem dX11_takeLine_175 : decode cX11_takeLine 175 = .ok (.aload_n 0, 1) := by decide +kernel
theorem dX11_takeLine_176 : decode cX11_takeLine 176 = .ok (.getfield 88, 3) := by decide +kernel
theorem dX11_takeLine_179 : decode cX11_takeLine 179 = .ok (.istore 4, 2) := by decide +kernel
theorem dX11_takeLine_181 : decode cX11_takeLine 181 = .ok (.aload_n 0, 1) := by decide +kernel
theorem dX11_takeLine_182 : decode cX11_takeLine 182 = .ok (.invokevirtual 195, 3) := by decide +kernel
theorem dX11_takeLine_185 : decode cX11_takeLine 185 = .ok (.lstore 5, 2) := by decide +kernel
theorem dX11_takeLine_187 : decode cX11_takeLine 187 = .ok (.aload_n 0, 1) := by decide +kernel
theorem dX11_takeLine_188 : decode cX11_takeLine 188 = .ok (.getfield 88, 3) := by decide +kernel
theorem dX11_takeLine_191 : decode cX11_takeLine 191 = .ok (.iload 4, 2) := by decide +kernel
theorem dX11_takeLine_193 : decode cX11_takeLine 193 = .ok (.if_icmp .le 7, 3) := by decide +kernel
theorem dX11_takeLine_196 : decode cX11_takeLine 196 = .ok (.iconst 1, 1) := by decide +kernel
theorem dX11_takeLine_197 : decode cX11_takeLine 197 = .ok (.goto 4, 3) := by decide +kernel
theorem dX11_takeLine_200 : decode cX11_takeLine 200 = .ok (.iconst 0, 1) := by decide +kernel
theorem dX11_takeLine_201 : decode cX11_takeLine 201 = .ok (.istore 7, 2) := by decide +kernel
theorem dX11_takeLine_203 : decode cX11_takeLine 203 = .ok (.iload 7, 2) := by decide +kernel
theorem dX11_takeLine_205 : decode cX11_takeLine 205 = .ok (.ifCond .eq 137, 3) := by decide +kernel
theorem dX11_takeLine_208 : decode cX11_takeLine 208 = .ok (.aload_n 0, 1) := by decide +kernel
theorem dX11_takeLine_209 : decode cX11_takeLine 209 = .ok (.getfield 102, 3) := by decide +kernel
theorem dX11_takeLine_212 : decode cX11_takeLine 212 = .ok (.ifCond .ne 130, 3) := by decide +kernel
theorem dX11_takeLine_215 : decode cX11_takeLine 215 = .ok (.lload 5, 2) := by decide +kernel
theorem dX11_takeLine_217 : decode cX11_takeLine 217 = .ok (.invokestatic 263, 3) := by decide +kernel
theorem dX11_takeLine_220 : decode cX11_takeLine 220 = .ok (.istore 8, 2) := by decide +kernel
theorem dX11_takeLine_222 : decode cX11_takeLine 222 = .ok (.aload_n 0, 1) := by decide +kernel
theorem dX11_takeLine_223 : decode cX11_takeLine 223 = .ok (.iload 8, 2) := by decide +kernel
theorem dX11_takeLine_225 : decode cX11_takeLine 225 = .ok (.ifCond .ne 7, 3) := by decide +kernel
theorem dX11_takeLine_228 : decode cX11_takeLine 228 = .ok (.iconst 1, 1) := by decide +kernel
theorem dX11_takeLine_229 : decode cX11_takeLine 229 = .ok (.goto 4, 3) := by decide +kernel
theorem dX11_takeLine_232 : decode cX11_takeLine 232 = .ok (.iconst 0, 1) := by decide +kernel
theorem dX11_takeLine_233 : decode cX11_takeLine 233 = .ok (.putfield 102, 3) := by decide +kernel
theorem dX11_takeLine_236 : decode cX11_takeLine 236 = .ok (.aload_n 0, 1) := by decide +kernel
theorem dX11_takeLine_237 : decode cX11_takeLine 237 = .ok (.getfield 102, 3) := by decide +kernel
theorem dX11_takeLine_240 : decode cX11_takeLine 240 = .ok (.ifCond .eq 7, 3) := by decide +kernel
theorem dX11_takeLine_243 : decode cX11_takeLine 243 = .ok (.iconst 0, 1) := by decide +kernel
theorem dX11_takeLine_244 : decode cX11_takeLine 244 = .ok (.goto 12, 3) := by decide +kernel
theorem dX11_takeLine_247 : decode cX11_takeLine 247 = .ok (.aload_n 0, 1) := by decide +kernel
theorem dX11_takeLine_248 : decode cX11_takeLine 248 = .ok (.iload 8, 2) := by decide +kernel
theorem dX11_takeLine_250 : decode cX11_takeLine 250 = .ok (.bipush 15, 2) := by decide +kernel
theorem dX11_takeLine_252 : decode cX11_takeLine 252 = .ok (.iand, 1) := by decide +kernel
theorem dX11_takeLine_253 : decode cX11_takeLine 253 = .ok (.invokevirtual 266, 3) := by decide +kernel
theorem dX11_takeLine_256 : decode cX11_takeLine 256 = .ok (.istore 9, 2) := by decide +kernel
theorem dX11_takeLine_258 : decode cX11_takeLine 258 = .ok (.iload_n 2, 1) := by decide +kernel
theorem dX11_takeLine_259 : decode cX11_takeLine 259 = .ok (.ifCond .ne 15, 3) := by decide +kernel
theorem dX11_takeLine_262 : decode cX11_takeLine 262 = .ok (.iload_n 1, 1) := by decide +kernel
theorem dX11_takeLine_263 : decode cX11_takeLine 263 = .ok (.aload_n 0, 1) := by decide +kernel
theorem dX11_takeLine_264 : decode cX11_takeLine 264 = .ok (.getfield 202, 3) := by decide +kernel
theorem dX11_takeLine_267 : decode cX11_takeLine 267 = .ok (.iadd, 1) := by decide +kernel
theorem dX11_takeLine_268 : decode cX11_takeLine 268 = .ok (.sipush 128, 3) := by decide +kernel
theorem dX11_takeLine_271 : decode cX11_takeLine 271 = .ok (.if_icmp .lt 7, 3) := by decide +kernel
theorem dX11_takeLine_274 : decode cX11_takeLine 274 = .ok (.iconst 1, 1) := by decide +kernel
theorem dX11_takeLine_275 : decode cX11_takeLine 275 = .ok (.goto 4, 3) := by decide +kernel
theorem dX11_takeLine_278 : decode cX11_takeLine 278 = .ok (.iconst 0, 1) := by decide +kernel
theorem dX11_takeLine_279 : decode cX11_takeLine 279 = .ok (.istore_n 2, 1) := by decide +kernel
theorem dX11_takeLine_280 : decode cX11_takeLine 280 = .ok (.iload_n 1, 1) := by decide +kernel
theorem dX11_takeLine_281 : decode cX11_takeLine 281 = .ok (.aload_n 0, 1) := by decide +kernel
theorem dX11_takeLine_282 : decode cX11_takeLine 282 = .ok (.getfield 202, 3) := by decide +kernel
theorem dX11_takeLine_285 : decode cX11_takeLine 285 = .ok (.iadd, 1) := by decide +kernel
theorem dX11_takeLine_286 : decode cX11_takeLine 286 = .ok (.sipush 128, 3) := by decide +kernel
theorem dX11_takeLine_289 : decode cX11_takeLine 289 = .ok (.if_icmp .ge 43, 3) := by decide +kernel
theorem dX11_takeLine_292 : decode cX11_takeLine 292 = .ok (.aload_n 0, 1) := by decide +kernel
theorem dX11_takeLine_293 : decode cX11_takeLine 293 = .ok (.getfield 13, 3) := by decide +kernel
theorem dX11_takeLine_296 : decode cX11_takeLine 296 = .ok (.aload_n 0, 1) := by decide +kernel
theorem dX11_takeLine_297 : decode cX11_takeLine 297 = .ok (.getfield 202, 3) := by decide +kernel
theorem dX11_takeLine_300 : decode cX11_takeLine 300 = .ok (.iload 9, 2) := by decide +kernel
theorem dX11_takeLine_302 : decode cX11_takeLine 302 = .ok (.iload 8, 2) := by decide +kernel
theorem dX11_takeLine_304 : decode cX11_takeLine 304 = .ok (.iconst 4, 1) := by decide +kernel
theorem dX11_takeLine_305 : decode cX11_takeLine 305 = .ok (.ishr, 1) := by decide +kernel
theorem dX11_takeLine_306 : decode cX11_takeLine 306 = .ok (.bipush 127, 2) := by decide +kernel
theorem dX11_takeLine_308 : decode cX11_takeLine 308 = .ok (.iand, 1) := by decide +kernel
theorem dX11_takeLine_309 : decode cX11_takeLine 309 = .ok (.ior, 1) := by decide +kernel
theorem dX11_takeLine_310 : decode cX11_takeLine 310 = .ok (.iload 8, 2) := by decide +kernel
theorem dX11_takeLine_312 : decode cX11_takeLine 312 = .ok (.bipush 11, 2) := by decide +kernel
theorem dX11_takeLine_314 : decode cX11_takeLine 314 = .ok (.ishr, 1) := by decide +kernel
theorem dX11_takeLine_315 : decode cX11_takeLine 315 = .ok (.bipush 7, 2) := by decide +kernel
theorem dX11_takeLine_317 : decode cX11_takeLine 317 = .ok (.iand, 1) := by decide +kernel
theorem dX11_takeLine_318 : decode cX11_takeLine 318 = .ok (.bipush 12, 2) := by decide +kernel
theorem dX11_takeLine_320 : decode cX11_takeLine 320 = .ok (.ishl, 1) := by decide +kernel
theorem dX11_takeLine_321 : decode cX11_takeLine 321 = .ok (.ior, 1) := by decide +kernel
theorem dX11_takeLine_322 : decode cX11_takeLine 322 = .ok (.iload 8, 2) := by decide +kernel
theorem dX11_takeLine_324 : decode cX11_takeLine 324 = .ok (.bipush 14, 2) := by decide +kernel
theorem dX11_takeLine_326 : decode cX11_takeLine 326 = .ok (.ishr, 1) := by decide +kernel
theorem dX11_takeLine_327 : decode cX11_takeLine 327 = .ok (.bipush 25, 2) := by decide +kernel
theorem dX11_takeLine_329 : decode cX11_takeLine 329 = .ok (.ishl, 1) := by decide +kernel
theorem dX11_takeLine_330 : decode cX11_takeLine 330 = .ok (.ior, 1) := by decide +kernel
theorem dX11_takeLine_331 : decode cX11_takeLine 331 = .ok (.iastore, 1) := by decide +kernel
theorem dX11_takeLine_332 : decode cX11_takeLine 332 = .ok (.aload_n 0, 1) := by decide +kernel
theorem dX11_takeLine_333 : decode cX11_takeLine 333 = .ok (.dup, 1) := by decide +kernel
theorem dX11_takeLine_334 : decode cX11_takeLine 334 = .ok (.getfield 202, 3) := by decide +kernel
theorem dX11_takeLine_337 : decode cX11_takeLine 337 = .ok (.iconst 1, 1) := by decide +kernel
theorem dX11_takeLine_338 : decode cX11_takeLine 338 = .ok (.iadd, 1) := by decide +kernel
theorem dX11_takeLine_339 : decode cX11_takeLine 339 = .ok (.putfield 202, 3) := by decide +kernel
theorem dX11_takeLine_342 : decode cX11_takeLine 342 = .ok (.aload_n 0, 1) := by decide +kernel
theorem dX11_takeLine_343 : decode cX11_takeLine 343 = .ok (.invokevirtual 95, 3) := by decide +kernel
theorem dX11_takeLine_346 : decode cX11_takeLine 346 = .ok (.aload_n 0, 1) := by decide +kernel
theorem dX11_takeLine_347 : decode cX11_takeLine 347 = .ok (.aload_n 0, 1) := by decide +kernel
theorem dX11_takeLine_348 : decode cX11_takeLine 348 = .ok (.getfield 102, 3) := by decide +kernel
theorem dX11_takeLine_351 : decode cX11_takeLine 351 = .ok (.ifCond .ne 10, 3) := by decide +kernel
theorem dX11_takeLine_354 : decode cX11_takeLine 354 = .ok (.aload_n 0, 1) := by decide +kernel
theorem dX11_takeLine_355 : decode cX11_takeLine 355 = .ok (.invokevirtual 269, 3) := by decide +kernel
theorem dX11_takeLine_358 : decode cX11_takeLine 358 = .ok (.ifCond .ne 7, 3) := by decide +kernel
theorem dX11_takeLine_361 : decode cX11_takeLine 361 = .ok (.iconst 1, 1) := by decide +kernel
theorem dX11_takeLine_362 : decode cX11_takeLine 362 = .ok (.goto 4, 3) := by decide +kernel
theorem dX11_takeLine_365 : decode cX11_takeLine 365 = .ok (.iconst 0, 1) := by decide +kernel
theorem dX11_takeLine_366 : decode cX11_takeLine 366 = .ok (.putfield 102, 3) := by decide +kernel
theorem dX11_takeLine_369 : decode cX11_takeLine 369 = .ok (.aload_n 0, 1) := by decide +kernel
theorem dX11_takeLine_370 : decode cX11_takeLine 370 = .ok (.aload_n 0, 1) := by decide +kernel
theorem dX11_takeLine_371 : decode cX11_takeLine 371 = .ok (.getfield 102, 3) := by decide +kernel
theorem dX11_takeLine_374 : decode cX11_takeLine 374 = .ok (.ifCond .eq 7, 3) := by decide +kernel
theorem dX11_takeLine_377 : decode cX11_takeLine 377 = .ok (.iconst 1, 1) := by decide +kernel
theorem dX11_takeLine_378 : decode cX11_takeLine 378 = .ok (.goto 31, 3) := by decide +kernel
theorem dX11_takeLine_381 : decode cX11_takeLine 381 = .ok (.aload_n 0, 1) := by decide +kernel
theorem dX11_takeLine_382 : decode cX11_takeLine 382 = .ok (.getfield 111, 3) := by decide +kernel
theorem dX11_takeLine_385 : decode cX11_takeLine 385 = .ok (.ifCond .eq 7, 3) := by decide +kernel
theorem dX11_takeLine_388 : decode cX11_takeLine 388 = .ok (.iconst 2, 1) := by decide +kernel
theorem dX11_takeLine_389 : decode cX11_takeLine 389 = .ok (.goto 20, 3) := by decide +kernel
theorem dX11_takeLine_392 : decode cX11_takeLine 392 = .ok (.iload_n 2, 1) := by decide +kernel
theorem dX11_takeLine_393 : decode cX11_takeLine 393 = .ok (.ifCond .eq 7, 3) := by decide +kernel
theorem dX11_takeLine_396 : decode cX11_takeLine 396 = .ok (.iconst 4, 1) := by decide +kernel
theorem dX11_takeLine_397 : decode cX11_takeLine 397 = .ok (.goto 12, 3) := by decide +kernel
theorem dX11_takeLine_400 : decode cX11_takeLine 400 = .ok (.iload_n 3, 1) := by decide +kernel
theorem dX11_takeLine_401 : decode cX11_takeLine 401 = .ok (.ifCond .eq 7, 3) := by decide +kernel
theorem dX11_takeLine_404 : decode cX11_takeLine 404 = .ok (.iconst 3, 1) := by decide +kernel
theorem dX11_takeLine_405 : decode cX11_takeLine 405 = .ok (.goto 4, 3) := by decide +kernel
theorem dX11_takeLine_408 : decode cX11_takeLine 408 = .ok (.iconst 0, 1) := by decide +kernel
theorem dX11_takeLine_409 : decode cX11_takeLine 409 = .ok (.putfield 273, 3) := by decide +kernel
theorem dX11_takeLine_412 : decode cX11_takeLine 412 = .ok (.return_, 1) := by decide +kernel
theorem dX11_link_0 : decode cX11_link 0 = .ok (.iconst 0, 1) := by decide +kernel
theorem dX11_link_1 : decode cX11_link 1 = .ok (.istore_n 2, 1) := by decide +kernel
theorem dX11_link_2 : decode cX11_link 2 = .ok (.iload_n 2, 1) := by decide +kernel
theorem dX11_link_3 : decode cX11_link 3 = .ok (.aload_n 0, 1) := by decide +kernel
theorem dX11_link_4 : decode cX11_link 4 = .ok (.getfield 199, 3) := by decide +kernel
theorem dX11_link_7 : decode cX11_link 7 = .ok (.if_icmp .ge 170, 3) := by decide +kernel
theorem dX11_link_10 : decode cX11_link 10 = .ok (.aload_n 0, 1) := by decide +kernel
theorem dX11_link_11 : decode cX11_link 11 = .ok (.getfield 273, 3) := by decide +kernel
theorem dX11_link_14 : decode cX11_link 14 = .ok (.ifCond .ne 163, 3) := by decide +kernel
theorem dX11_link_17 : decode cX11_link 17 = .ok (.aload_n 0, 1) := by decide +kernel
theorem dX11_link_18 : decode cX11_link 18 = .ok (.aload_n 0, 1) := by decide +kernel
theorem dX11_link_19 : decode cX11_link 19 = .ok (.getfield 24, 3) := by decide +kernel
theorem dX11_link_22 : decode cX11_link 22 = .ok (.iload_n 2, 1) := by decide +kernel
theorem dX11_link_23 : decode cX11_link 23 = .ok (.laload, 1) := by decide +kernel
theorem dX11_link_24 : decode cX11_link 24 = .ok (.invokevirtual 259, 3) := by decide +kernel
theorem dX11_link_27 : decode cX11_link 27 = .ok (.istore_n 3, 1) := by decide +kernel
theorem dX11_link_28 : decode cX11_link 28 = .ok (.aload_n 0, 1) := by decide +kernel
theorem dX11_link_29 : decode cX11_link 29 = .ok (.getfield 27, 3) := by decide +kernel
theorem dX11_link_32 : decode cX11_link 32 = .ok (.iload_n 2, 1) := by decide +kernel
theorem dX11_link_33 : decode cX11_link 33 = .ok (.iaload, 1) := by decide +kernel
theorem dX11_link_34 : decode cX11_link 34 = .ok (.istore 4, 2) := by decide +kernel
theorem dX11_link_36 : decode cX11_link 36 = .ok (.aload_n 0, 1) := by decide +kernel
theorem dX11_link_37 : decode cX11_link 37 = .ok (.getfield 13, 3) := by decide +kernel
theorem dX11_link_40 : decode cX11_link 40 = .ok (.iload 4, 2) := by decide +kernel
theorem dX11_link_42 : decode cX11_link 42 = .ok (.iaload, 1) := by decide +kernel
theorem dX11_link_43 : decode cX11_link 43 = .ok (.bipush 127, 2) := by decide +kernel
theorem dX11_link_45 : decode cX11_link 45 = .ok (.iand, 1) := by decide +kernel
theorem dX11_link_46 : decode cX11_link 46 = .ok (.bipush 111, 2) := by decide +kernel
theorem dX11_link_48 : decode cX11_link 48 = .ok (.if_icmp .ne 7, 3) := by decide +kernel
theorem dX11_link_51 : decode cX11_link 51 = .ok (.iconst 1, 1) := by decide +kernel
theorem dX11_link_52 : decode cX11_link 52 = .ok (.goto 4, 3) := by decide +kernel
theorem dX11_link_55 : decode cX11_link 55 = .ok (.iconst 0, 1) := by decide +kernel
theorem dX11_link_56 : decode cX11_link 56 = .ok (.istore 5, 2) := by decide +kernel
theorem dX11_link_58 : decode cX11_link 58 = .ok (.iload_n 3, 1) := by decide +kernel
theorem dX11_link_59 : decode cX11_link 59 = .ok (.ifCond .ge 7, 3) := by decide +kernel
theorem dX11_link_62 : decode cX11_link 62 = .ok (.iconst 0, 1) := by decide +kernel
theorem dX11_link_63 : decode cX11_link 63 = .ok (.goto 16, 3) := by decide +kernel
theorem dX11_link_66 : decode cX11_link 66 = .ok (.iconst 4, 1) := by decide +kernel
theorem dX11_link_67 : decode cX11_link 67 = .ok (.aload_n 0, 1) := by decide +kernel
theorem dX11_link_68 : decode cX11_link 68 = .ok (.getfield 21, 3) := by decide +kernel
theorem dX11_link_71 : decode cX11_link 71 = .ok (.iload_n 3, 1) := by decide +kernel
theorem dX11_link_72 : decode cX11_link 72 = .ok (.iaload, 1) := by decide +kernel
theorem dX11_link_73 : decode cX11_link 73 = .ok (.iload_n 1, 1) := by decide +kernel
theorem dX11_link_74 : decode cX11_link 74 = .ok (.isub, 1) := by decide +kernel
theorem dX11_link_75 : decode cX11_link 75 = .ok (.iload 4, 2) := by decide +kernel
theorem dX11_link_77 : decode cX11_link 77 = .ok (.isub, 1) := by decide +kernel
theorem dX11_link_78 : decode cX11_link 78 = .ok (.imul, 1) := by decide +kernel
theorem dX11_link_79 : decode cX11_link 79 = .ok (.istore 6, 2) := by decide +kernel
theorem dX11_link_81 : decode cX11_link 81 = .ok (.aload_n 0, 1) := by decide +kernel
theorem dX11_link_82 : decode cX11_link 82 = .ok (.iload_n 3, 1) := by decide +kernel
theorem dX11_link_83 : decode cX11_link 83 = .ok (.ifCond .ge 7, 3) := by decide +kernel
theorem dX11_link_86 : decode cX11_link 86 = .ok (.iconst 3, 1) := by decide +kernel
theorem dX11_link_87 : decode cX11_link 87 = .ok (.goto 29, 3) := by decide +kernel
theorem dX11_link_90 : decode cX11_link 90 = .ok (.iload 5, 2) := by decide +kernel
theorem dX11_link_92 : decode cX11_link 92 = .ok (.ifCond .ne 23, 3) := by decide +kernel
theorem dX11_link_95 : decode cX11_link 95 = .ok (.iload 6, 2) := by decide +kernel
theorem dX11_link_97 : decode cX11_link 97 = .ok (.sipush (-4096), 3) := by decide +kernel
theorem dX11_link_100 : decode cX11_link 100 = .ok (.if_icmp .lt 11, 3) := by decide +kernel
theorem dX11_link_103 : decode cX11_link 103 = .ok (.iload 6, 2) := by decide +kernel
theorem dX11_link_105 : decode cX11_link 105 = .ok (.sipush 4094, 3) := by decide +kernel
theorem dX11_link_108 : decode cX11_link 108 = .ok (.if_icmp .le 7, 3) := by decide +kernel
theorem dX11_link_111 : decode cX11_link 111 = .ok (.iconst 2, 1) := by decide +kernel
theorem dX11_link_112 : decode cX11_link 112 = .ok (.goto 4, 3) := by decide +kernel
theorem dX11_link_115 : decode cX11_link 115 = .ok (.iconst 0, 1) := by decide +kernel
theorem dX11_link_116 : decode cX11_link 116 = .ok (.putfield 273, 3) := by decide +kernel
theorem dX11_link_119 : decode cX11_link 119 = .ok (.aload_n 0, 1) := by decide +kernel
theorem dX11_link_120 : decode cX11_link 120 = .ok (.aload_n 0, 1) := by decide +kernel
theorem dX11_link_121 : decode cX11_link 121 = .ok (.getfield 273, 3) := by decide +kernel
theorem dX11_link_124 : decode cX11_link 124 = .ok (.ifCond .ne 10, 3) := by decide +kernel
theorem dX11_link_127 : decode cX11_link 127 = .ok (.aload_n 0, 1) := by decide +kernel
theorem dX11_link_128 : decode cX11_link 128 = .ok (.getfield 276, 3) := by decide +kernel
theorem dX11_link_131 : decode cX11_link 131 = .ok (.goto 9, 3) := by decide +kernel
theorem dX11_link_134 : decode cX11_link 134 = .ok (.aload_n 0, 1) := by decide +kernel
theorem dX11_link_135 : decode cX11_link 135 = .ok (.getfield 30, 3) := by decide +kernel
theorem dX11_link_138 : decode cX11_link 138 = .ok (.iload_n 2, 1) := by decide +kernel
theorem dX11_link_139 : decode cX11_link 139 = .ok (.iaload, 1) := by decide +kernel
theorem dX11_link_140 : decode cX11_link 140 = .ok (.putfield 276, 3) := by decide +kernel
theorem dX11_link_143 : decode cX11_link 143 = .ok (.aload_n 0, 1) := by decide +kernel
theorem dX11_link_144 : decode cX11_link 144 = .ok (.getfield 13, 3) := by decide +kernel
theorem dX11_link_147 : decode cX11_link 147 = .ok (.iload 4, 2) := by decide +kernel
theorem dX11_link_149 : decode cX11_link 149 = .ok (.dup2, 1) := by decide +kernel
theorem dX11_link_150 : decode cX11_link 150 = .ok (.iaload, 1) := by decide +kernel
theorem dX11_link_151 : decode cX11_link 151 = .ok (.iload 5, 2) := by decide +kernel
theorem dX11_link_153 : decode cX11_link 153 = .ok (.ifCond .eq 11, 3) := by decide +kernel
theorem dX11_link_156 : decode cX11_link 156 = .ok (.iload 6, 2) := by decide +kernel
theorem dX11_link_158 : decode cX11_link 158 = .ok (.invokestatic 214, 3) := by decide +kernel
theorem dX11_link_161 : decode cX11_link 161 = .ok (.goto 8, 3) := by decide +kernel
theorem dX11_link_164 : decode cX11_link 164 = .ok (.iload 6, 2) := by decide +kernel
theorem dX11_link_166 : decode cX11_link 166 = .ok (.invokestatic 217, 3) := by decide +kernel
theorem dX11_link_169 : decode cX11_link 169 = .ok (.ior, 1) := by decide +kernel
theorem dX11_link_170 : decode cX11_link 170 = .ok (.iastore, 1) := by decide +kernel
theorem dX11_link_171 : decode cX11_link 171 = .ok (.iinc 2 1, 3) := by decide +kernel
theorem dX11_link_174 : decode cX11_link 174 = .ok (.goto (-172), 3) := by decide +kernel
theorem dX11_link_177 : decode cX11_link 177 = .ok (.return_, 1) := by decide +kernel
theorem dX11_assemble_0 : decode cX11_assemble 0 = .ok (.aload_n 0, 1) := by decide +kernel
theorem dX11_assemble_1 : decode cX11_assemble 1 = .ok (.iconst 0, 1) := by decide +kernel
theorem dX11_assemble_2 : decode cX11_assemble 2 = .ok (.putfield 70, 3) := by decide +kernel
theorem dX11_assemble_5 : decode cX11_assemble 5 = .ok (.iload_n 1, 1) := by decide +kernel
theorem dX11_assemble_6 : decode cX11_assemble 6 = .ok (.ifCond .lt 19, 3) := by decide +kernel
theorem dX11_assemble_9 : decode cX11_assemble 9 = .ok (.iload_n 1, 1) := by decide +kernel
theorem dX11_assemble_10 : decode cX11_assemble 10 = .ok (.iconst 3, 1) := by decide +kernel
theorem dX11_assemble_11 : decode cX11_assemble 11 = .ok (.if_icmp .gt 14, 3) := by decide +kernel
theorem dX11_assemble_14 : decode cX11_assemble 14 = .ok (.iload_n 2, 1) := by decide +kernel
theorem dX11_assemble_15 : decode cX11_assemble 15 = .ok (.ifCond .lt 10, 3) := by decide +kernel
theorem dX11_assemble_18 : decode cX11_assemble 18 = .ok (.iload_n 2, 1) := by decide +kernel
theorem dX11_assemble_19 : decode cX11_assemble 19 = .ok (.sipush 128, 3) := by decide +kernel
theorem dX11_assemble_22 : decode cX11_assemble 22 = .ok (.if_icmp .lt 9, 3) := by decide +kernel
theorem dX11_assemble_25 : decode cX11_assemble 25 = .ok (.aload_n 0, 1) := by decide +kernel
theorem dX11_assemble_26 : decode cX11_assemble 26 = .ok (.iconst 1, 1) := by decide +kernel
theorem dX11_assemble_27 : decode cX11_assemble 27 = .ok (.invokevirtual 279, 3) := by decide +kernel
theorem dX11_assemble_30 : decode cX11_assemble 30 = .ok (.ireturn, 1) := by decide +kernel
theorem dX11_assemble_31 : decode cX11_assemble 31 = .ok (.aload_n 0, 1) := by decide +kernel
theorem dX11_assemble_32 : decode cX11_assemble 32 = .ok (.iconst 0, 1) := by decide +kernel
theorem dX11_assemble_33 : decode cX11_assemble 33 = .ok (.putfield 88, 3) := by decide +kernel
theorem dX11_assemble_36 : decode cX11_assemble 36 = .ok (.aload_n 0, 1) := by decide +kernel
theorem dX11_assemble_37 : decode cX11_assemble 37 = .ok (.iconst 0, 1) := by decide +kernel
theorem dX11_assemble_38 : decode cX11_assemble 38 = .ok (.putfield 205, 3) := by decide +kernel
theorem dX11_assemble_41 : decode cX11_assemble 41 = .ok (.aload_n 0, 1) := by decide +kernel
theorem dX11_assemble_42 : decode cX11_assemble 42 = .ok (.iconst 0, 1) := by decide +kernel
theorem dX11_assemble_43 : decode cX11_assemble 43 = .ok (.putfield 202, 3) := by decide +kernel
theorem dX11_assemble_46 : decode cX11_assemble 46 = .ok (.aload_n 0, 1) := by decide +kernel
theorem dX11_assemble_47 : decode cX11_assemble 47 = .ok (.iconst 0, 1) := by decide +kernel
theorem dX11_assemble_48 : decode cX11_assemble 48 = .ok (.putfield 256, 3) := by decide +kernel
theorem dX11_assemble_51 : decode cX11_assemble 51 = .ok (.aload_n 0, 1) := by decide +kernel
theorem dX11_assemble_52 : decode cX11_assemble 52 = .ok (.iconst 0, 1) := by decide +kernel
theorem dX11_assemble_53 : decode cX11_assemble 53 = .ok (.putfield 199, 3) := by decide +kernel
theorem dX11_assemble_56 : decode cX11_assemble 56 = .ok (.aload_n 0, 1) := by decide +kernel
theorem dX11_assemble_57 : decode cX11_assemble 57 = .ok (.iconst 0, 1) := by decide +kernel
theorem dX11_assemble_58 : decode cX11_assemble 58 = .ok (.putfield 273, 3) := by decide +kernel
theorem dX11_assemble_61 : decode cX11_assemble 61 = .ok (.aload_n 0, 1) := by decide +kernel
theorem dX11_assemble_62 : decode cX11_assemble 62 = .ok (.iconst 0, 1) := by decide +kernel
theorem dX11_assemble_63 : decode cX11_assemble 63 = .ok (.putfield 276, 3) := by decide +kernel
theorem dX11_assemble_66 : decode cX11_assemble 66 = .ok (.iconst 1, 1) := by decide +kernel
theorem dX11_assemble_67 : decode cX11_assemble 67 = .ok (.istore_n 3, 1) := by decide +kernel
theorem dX11_assemble_68 : decode cX11_assemble 68 = .ok (.iload_n 3, 1) := by decide +kernel
theorem dX11_assemble_69 : decode cX11_assemble 69 = .ok (.ifCond .eq 74, 3) := by decide +kernel
theorem dX11_assemble_72 : decode cX11_assemble 72 = .ok (.aload_n 0, 1) := by decide +kernel
theorem dX11_assemble_73 : decode cX11_assemble 73 = .ok (.iload_n 2, 1) := by decide +kernel
theorem dX11_assemble_74 : decode cX11_assemble 74 = .ok (.invokevirtual 282, 3) := by decide +kernel
theorem dX11_assemble_77 : decode cX11_assemble 77 = .ok (.aload_n 0, 1) := by decide +kernel
theorem dX11_assemble_78 : decode cX11_assemble 78 = .ok (.aload_n 0, 1) := by decide +kernel
theorem dX11_assemble_79 : decode cX11_assemble 79 = .ok (.getfield 273, 3) := by decide +kernel
theorem dX11_assemble_82 : decode cX11_assemble 82 = .ok (.ifCond .le 10, 3) := by decide +kernel
theorem dX11_assemble_85 : decode cX11_assemble 85 = .ok (.aload_n 0, 1) := by decide +kernel
theorem dX11_assemble_86 : decode cX11_assemble 86 = .ok (.getfield 205, 3) := by decide +kernel
theorem dX11_assemble_89 : decode cX11_assemble 89 = .ok (.goto 4, 3) := by decide +kernel
theorem dX11_assemble_92 : decode cX11_assemble 92 = .ok (.iconst 0, 1) := by decide +kernel
theorem dX11_assemble_93 : decode cX11_assemble 93 = .ok (.putfield 276, 3) := by decide +kernel
theorem dX11_assemble_96 : decode cX11_assemble 96 = .ok (.aload_n 0, 1) := by decide +kernel
theorem dX11_assemble_97 : decode cX11_assemble 97 = .ok (.getfield 273, 3) := by decide +kernel
theorem dX11_assemble_100 : decode cX11_assemble 100 = .ok (.ifCond .ne 18, 3) := by decide +kernel
theorem dX11_assemble_103 : decode cX11_assemble 103 = .ok (.aload_n 0, 1) := by decide +kernel
theorem dX11_assemble_104 : decode cX11_assemble 104 = .ok (.getfield 88, 3) := by decide +kernel
theorem dX11_assemble_107 : decode cX11_assemble 107 = .ok (.aload_n 0, 1) := by decide +kernel
theorem dX11_assemble_108 : decode cX11_assemble 108 = .ok (.getfield 85, 3) := by decide +kernel
theorem dX11_assemble_111 : decode cX11_assemble 111 = .ok (.if_icmp .ge 7, 3) := by decide +kernel
theorem dX11_assemble_114 : decode cX11_assemble 114 = .ok (.iconst 1, 1) := by decide +kernel
theorem dX11_assemble_115 : decode cX11_assemble 115 = .ok (.goto 4, 3) := by decide +kernel
theorem dX11_assemble_118 : decode cX11_assemble 118 = .ok (.iconst 0, 1) := by decide +kernel
theorem dX11_assemble_119 : decode cX11_assemble 119 = .ok (.istore_n 3, 1) := by decide +kernel
theorem dX11_assemble_120 : decode cX11_assemble 120 = .ok (.aload_n 0, 1) := by decide +kernel
theorem dX11_assemble_121 : decode cX11_assemble 121 = .ok (.dup, 1) := by decide +kernel
theorem dX11_assemble_122 : decode cX11_assemble 122 = .ok (.getfield 88, 3) := by decide +kernel
theorem dX11_assemble_125 : decode cX11_assemble 125 = .ok (.iconst 1, 1) := by decide +kernel
theorem dX11_assemble_126 : decode cX11_assemble 126 = .ok (.iadd, 1) := by decide +kernel
theorem dX11_assemble_127 : decode cX11_assemble 127 = .ok (.putfield 88, 3) := by decide +kernel
theorem dX11_assemble_130 : decode cX11_assemble 130 = .ok (.aload_n 0, 1) := by decide +kernel
theorem dX11_assemble_131 : decode cX11_assemble 131 = .ok (.dup, 1) := by decide +kernel
theorem dX11_assemble_132 : decode cX11_assemble 132 = .ok (.getfield 205, 3) := by decide +kernel
theorem dX11_assemble_135 : decode cX11_assemble 135 = .ok (.iconst 1, 1) := by decide +kernel
theorem dX11_assemble_136 : decode cX11_assemble 136 = .ok (.iadd, 1) := by decide +kernel
theorem dX11_assemble_137 : decode cX11_assemble 137 = .ok (.putfield 205, 3) := by decide +kernel
theorem dX11_assemble_140 : decode cX11_assemble 140 = .ok (.goto (-72), 3) := by decide +kernel
theorem dX11_assemble_143 : decode cX11_assemble 143 = .ok (.aload_n 0, 1) := by decide +kernel
theorem dX11_assemble_144 : decode cX11_assemble 144 = .ok (.getfield 273, 3) := by decide +kernel
theorem dX11_assemble_147 : decode cX11_assemble 147 = .ok (.ifCond .ne 8, 3) := by decide +kernel
theorem dX11_assemble_150 : decode cX11_assemble 150 = .ok (.aload_n 0, 1) := by decide +kernel
theorem dX11_assemble_151 : decode cX11_assemble 151 = .ok (.iload_n 2, 1) := by decide +kernel
theorem dX11_assemble_152 : decode cX11_assemble 152 = .ok (.invokevirtual 285, 3) := by decide +kernel
theorem dX11_assemble_155 : decode cX11_assemble 155 = .ok (.aload_n 0, 1) := by decide +kernel
theorem dX11_assemble_156 : decode cX11_assemble 156 = .ok (.getfield 273, 3) := by decide +kernel
theorem dX11_assemble_159 : decode cX11_assemble 159 = .ok (.ifCond .le 9, 3) := by decide +kernel
theorem dX11_assemble_162 : decode cX11_assemble 162 = .ok (.aload_n 0, 1) := by decide +kernel
theorem dX11_assemble_163 : decode cX11_assemble 163 = .ok (.iconst 2, 1) := by decide +kernel
theorem dX11_assemble_164 : decode cX11_assemble 164 = .ok (.invokevirtual 279, 3) := by decide +kernel
theorem dX11_assemble_167 : decode cX11_assemble 167 = .ok (.ireturn, 1) := by decide +kernel
theorem dX11_assemble_168 : decode cX11_assemble 168 = .ok (.iconst 0, 1) := by decide +kernel
theorem dX11_assemble_169 : decode cX11_assemble 169 = .ok (.istore 4, 2) := by decide +kernel
theorem dX11_assemble_171 : decode cX11_assemble 171 = .ok (.iload 4, 2) := by decide +kernel
theorem dX11_assemble_173 : decode cX11_assemble 173 = .ok (.aload_n 0, 1) := by decide +kernel
theorem dX11_assemble_174 : decode cX11_assemble 174 = .ok (.getfield 202, 3) := by decide +kernel
theorem dX11_assemble_177 : decode cX11_assemble 177 = .ok (.if_icmp .ge 31, 3) := by decide +kernel
theorem dX11_assemble_180 : decode cX11_assemble 180 = .ok (.aload_n 0, 1) := by decide +kernel
theorem dX11_assemble_181 : decode cX11_assemble 181 = .ok (.getfield 33, 3) := by decide +kernel
theorem dX11_assemble_184 : decode cX11_assemble 184 = .ok (.sipush 128, 3) := by decide +kernel
theorem dX11_assemble_187 : decode cX11_assemble 187 = .ok (.iload_n 1, 1) := by decide +kernel
theorem dX11_assemble_188 : decode cX11_assemble 188 = .ok (.imul, 1) := by decide +kernel
theorem dX11_assemble_189 : decode cX11_assemble 189 = .ok (.iload_n 2, 1) := by decide +kernel
theorem dX11_assemble_190 : decode cX11_assemble 190 = .ok (.iadd, 1) := by decide +kernel
theorem dX11_assemble_191 : decode cX11_assemble 191 = .ok (.iload 4, 2) := by decide +kernel
theorem dX11_assemble_193 : decode cX11_assemble 193 = .ok (.iadd, 1) := by decide +kernel
theorem dX11_assemble_194 : decode cX11_assemble 194 = .ok (.aload_n 0, 1) := by decide +kernel
theorem dX11_assemble_195 : decode cX11_assemble 195 = .ok (.getfield 13, 3) := by decide +kernel
theorem dX11_assemble_198 : decode cX11_assemble 198 = .ok (.iload 4, 2) := by decide +kernel
theorem dX11_assemble_200 : decode cX11_assemble 200 = .ok (.iaload, 1) := by decide +kernel
theorem dX11_assemble_201 : decode cX11_assemble 201 = .ok (.iastore, 1) := by decide +kernel
theorem dX11_assemble_202 : decode cX11_assemble 202 = .ok (.iinc 4 1, 3) := by decide +kernel
theorem dX11_assemble_205 : decode cX11_assemble 205 = .ok (.goto (-34), 3) := by decide +kernel
theorem dX11_assemble_208 : decode cX11_assemble 208 = .ok (.aload_n 0, 1) := by decide +kernel
theorem dX11_assemble_209 : decode cX11_assemble 209 = .ok (.getfield 202, 3) := by decide +kernel
theorem dX11_assemble_212 : decode cX11_assemble 212 = .ok (.ireturn, 1) := by decide +kernel
theorem dX11_fault_0 : decode cX11_fault 0 = .ok (.aload_n 0, 1) := by decide +kernel
theorem dX11_fault_1 : decode cX11_fault 1 = .ok (.iconst 0, 1) := by decide +kernel
theorem dX11_fault_2 : decode cX11_fault 2 = .ok (.putfield 70, 3) := by decide +kernel
theorem dX11_fault_5 : decode cX11_fault 5 = .ok (.iload_n 1, 1) := by decide +kernel
theorem dX11_fault_6 : decode cX11_fault 6 = .ok (.ifCond .ne 10, 3) := by decide +kernel
theorem dX11_fault_9 : decode cX11_fault 9 = .ok (.aload_n 0, 1) := by decide +kernel
theorem dX11_fault_10 : decode cX11_fault 10 = .ok (.getfield 273, 3) := by decide +kernel
theorem dX11_fault_13 : decode cX11_fault 13 = .ok (.goto 16, 3) := by decide +kernel
theorem dX11_fault_16 : decode cX11_fault 16 = .ok (.iload_n 1, 1) := by decide +kernel
theorem dX11_fault_17 : decode cX11_fault 17 = .ok (.iconst 1, 1) := by decide +kernel
theorem dX11_fault_18 : decode cX11_fault 18 = .ok (.if_icmp .ne 10, 3) := by decide +kernel
theorem dX11_fault_21 : decode cX11_fault 21 = .ok (.aload_n 0, 1) := by decide +kernel
theorem dX11_fault_22 : decode cX11_fault 22 = .ok (.getfield 276, 3) := by decide +kernel
theorem dX11_fault_25 : decode cX11_fault 25 = .ok (.goto 4, 3) := by decide +kernel
theorem dX11_fault_28 : decode cX11_fault 28 = .ok (.iconst 0, 1) := by decide +kernel
theorem dX11_fault_29 : decode cX11_fault 29 = .ok (.ireturn, 1) := by decide +kernel
theorem dX11_peek_0 : decode cX11_peek 0 = .ok (.aload_n 0, 1) := by decide +kernel
theorem dX11_peek_1 : decode cX11_peek 1 = .ok (.iconst 0, 1) := by decide +kernel
theorem dX11_peek_2 : decode cX11_peek 2 = .ok (.putfield 70, 3) := by decide +kernel
theorem dX11_peek_5 : decode cX11_peek 5 = .ok (.iload_n 1, 1) := by decide +kernel
theorem dX11_peek_6 : decode cX11_peek 6 = .ok (.ifCond .lt 19, 3) := by decide +kernel
theorem dX11_peek_9 : decode cX11_peek 9 = .ok (.iload_n 1, 1) := by decide +kernel
theorem dX11_peek_10 : decode cX11_peek 10 = .ok (.iconst 3, 1) := by decide +kernel
theorem dX11_peek_11 : decode cX11_peek 11 = .ok (.if_icmp .gt 14, 3) := by decide +kernel
theorem dX11_peek_14 : decode cX11_peek 14 = .ok (.iload_n 2, 1) := by decide +kernel
theorem dX11_peek_15 : decode cX11_peek 15 = .ok (.ifCond .lt 10, 3) := by decide +kernel
theorem dX11_peek_18 : decode cX11_peek 18 = .ok (.iload_n 2, 1) := by decide +kernel
theorem dX11_peek_19 : decode cX11_peek 19 = .ok (.sipush 128, 3) := by decide +kernel
theorem dX11_peek_22 : decode cX11_peek 22 = .ok (.if_icmp .lt 7, 3) := by decide +kernel
theorem dX11_peek_25 : decode cX11_peek 25 = .ok (.iconst 0, 1) := by decide +kernel
theorem dX11_peek_26 : decode cX11_peek 26 = .ok (.goto 15, 3) := by decide +kernel
theorem dX11_peek_29 : decode cX11_peek 29 = .ok (.aload_n 0, 1) := by decide +kernel
theorem dX11_peek_30 : decode cX11_peek 30 = .ok (.getfield 33, 3) := by decide +kernel
theorem dX11_peek_33 : decode cX11_peek 33 = .ok (.sipush 128, 3) := by decide +kernel
theorem dX11_peek_36 : decode cX11_peek 36 = .ok (.iload_n 1, 1) := by decide +kernel
theorem dX11_peek_37 : decode cX11_peek 37 = .ok (.imul, 1) := by decide +kernel
theorem dX11_peek_38 : decode cX11_peek 38 = .ok (.iload_n 2, 1) := by decide +kernel
theorem dX11_peek_39 : decode cX11_peek 39 = .ok (.iadd, 1) := by decide +kernel
theorem dX11_peek_40 : decode cX11_peek 40 = .ok (.iaload, 1) := by decide +kernel
theorem dX11_peek_41 : decode cX11_peek 41 = .ok (.ireturn, 1) := by decide +kernel
theorem dX11_poke_0 : decode cX11_poke 0 = .ok (.aload_n 0, 1) := by decide +kernel
theorem dX11_poke_1 : decode cX11_poke 1 = .ok (.iconst 0, 1) := by decide +kernel
theorem dX11_poke_2 : decode cX11_poke 2 = .ok (.putfield 70, 3) := by decide +kernel
theorem dX11_poke_5 : decode cX11_poke 5 = .ok (.iload_n 1, 1) := by decide +kernel
theorem dX11_poke_6 : decode cX11_poke 6 = .ok (.ifCond .lt 19, 3) := by decide +kernel
theorem dX11_poke_9 : decode cX11_poke 9 = .ok (.iload_n 1, 1) := by decide +kernel
theorem dX11_poke_10 : decode cX11_poke 10 = .ok (.iconst 3, 1) := by decide +kernel
theorem dX11_poke_11 : decode cX11_poke 11 = .ok (.if_icmp .gt 14, 3) := by decide +kernel
theorem dX11_poke_14 : decode cX11_poke 14 = .ok (.iload_n 2, 1) := by decide +kernel
theorem dX11_poke_15 : decode cX11_poke 15 = .ok (.ifCond .lt 10, 3) := by decide +kernel
theorem dX11_poke_18 : decode cX11_poke 18 = .ok (.iload_n 2, 1) := by decide +kernel
theorem dX11_poke_19 : decode cX11_poke 19 = .ok (.sipush 128, 3) := by decide +kernel
theorem dX11_poke_22 : decode cX11_poke 22 = .ok (.if_icmp .lt 5, 3) := by decide +kernel
theorem dX11_poke_25 : decode cX11_poke 25 = .ok (.iconst 0, 1) := by decide +kernel
theorem dX11_poke_26 : decode cX11_poke 26 = .ok (.ireturn, 1) := by decide +kernel
theorem dX11_poke_27 : decode cX11_poke 27 = .ok (.aload_n 0, 1) := by decide +kernel
theorem dX11_poke_28 : decode cX11_poke 28 = .ok (.getfield 33, 3) := by decide +kernel
theorem dX11_poke_31 : decode cX11_poke 31 = .ok (.sipush 128, 3) := by decide +kernel
theorem dX11_poke_34 : decode cX11_poke 34 = .ok (.iload_n 1, 1) := by decide +kernel
theorem dX11_poke_35 : decode cX11_poke 35 = .ok (.imul, 1) := by decide +kernel
theorem dX11_poke_36 : decode cX11_poke 36 = .ok (.iload_n 2, 1) := by decide +kernel
theorem dX11_poke_37 : decode cX11_poke 37 = .ok (.iadd, 1) := by decide +kernel
theorem dX11_poke_38 : decode cX11_poke 38 = .ok (.iload_n 3, 1) := by decide +kernel
theorem dX11_poke_39 : decode cX11_poke 39 = .ok (.iastore, 1) := by decide +kernel
theorem dX11_poke_40 : decode cX11_poke 40 = .ok (.iconst 1, 1) := by decide +kernel
theorem dX11_poke_41 : decode cX11_poke 41 = .ok (.ireturn, 1) := by decide +kernel
theorem dX11_shared_0 : decode cX11_shared 0 = .ok (.aload_n 0, 1) := by decide +kernel
theorem dX11_shared_1 : decode cX11_shared 1 = .ok (.iconst 0, 1) := by decide +kernel
theorem dX11_shared_2 : decode cX11_shared 2 = .ok (.putfield 70, 3) := by decide +kernel
theorem dX11_shared_5 : decode cX11_shared 5 = .ok (.iload_n 1, 1) := by decide +kernel
theorem dX11_shared_6 : decode cX11_shared 6 = .ok (.ifCond .lt 9, 3) := by decide +kernel
theorem dX11_shared_9 : decode cX11_shared 9 = .ok (.iload_n 1, 1) := by decide +kernel
theorem dX11_shared_10 : decode cX11_shared 10 = .ok (.bipush 63, 2) := by decide +kernel
theorem dX11_shared_12 : decode cX11_shared 12 = .ok (.if_icmp .le 7, 3) := by decide +kernel
theorem dX11_shared_15 : decode cX11_shared 15 = .ok (.iconst 0, 1) := by decide +kernel
theorem dX11_shared_16 : decode cX11_shared 16 = .ok (.goto 9, 3) := by decide +kernel
theorem dX11_shared_19 : decode cX11_shared 19 = .ok (.aload_n 0, 1) := by decide +kernel
theorem dX11_shared_20 : decode cX11_shared 20 = .ok (.getfield 36, 3) := by decide +kernel
theorem dX11_shared_23 : decode cX11_shared 23 = .ok (.iload_n 1, 1) := by decide +kernel
theorem dX11_shared_24 : decode cX11_shared 24 = .ok (.iaload, 1) := by decide +kernel
theorem dX11_shared_25 : decode cX11_shared 25 = .ok (.ireturn, 1) := by decide +kernel
theorem dX11_part_0 : decode cX11_part 0 = .ok (.aload_n 0, 1) := by decide +kernel
theorem dX11_part_1 : decode cX11_part 1 = .ok (.iconst 0, 1) := by decide +kernel
theorem dX11_part_2 : decode cX11_part 2 = .ok (.putfield 70, 3) := by decide +kernel
theorem dX11_part_5 : decode cX11_part 5 = .ok (.iload_n 1, 1) := by decide +kernel
theorem dX11_part_6 : decode cX11_part 6 = .ok (.ifCond .lt 23, 3) := by decide +kernel
theorem dX11_part_9 : decode cX11_part 9 = .ok (.iload_n 1, 1) := by decide +kernel
theorem dX11_part_10 : decode cX11_part 10 = .ok (.iconst 3, 1) := by decide +kernel
theorem dX11_part_11 : decode cX11_part 11 = .ok (.if_icmp .gt 18, 3) := by decide +kernel
theorem dX11_part_14 : decode cX11_part 14 = .ok (.iload_n 2, 1) := by decide +kernel
theorem dX11_part_15 : decode cX11_part 15 = .ok (.ifCond .lt 14, 3) := by decide +kernel
theorem dX11_part_18 : decode cX11_part 18 = .ok (.iload_n 2, 1) := by decide +kernel
theorem dX11_part_19 : decode cX11_part 19 = .ok (.iload_n 3, 1) := by decide +kernel
theorem dX11_part_20 : decode cX11_part 20 = .ok (.if_icmp .gt 9, 3) := by decide +kernel
theorem dX11_part_23 : decode cX11_part 23 = .ok (.iload_n 3, 1) := by decide +kernel
theorem dX11_part_24 : decode cX11_part 24 = .ok (.bipush 64, 2) := by decide +kernel
theorem dX11_part_26 : decode cX11_part 26 = .ok (.if_icmp .le 5, 3) := by decide +kernel
theorem dX11_part_29 : decode cX11_part 29 = .ok (.iconst 0, 1) := by decide +kernel
theorem dX11_part_30 : decode cX11_part 30 = .ok (.ireturn, 1) := by decide +kernel
theorem dX11_part_31 : decode cX11_part 31 = .ok (.aload_n 0, 1) := by decide +kernel
theorem dX11_part_32 : decode cX11_part 32 = .ok (.getfield 39, 3) := by decide +kernel
theorem dX11_part_35 : decode cX11_part 35 = .ok (.iload_n 1, 1) := by decide +kernel
theorem dX11_part_36 : decode cX11_part 36 = .ok (.iload_n 2, 1) := by decide +kernel
theorem dX11_part_37 : decode cX11_part 37 = .ok (.iastore, 1) := by decide +kernel
theorem dX11_part_38 : decode cX11_part 38 = .ok (.aload_n 0, 1) := by decide +kernel
theorem dX11_part_39 : decode cX11_part 39 = .ok (.getfield 42, 3) := by decide +kernel
theorem dX11_part_42 : decode cX11_part 42 = .ok (.iload_n 1, 1) := by decide +kernel
theorem dX11_part_43 : decode cX11_part 43 = .ok (.iload_n 3, 1) := by decide +kernel
theorem dX11_part_44 : decode cX11_part 44 = .ok (.iastore, 1) := by decide +kernel
theorem dX11_part_45 : decode cX11_part 45 = .ok (.iconst 1, 1) := by decide +kernel
theorem dX11_part_46 : decode cX11_part 46 = .ok (.ireturn, 1) := by decide +kernel
theorem dX11_isOwn_0 : decode cX11_isOwn 0 = .ok (.iload_n 0, 1) := by decide +kernel
theorem dX11_isOwn_1 : decode cX11_isOwn 1 = .ok (.ifCond .lt 14, 3) := by decide +kernel
theorem dX11_isOwn_4 : decode cX11_isOwn 4 = .ok (.iload_n 0, 1) := by decide +kernel
theorem dX11_isOwn_5 : decode cX11_isOwn 5 = .ok (.sipush 512, 3) := by decide +kernel
theorem dX11_isOwn_8 : decode cX11_isOwn 8 = .ok (.if_icmp .ge 7, 3) := by decide +kernel
theorem dX11_isOwn_11 : decode cX11_isOwn 11 = .ok (.iconst 1, 1) := by decide +kernel
theorem dX11_isOwn_12 : decode cX11_isOwn 12 = .ok (.goto 4, 3) := by decide +kernel
theorem dX11_isOwn_15 : decode cX11_isOwn 15 = .ok (.iconst 0, 1) := by decide +kernel
theorem dX11_isOwn_16 : decode cX11_isOwn 16 = .ok (.ireturn, 1) := by decide +kernel
theorem dX11_isThere_0 : decode cX11_isThere 0 = .ok (.iload_n 2, 1) := by decide +kernel
theorem dX11_isThere_1 : decode cX11_isThere 1 = .ok (.iload_n 3, 1) := by decide +kernel
theorem dX11_isThere_2 : decode cX11_isThere 2 = .ok (.iconst 1, 1) := by decide +kernel
theorem dX11_isThere_3 : decode cX11_isThere 3 = .ok (.isub, 1) := by decide +kernel
theorem dX11_isThere_4 : decode cX11_isThere 4 = .ok (.iand, 1) := by decide +kernel
theorem dX11_isThere_5 : decode cX11_isThere 5 = .ok (.ifCond .eq 5, 3) := by decide +kernel
theorem dX11_isThere_8 : decode cX11_isThere 8 = .ok (.iconst 0, 1) := by decide +kernel
theorem dX11_isThere_9 : decode cX11_isThere 9 = .ok (.ireturn, 1) := by decide +kernel
theorem dX11_isThere_10 : decode cX11_isThere 10 = .ok (.iload_n 2, 1) := by decide +kernel
theorem dX11_isThere_11 : decode cX11_isThere 11 = .ok (.invokestatic 288, 3) := by decide +kernel
theorem dX11_isThere_14 : decode cX11_isThere 14 = .ok (.ifCond .ne 35, 3) := by decide +kernel
theorem dX11_isThere_17 : decode cX11_isThere 17 = .ok (.iload_n 2, 1) := by decide +kernel
theorem dX11_isThere_18 : decode cX11_isThere 18 = .ok (.sipush 4096, 3) := by decide +kernel
theorem dX11_isThere_21 : decode cX11_isThere 21 = .ok (.iconst 4, 1) := by decide +kernel
theorem dX11_isThere_22 : decode cX11_isThere 22 = .ok (.aload_n 0, 1) := by decide +kernel
theorem dX11_isThere_23 : decode cX11_isThere 23 = .ok (.getfield 39, 3) := by decide +kernel
theorem dX11_isThere_26 : decode cX11_isThere 26 = .ok (.iload_n 1, 1) := by decide +kernel
theorem dX11_isThere_27 : decode cX11_isThere 27 = .ok (.iaload, 1) := by decide +kernel
theorem dX11_isThere_28 : decode cX11_isThere 28 = .ok (.imul, 1) := by decide +kernel
theorem dX11_isThere_29 : decode cX11_isThere 29 = .ok (.iadd, 1) := by decide +kernel
theorem dX11_isThere_30 : decode cX11_isThere 30 = .ok (.if_icmp .lt 23, 3) := by decide +kernel
theorem dX11_isThere_33 : decode cX11_isThere 33 = .ok (.iload_n 2, 1) := by decide +kernel
theorem dX11_isThere_34 : decode cX11_isThere 34 = .ok (.sipush 4096, 3) := by decide +kernel
theorem dX11_isThere_37 : decode cX11_isThere 37 = .ok (.iconst 4, 1) := by decide +kernel
theorem dX11_isThere_38 : decode cX11_isThere 38 = .ok (.aload_n 0, 1) := by decide +kernel
theorem dX11_isThere_39 : decode cX11_isThere 39 = .ok (.getfield 42, 3) := by decide +kernel
theorem dX11_isThere_42 : decode cX11_isThere 42 = .ok (.iload_n 1, 1) := by decide +kernel
theorem dX11_isThere_43 : decode cX11_isThere 43 = .ok (.iaload, 1) := by decide +kernel
theorem dX11_isThere_44 : decode cX11_isThere 44 = .ok (.imul, 1) := by decide +kernel
theorem dX11_isThere_45 : decode cX11_isThere 45 = .ok (.iadd, 1) := by decide +kernel
theorem dX11_isThere_46 : decode cX11_isThere 46 = .ok (.if_icmp .ge 7, 3) := by decide +kernel
theorem dX11_isThere_49 : decode cX11_isThere 49 = .ok (.iconst 1, 1) := by decide +kernel
theorem dX11_isThere_50 : decode cX11_isThere 50 = .ok (.goto 4, 3) := by decide +kernel
theorem dX11_isThere_53 : decode cX11_isThere 53 = .ok (.iconst 0, 1) := by decide +kernel
theorem dX11_isThere_54 : decode cX11_isThere 54 = .ok (.ireturn, 1) := by decide +kernel
theorem dX11_wordAt_0 : decode cX11_wordAt 0 = .ok (.iload_n 2, 1) := by decide +kernel
theorem dX11_wordAt_1 : decode cX11_wordAt 1 = .ok (.invokestatic 288, 3) := by decide +kernel
theorem dX11_wordAt_4 : decode cX11_wordAt 4 = .ok (.ifCond .eq 20, 3) := by decide +kernel
theorem dX11_wordAt_7 : decode cX11_wordAt 7 = .ok (.aload_n 0, 1) := by decide +kernel
theorem dX11_wordAt_8 : decode cX11_wordAt 8 = .ok (.getfield 33, 3) := by decide +kernel
theorem dX11_wordAt_11 : decode cX11_wordAt 11 = .ok (.sipush 128, 3) := by decide +kernel
theorem dX11_wordAt_14 : decode cX11_wordAt 14 = .ok (.iload_n 1, 1) := by decide +kernel
theorem dX11_wordAt_15 : decode cX11_wordAt 15 = .ok (.imul, 1) := by decide +kernel
theorem dX11_wordAt_16 : decode cX11_wordAt 16 = .ok (.iload_n 2, 1) := by decide +kernel
theorem dX11_wordAt_17 : decode cX11_wordAt 17 = .ok (.iconst 4, 1) := by decide +kernel
theorem dX11_wordAt_18 : decode cX11_wordAt 18 = .ok (.idiv, 1) := by decide +kernel
theorem dX11_wordAt_19 : decode cX11_wordAt 19 = .ok (.iadd, 1) := by decide +kernel
theorem dX11_wordAt_20 : decode cX11_wordAt 20 = .ok (.iaload, 1) := by decide +kernel
theorem dX11_wordAt_21 : decode cX11_wordAt 21 = .ok (.goto 15, 3) := by decide +kernel
theorem dX11_wordAt_24 : decode cX11_wordAt 24 = .ok (.aload_n 0, 1) := by decide +kernel
theorem dX11_wordAt_25 : decode cX11_wordAt 25 = .ok (.getfield 36, 3) := by decide +kernel
theorem dX11_wordAt_28 : decode cX11_wordAt 28 = .ok (.iload_n 2, 1) := by decide +kernel
theorem dX11_wordAt_29 : decode cX11_wordAt 29 = .ok (.sipush 4096, 3) := by decide +kernel
theorem dX11_wordAt_32 : decode cX11_wordAt 32 = .ok (.isub, 1) := by decide +kernel
theorem dX11_wordAt_33 : decode cX11_wordAt 33 = .ok (.iconst 4, 1) := by decide +kernel
theorem dX11_wordAt_34 : decode cX11_wordAt 34 = .ok (.idiv, 1) := by decide +kernel
theorem dX11_wordAt_35 : decode cX11_wordAt 35 = .ok (.iaload, 1) := by decide +kernel
theorem dX11_wordAt_36 : decode cX11_wordAt 36 = .ok (.ireturn, 1) := by decide +kernel
theorem dX11_put_0 : decode cX11_put 0 = .ok (.iload_n 2, 1) := by decide +kernel
theorem dX11_put_1 : decode cX11_put 1 = .ok (.invokestatic 288, 3) := by decide +kernel
theorem dX11_put_4 : decode cX11_put 4 = .ok (.ifCond .eq 21, 3) := by decide +kernel
theorem dX11_put_7 : decode cX11_put 7 = .ok (.aload_n 0, 1) := by decide +kernel
theorem dX11_put_8 : decode cX11_put 8 = .ok (.getfield 33, 3) := by decide +kernel
theorem dX11_put_11 : decode cX11_put 11 = .ok (.sipush 128, 3) := by decide +kernel
theorem dX11_put_14 : decode cX11_put 14 = .ok (.iload_n 1, 1) := by decide +kernel
theorem dX11_put_15 : decode cX11_put 15 = .ok (.imul, 1) := by decide +kernel
theorem dX11_put_16 : decode cX11_put 16 = .ok (.iload_n 2, 1) := by decide +kernel
theorem dX11_put_17 : decode cX11_put 17 = .ok (.iconst 4, 1) := by decide +kernel
theorem dX11_put_18 : decode cX11_put 18 = .ok (.idiv, 1) := by decide +kernel
theorem dX11_put_19 : decode cX11_put 19 = .ok (.iadd, 1) := by decide +kernel
theorem dX11_put_20 : decode cX11_put 20 = .ok (.iload_n 3, 1) := by decide +kernel
theorem dX11_put_21 : decode cX11_put 21 = .ok (.iastore, 1) := by decide +kernel
theorem dX11_put_22 : decode cX11_put 22 = .ok (.goto 16, 3) := by decide +kernel
theorem dX11_put_25 : decode cX11_put 25 = .ok (.aload_n 0, 1) := by decide +kernel
theorem dX11_put_26 : decode cX11_put 26 = .ok (.getfield 36, 3) := by decide +kernel
theorem dX11_put_29 : decode cX11_put 29 = .ok (.iload_n 2, 1) := by decide +kernel
theorem dX11_put_30 : decode cX11_put 30 = .ok (.sipush 4096, 3) := by decide +kernel
theorem dX11_put_33 : decode cX11_put 33 = .ok (.isub, 1) := by decide +kernel
theorem dX11_put_34 : decode cX11_put 34 = .ok (.iconst 4, 1) := by decide +kernel
theorem dX11_put_35 : decode cX11_put 35 = .ok (.idiv, 1) := by decide +kernel
theorem dX11_put_36 : decode cX11_put 36 = .ok (.iload_n 3, 1) := by decide +kernel
theorem dX11_put_37 : decode cX11_put 37 = .ok (.iastore, 1) := by decide +kernel
theorem dX11_put_38 : decode cX11_put 38 = .ok (.return_, 1) := by decide +kernel
theorem dX11_start_0 : decode cX11_start 0 = .ok (.aload_n 0, 1) := by decide +kernel
theorem dX11_start_1 : decode cX11_start 1 = .ok (.iconst 0, 1) := by decide +kernel
theorem dX11_start_2 : decode cX11_start 2 = .ok (.putfield 70, 3) := by decide +kernel
theorem dX11_start_5 : decode cX11_start 5 = .ok (.iload_n 1, 1) := by decide +kernel
theorem dX11_start_6 : decode cX11_start 6 = .ok (.ifCond .lt 8, 3) := by decide +kernel
theorem dX11_start_9 : decode cX11_start 9 = .ok (.iload_n 1, 1) := by decide +kernel
theorem dX11_start_10 : decode cX11_start 10 = .ok (.iconst 3, 1) := by decide +kernel
theorem dX11_start_11 : decode cX11_start 11 = .ok (.if_icmp .le 5, 3) := by decide +kernel
theorem dX11_start_14 : decode cX11_start 14 = .ok (.iconst 0, 1) := by decide +kernel
theorem dX11_start_15 : decode cX11_start 15 = .ok (.ireturn, 1) := by decide +kernel
theorem dX11_start_16 : decode cX11_start 16 = .ok (.aload_n 0, 1) := by decide +kernel
theorem dX11_start_17 : decode cX11_start 17 = .ok (.getfield 51, 3) := by decide +kernel
theorem dX11_start_20 : decode cX11_start 20 = .ok (.iload_n 1, 1) := by decide +kernel
theorem dX11_start_21 : decode cX11_start 21 = .ok (.iconst 1, 1) := by decide +kernel
theorem dX11_start_22 : decode cX11_start 22 = .ok (.iastore, 1) := by decide +kernel
theorem dX11_start_23 : decode cX11_start 23 = .ok (.aload_n 0, 1) := by decide +kernel
theorem dX11_start_24 : decode cX11_start 24 = .ok (.getfield 48, 3) := by decide +kernel
theorem dX11_start_27 : decode cX11_start 27 = .ok (.iload_n 1, 1) := by decide +kernel
theorem dX11_start_28 : decode cX11_start 28 = .ok (.iload_n 2, 1) := by decide +kernel
theorem dX11_start_29 : decode cX11_start 29 = .ok (.iastore, 1) := by decide +kernel
theorem dX11_start_30 : decode cX11_start 30 = .ok (.aload_n 0, 1) := by decide +kernel
theorem dX11_start_31 : decode cX11_start 31 = .ok (.getfield 57, 3) := by decide +kernel
theorem dX11_start_34 : decode cX11_start 34 = .ok (.iload_n 1, 1) := by decide +kernel
theorem dX11_start_35 : decode cX11_start 35 = .ok (.aload_n 0, 1) := by decide +kernel
theorem dX11_start_36 : decode cX11_start 36 = .ok (.getfield 291, 3) := by decide +kernel
theorem dX11_start_39 : decode cX11_start 39 = .ok (.iastore, 1) := by decide +kernel
theorem dX11_start_40 : decode cX11_start 40 = .ok (.iconst 1, 1) := by decide +kernel
theorem dX11_start_41 : decode cX11_start 41 = .ok (.ireturn, 1) := by decide +kernel
theorem dX11_set_0 : decode cX11_set 0 = .ok (.iload_n 2, 1) := by decide +kernel
theorem dX11_set_1 : decode cX11_set 1 = .ok (.ifCond .le 15, 3) := by decide +kernel
theorem dX11_set_4 : decode cX11_set 4 = .ok (.aload_n 0, 1) := by decide +kernel
theorem dX11_set_5 : decode cX11_set 5 = .ok (.getfield 45, 3) := by decide +kernel
theorem dX11_set_8 : decode cX11_set 8 = .ok (.bipush 16, 2) := by decide +kernel
theorem dX11_set_10 : decode cX11_set 10 = .ok (.iload_n 1, 1) := by decide +kernel
theorem dX11_set_11 : decode cX11_set 11 = .ok (.imul, 1) := by decide +kernel
theorem dX11_set_12 : decode cX11_set 12 = .ok (.iload_n 2, 1) := by decide +kernel
theorem dX11_set_13 : decode cX11_set 13 = .ok (.iadd, 1) := by decide +kernel
theorem dX11_set_14 : decode cX11_set 14 = .ok (.iload_n 3, 1) := by decide +kernel
theorem dX11_set_15 : decode cX11_set 15 = .ok (.iastore, 1) := by decide +kernel
theorem dX11_set_16 : decode cX11_set 16 = .ok (.return_, 1) := by decide +kernel
theorem dX11_done_0 : decode cX11_done 0 = .ok (.bipush 48, 2) := by decide +kernel
theorem dX11_done_2 : decode cX11_done 2 = .ok (.iload_n 1, 1) := by decide +kernel
theorem dX11_done_3 : decode cX11_done 3 = .ok (.imul, 1) := by decide +kernel
theorem dX11_done_4 : decode cX11_done 4 = .ok (.iconst 3, 1) := by decide +kernel
theorem dX11_done_5 : decode cX11_done 5 = .ok (.aload_n 0, 1) := by decide +kernel
theorem dX11_done_6 : decode cX11_done 6 = .ok (.getfield 54, 3) := by decide +kernel
theorem dX11_done_9 : decode cX11_done 9 = .ok (.iload_n 1, 1) := by decide +kernel
theorem dX11_done_10 : decode cX11_done 10 = .ok (.iaload, 1) := by decide +kernel
theorem dX11_done_11 : decode cX11_done 11 = .ok (.bipush 16, 2) := by decide +kernel
theorem dX11_done_13 : decode cX11_done 13 = .ok (.irem, 1) := by decide +kernel
theorem dX11_done_14 : decode cX11_done 14 = .ok (.imul, 1) := by decide +kernel
theorem dX11_done_15 : decode cX11_done 15 = .ok (.iadd, 1) := by decide +kernel
theorem dX11_done_16 : decode cX11_done 16 = .ok (.istore 4, 2) := by decide +kernel
theorem dX11_done_18 : decode cX11_done 18 = .ok (.aload_n 0, 1) := by decide +kernel
theorem dX11_done_19 : decode cX11_done 19 = .ok (.getfield 63, 3) := by decide +kernel
theorem dX11_done_22 : decode cX11_done 22 = .ok (.iload 4, 2) := by decide +kernel
theorem dX11_done_24 : decode cX11_done 24 = .ok (.aload_n 0, 1) := by decide +kernel
theorem dX11_done_25 : decode cX11_done 25 = .ok (.getfield 48, 3) := by decide +kernel
theorem dX11_done_28 : decode cX11_done 28 = .ok (.iload_n 1, 1) := by decide +kernel
theorem dX11_done_29 : decode cX11_done 29 = .ok (.iaload, 1) := by decide +kernel
theorem dX11_done_30 : decode cX11_done 30 = .ok (.iastore, 1) := by decide +kernel
theorem dX11_done_31 : decode cX11_done 31 = .ok (.aload_n 0, 1) := by decide +kernel
theorem dX11_done_32 : decode cX11_done 32 = .ok (.getfield 63, 3) := by decide +kernel
theorem dX11_done_35 : decode cX11_done 35 = .ok (.iload 4, 2) := by decide +kernel
theorem dX11_done_37 : decode cX11_done 37 = .ok (.iconst 1, 1) := by decide +kernel
theorem dX11_done_38 : decode cX11_done 38 = .ok (.iadd, 1) := by decide +kernel
theorem dX11_done_39 : decode cX11_done 39 = .ok (.aload_n 0, 1) := by decide +kernel
theorem dX11_done_40 : decode cX11_done 40 = .ok (.getfield 291, 3) := by decide +kernel
theorem dX11_done_43 : decode cX11_done 43 = .ok (.iastore, 1) := by decide +kernel
theorem dX11_done_44 : decode cX11_done 44 = .ok (.aload_n 0, 1) := by decide +kernel
theorem dX11_done_45 : decode cX11_done 45 = .ok (.getfield 63, 3) := by decide +kernel
theorem dX11_done_48 : decode cX11_done 48 = .ok (.iload 4, 2) := by decide +kernel
theorem dX11_done_50 : decode cX11_done 50 = .ok (.iconst 2, 1) := by decide +kernel
theorem dX11_done_51 : decode cX11_done 51 = .ok (.iadd, 1) := by decide +kernel
theorem dX11_done_52 : decode cX11_done 52 = .ok (.iload_n 3, 1) := by decide +kernel
theorem dX11_done_53 : decode cX11_done 53 = .ok (.iastore, 1) := by decide +kernel
theorem dX11_done_54 : decode cX11_done 54 = .ok (.aload_n 0, 1) := by decide +kernel
theorem dX11_done_55 : decode cX11_done 55 = .ok (.getfield 54, 3) := by decide +kernel
theorem dX11_done_58 : decode cX11_done 58 = .ok (.iload_n 1, 1) := by decide +kernel
theorem dX11_done_59 : decode cX11_done 59 = .ok (.dup2, 1) := by decide +kernel
theorem dX11_done_60 : decode cX11_done 60 = .ok (.iaload, 1) := by decide +kernel
theorem dX11_done_61 : decode cX11_done 61 = .ok (.iconst 1, 1) := by decide +kernel
theorem dX11_done_62 : decode cX11_done 62 = .ok (.iadd, 1) := by decide +kernel
theorem dX11_done_63 : decode cX11_done 63 = .ok (.iastore, 1) := by decide +kernel
theorem dX11_done_64 : decode cX11_done 64 = .ok (.aload_n 0, 1) := by decide +kernel
theorem dX11_done_65 : decode cX11_done 65 = .ok (.getfield 48, 3) := by decide +kernel
theorem dX11_done_68 : decode cX11_done 68 = .ok (.iload_n 1, 1) := by decide +kernel
theorem dX11_done_69 : decode cX11_done 69 = .ok (.iload_n 2, 1) := by decide +kernel
theorem dX11_done_70 : decode cX11_done 70 = .ok (.iastore, 1) := by decide +kernel
theorem dX11_done_71 : decode cX11_done 71 = .ok (.aload_n 0, 1) := by decide +kernel
theorem dX11_done_72 : decode cX11_done 72 = .ok (.getfield 57, 3) := by decide +kernel
theorem dX11_done_75 : decode cX11_done 75 = .ok (.iload_n 1, 1) := by decide +kernel
theorem dX11_done_76 : decode cX11_done 76 = .ok (.iload_n 3, 1) := by decide +kernel
theorem dX11_done_77 : decode cX11_done 77 = .ok (.iastore, 1) := by decide +kernel
theorem dX11_done_78 : decode cX11_done 78 = .ok (.iconst 1, 1) := by decide +kernel
theorem dX11_done_79 : decode cX11_done 79 = .ok (.ireturn, 1) := by decide +kernel
theorem dX11_stop_0 : decode cX11_stop 0 = .ok (.aload_n 0, 1) := by decide +kernel
theorem dX11_stop_1 : decode cX11_stop 1 = .ok (.getfield 51, 3) := by decide +kernel
theorem dX11_stop_4 : decode cX11_stop 4 = .ok (.iload_n 1, 1) := by decide +kernel
theorem dX11_stop_5 : decode cX11_stop 5 = .ok (.iconst 3, 1) := by decide +kernel
theorem dX11_stop_6 : decode cX11_stop 6 = .ok (.iastore, 1) := by decide +kernel
theorem dX11_stop_7 : decode cX11_stop 7 = .ok (.iconst 0, 1) := by decide +kernel
theorem dX11_stop_8 : decode cX11_stop 8 = .ok (.ireturn, 1) := by decide +kernel
theorem dX11_isLess_0 : decode cX11_isLess 0 = .ok (.iload_n 0, 1) := by decide +kernel
theorem dX11_isLess_1 : decode cX11_isLess 1 = .ok (.ldc_w 294, 3) := by decide +kernel
theorem dX11_isLess_4 : decode cX11_isLess 4 = .ok (.ixor, 1) := by decide +kernel
theorem dX11_isLess_5 : decode cX11_isLess 5 = .ok (.iload_n 1, 1) := by decide +kernel
theorem dX11_isLess_6 : decode cX11_isLess 6 = .ok (.ldc_w 294, 3) := by decide +kernel
theorem dX11_isLess_9 : decode cX11_isLess 9 = .ok (.ixor, 1) := by decide +kernel
theorem dX11_isLess_10 : decode cX11_isLess 10 = .ok (.if_icmp .ge 7, 3) := by decide +kernel
theorem dX11_isLess_13 : decode cX11_isLess 13 = .ok (.iconst 1, 1) := by decide +kernel
theorem dX11_isLess_14 : decode cX11_isLess 14 = .ok (.goto 4, 3) := by decide +kernel
theorem dX11_isLess_17 : decode cX11_isLess 17 = .ok (.iconst 0, 1) := by decide +kernel
theorem dX11_isLess_18 : decode cX11_isLess 18 = .ok (.ireturn, 1) := by decide +kernel
theorem dX11_worked_0 : decode cX11_worked 0 = .ok (.iload_n 0, 1) := by decide +kernel
theorem dX11_worked_1 : decode cX11_worked 1 = .ok (.tableswitch 117 0 6 #[43, 57, 64, 75, 89, 93, 113], 43) := by decide +kernel
theorem dX11_worked_44 : decode cX11_worked 44 = .ok (.iload_n 1, 1) := by decide +kernel
theorem dX11_worked_45 : decode cX11_worked 45 = .ok (.ifCond .eq 9, 3) := by decide +kernel
theorem dX11_worked_48 : decode cX11_worked 48 = .ok (.iload_n 2, 1) := by decide +kernel
theorem dX11_worked_49 : decode cX11_worked 49 = .ok (.iload_n 3, 1) := by decide +kernel
theorem dX11_worked_50 : decode cX11_worked 50 = .ok (.isub, 1) := by decide +kernel
theorem dX11_worked_51 : decode cX11_worked 51 = .ok (.goto 6, 3) := by decide +kernel
theorem dX11_worked_54 : decode cX11_worked 54 = .ok (.iload_n 2, 1) := by decide +kernel
theorem dX11_worked_55 : decode cX11_worked 55 = .ok (.iload_n 3, 1) := by decide +kernel
theorem dX11_worked_56 : decode cX11_worked 56 = .ok (.iadd, 1) := by decide +kernel
theorem dX11_worked_57 : decode cX11_worked 57 = .ok (.ireturn, 1) := by decide +kernel
theorem dX11_worked_58 : decode cX11_worked 58 = .ok (.iload_n 2, 1) := by decide +kernel
theorem dX11_worked_59 : decode cX11_worked 59 = .ok (.iload_n 3, 1) := by decide +kernel
theorem dX11_worked_60 : decode cX11_worked 60 = .ok (.bipush 31, 2) := by decide +kernel
theorem dX11_worked_62 : decode cX11_worked 62 = .ok (.iand, 1) := by decide +kernel
theorem dX11_worked_63 : decode cX11_worked 63 = .ok (.ishl, 1) := by decide +kernel
theorem dX11_worked_64 : decode cX11_worked 64 = .ok (.ireturn, 1) := by decide +kernel
theorem dX11_worked_65 : decode cX11_worked 65 = .ok (.iload_n 2, 1) := by decide +kernel
theorem dX11_worked_66 : decode cX11_worked 66 = .ok (.iload_n 3, 1) := by decide +kernel
theorem dX11_worked_67 : decode cX11_worked 67 = .ok (.if_icmp .ge 7, 3) := by decide +kernel
theorem dX11_worked_70 : decode cX11_worked 70 = .ok (.iconst 1, 1) := by decide +kernel
theorem dX11_worked_71 : decode cX11_worked 71 = .ok (.goto 4, 3) := by decide +kernel
theorem dX11_worked_74 : decode cX11_worked 74 = .ok (.iconst 0, 1) := by decide +kernel
theorem dX11_worked_75 : decode cX11_worked 75 = .ok (.ireturn, 1) := by decide +kernel
theorem dX11_worked_76 : decode cX11_worked 76 = .ok (.iload_n 2, 1) := by decide +kernel
theorem dX11_worked_77 : decode cX11_worked 77 = .ok (.iload_n 3, 1) := by decide +kernel
theorem dX11_worked_78 : decode cX11_worked 78 = .ok (.invokestatic 295, 3) := by decide +kernel
theorem dX11_worked_81 : decode cX11_worked 81 = .ok (.ifCond .eq 7, 3) := by decide +kernel
theorem dX11_worked_84 : decode cX11_worked 84 = .ok (.iconst 1, 1) := by decide +kernel
theorem dX11_worked_85 : decode cX11_worked 85 = .ok (.goto 4, 3) := by decide +kernel
theorem dX11_worked_88 : decode cX11_worked 88 = .ok (.iconst 0, 1) := by decide +kernel
theorem dX11_worked_89 : decode cX11_worked 89 = .ok (.ireturn, 1) := by decide +kernel
theorem dX11_worked_90 : decode cX11_worked 90 = .ok (.iload_n 2, 1) := by decide +kernel
theorem dX11_worked_91 : decode cX11_worked 91 = .ok (.iload_n 3, 1) := by decide +kernel
theorem dX11_worked_92 : decode cX11_worked 92 = .ok (.ixor, 1) := by decide +kernel
theorem dX11_worked_93 : decode cX11_worked 93 = .ok (.ireturn, 1) := by decide +kernel
theorem dX11_worked_94 : decode cX11_worked 94 = .ok (.iload_n 1, 1) := by decide +kernel
theorem dX11_worked_95 : decode cX11_worked 95 = .ok (.ifCond .eq 12, 3) := by decide +kernel
theorem dX11_worked_98 : decode cX11_worked 98 = .ok (.iload_n 2, 1) := by decide +kernel
theorem dX11_worked_99 : decode cX11_worked 99 = .ok (.iload_n 3, 1) := by decide +kernel
theorem dX11_worked_100 : decode cX11_worked 100 = .ok (.bipush 31, 2) := by decide +kernel
theorem dX11_worked_102 : decode cX11_worked 102 = .ok (.iand, 1) := by decide +kernel
theorem dX11_worked_103 : decode cX11_worked 103 = .ok (.ishr, 1) := by decide +kernel
theorem dX11_worked_104 : decode cX11_worked 104 = .ok (.goto 9, 3) := by decide +kernel
theorem dX11_worked_107 : decode cX11_worked 107 = .ok (.iload_n 2, 1) := by decide +kernel
theorem dX11_worked_108 : decode cX11_worked 108 = .ok (.iload_n 3, 1) := by decide +kernel
theorem dX11_worked_109 : decode cX11_worked 109 = .ok (.bipush 31, 2) := by decide +kernel
theorem dX11_worked_111 : decode cX11_worked 111 = .ok (.iand, 1) := by decide +kernel
theorem dX11_worked_112 : decode cX11_worked 112 = .ok (.iushr, 1) := by decide +kernel
theorem dX11_worked_113 : decode cX11_worked 113 = .ok (.ireturn, 1) := by decide +kernel
theorem dX11_worked_114 : decode cX11_worked 114 = .ok (.iload_n 2, 1) := by decide +kernel
theorem dX11_worked_115 : decode cX11_worked 115 = .ok (.iload_n 3, 1) := by decide +kernel
theorem dX11_worked_116 : decode cX11_worked 116 = .ok (.ior, 1) := by decide +kernel
theorem dX11_worked_117 : decode cX11_worked 117 = .ok (.ireturn, 1) := by decide +kernel
theorem dX11_worked_118 : decode cX11_worked 118 = .ok (.iload_n 2, 1) := by decide +kernel
theorem dX11_worked_119 : decode cX11_worked 119 = .ok (.iload_n 3, 1) := by decide +kernel
theorem dX11_worked_120 : decode cX11_worked 120 = .ok (.iand, 1) := by decide +kernel
theorem dX11_worked_121 : decode cX11_worked 121 = .ok (.ireturn, 1) := by decide +kernel
theorem dX11_goes_0 : decode cX11_goes 0 = .ok (.iload_n 0, 1) := by decide +kernel
theorem dX11_goes_1 : decode cX11_goes 1 = .ok (.iconst 2, 1) := by decide +kernel
theorem dX11_goes_2 : decode cX11_goes 2 = .ok (.if_icmp .ge 16, 3) := by decide +kernel
theorem dX11_goes_5 : decode cX11_goes 5 = .ok (.iload_n 1, 1) := by decide +kernel
theorem dX11_goes_6 : decode cX11_goes 6 = .ok (.iload_n 2, 1) := by decide +kernel
theorem dX11_goes_7 : decode cX11_goes 7 = .ok (.if_icmp .ne 7, 3) := by decide +kernel
theorem dX11_goes_10 : decode cX11_goes 10 = .ok (.iconst 1, 1) := by decide +kernel
theorem dX11_goes_11 : decode cX11_goes 11 = .ok (.goto 31, 3) := by decide +kernel
theorem dX11_goes_14 : decode cX11_goes 14 = .ok (.iconst 0, 1) := by decide +kernel
theorem dX11_goes_15 : decode cX11_goes 15 = .ok (.goto 27, 3) := by decide +kernel
theorem dX11_goes_18 : decode cX11_goes 18 = .ok (.iload_n 0, 1) := by decide +kernel
theorem dX11_goes_19 : decode cX11_goes 19 = .ok (.bipush 6, 2) := by decide +kernel
theorem dX11_goes_21 : decode cX11_goes 21 = .ok (.if_icmp .ge 16, 3) := by decide +kernel
theorem dX11_goes_24 : decode cX11_goes 24 = .ok (.iload_n 1, 1) := by decide +kernel
theorem dX11_goes_25 : decode cX11_goes 25 = .ok (.iload_n 2, 1) := by decide +kernel
theorem dX11_goes_26 : decode cX11_goes 26 = .ok (.if_icmp .ge 7, 3) := by decide +kernel
theorem dX11_goes_29 : decode cX11_goes 29 = .ok (.iconst 1, 1) := by decide +kernel
theorem dX11_goes_30 : decode cX11_goes 30 = .ok (.goto 12, 3) := by decide +kernel
theorem dX11_goes_33 : decode cX11_goes 33 = .ok (.iconst 0, 1) := by decide +kernel
theorem dX11_goes_34 : decode cX11_goes 34 = .ok (.goto 8, 3) := by decide +kernel
theorem dX11_goes_37 : decode cX11_goes 37 = .ok (.iload_n 1, 1) := by decide +kernel
theorem dX11_goes_38 : decode cX11_goes 38 = .ok (.iload_n 2, 1) := by decide +kernel
theorem dX11_goes_39 : decode cX11_goes 39 = .ok (.invokestatic 295, 3) := by decide +kernel
theorem dX11_goes_42 : decode cX11_goes 42 = .ok (.istore_n 3, 1) := by decide +kernel
theorem dX11_goes_43 : decode cX11_goes 43 = .ok (.iload_n 3, 1) := by decide +kernel
theorem dX11_goes_44 : decode cX11_goes 44 = .ok (.iload_n 0, 1) := by decide +kernel
theorem dX11_goes_45 : decode cX11_goes 45 = .ok (.iconst 2, 1) := by decide +kernel
theorem dX11_goes_46 : decode cX11_goes 46 = .ok (.irem, 1) := by decide +kernel
theorem dX11_goes_47 : decode cX11_goes 47 = .ok (.ifCond .ne 7, 3) := by decide +kernel
theorem dX11_goes_50 : decode cX11_goes 50 = .ok (.iconst 1, 1) := by decide +kernel
theorem dX11_goes_51 : decode cX11_goes 51 = .ok (.goto 4, 3) := by decide +kernel
theorem dX11_goes_54 : decode cX11_goes 54 = .ok (.iconst 0, 1) := by decide +kernel
theorem dX11_goes_55 : decode cX11_goes 55 = .ok (.if_icmp .ne 7, 3) := by decide +kernel
theorem dX11_goes_58 : decode cX11_goes 58 = .ok (.iconst 1, 1) := by decide +kernel
theorem dX11_goes_59 : decode cX11_goes 59 = .ok (.goto 4, 3) := by decide +kernel
theorem dX11_goes_62 : decode cX11_goes 62 = .ok (.iconst 0, 1) := by decide +kernel
theorem dX11_goes_63 : decode cX11_goes 63 = .ok (.ireturn, 1) := by decide +kernel
theorem dX11_first_0 : decode cX11_first 0 = .ok (.aload_n 0, 1) := by decide +kernel
theorem dX11_first_1 : decode cX11_first 1 = .ok (.getfield 291, 3) := by decide +kernel
theorem dX11_first_4 : decode cX11_first 4 = .ok (.istore_n 2, 1) := by decide +kernel
theorem dX11_first_5 : decode cX11_first 5 = .ok (.iload_n 2, 1) := by decide +kernel
theorem dX11_first_6 : decode cX11_first 6 = .ok (.iconst 4, 1) := by decide +kernel
theorem dX11_first_7 : decode cX11_first 7 = .ok (.aload_n 0, 1) := by decide +kernel
theorem dX11_first_8 : decode cX11_first 8 = .ok (.getfield 66, 3) := by decide +kernel
theorem dX11_first_11 : decode cX11_first 11 = .ok (.imul, 1) := by decide +kernel
theorem dX11_first_12 : decode cX11_first 12 = .ok (.irem, 1) := by decide +kernel
theorem dX11_first_13 : decode cX11_first 13 = .ok (.aload_n 0, 1) := by decide +kernel
theorem dX11_first_14 : decode cX11_first 14 = .ok (.getfield 66, 3) := by decide +kernel
theorem dX11_first_17 : decode cX11_first 17 = .ok (.iload_n 1, 1) := by decide +kernel
theorem dX11_first_18 : decode cX11_first 18 = .ok (.imul, 1) := by decide +kernel
theorem dX11_first_19 : decode cX11_first 19 = .ok (.if_icmp .eq 9, 3) := by decide +kernel
theorem dX11_first_22 : decode cX11_first 22 = .ok (.iinc 2 1, 3) := by decide +kernel
theorem dX11_first_25 : decode cX11_first 25 = .ok (.goto (-20), 3) := by decide +kernel
theorem dX11_first_28 : decode cX11_first 28 = .ok (.iload_n 2, 1) := by decide +kernel
theorem dX11_first_29 : decode cX11_first 29 = .ok (.ireturn, 1) := by decide +kernel
theorem dX11_moveWord_0 : decode cX11_moveWord 0 = .ok (.iload_n 2, 1) := by decide +kernel
theorem dX11_moveWord_1 : decode cX11_moveWord 1 = .ok (.bipush 12, 2) := by decide +kernel
theorem dX11_moveWord_3 : decode cX11_moveWord 3 = .ok (.ishr, 1) := by decide +kernel
theorem dX11_moveWord_4 : decode cX11_moveWord 4 = .ok (.bipush 7, 2) := by decide +kernel
theorem dX11_moveWord_6 : decode cX11_moveWord 6 = .ok (.iand, 1) := by decide +kernel
theorem dX11_moveWord_7 : decode cX11_moveWord 7 = .ok (.istore 4, 2) := by decide +kernel
theorem dX11_moveWord_9 : decode cX11_moveWord 9 = .ok (.iload_n 2, 1) := by decide +kernel
theorem dX11_moveWord_10 : decode cX11_moveWord 10 = .ok (.bipush 15, 2) := by decide +kernel
theorem dX11_moveWord_12 : decode cX11_moveWord 12 = .ok (.ishr, 1) := by decide +kernel
theorem dX11_moveWord_13 : decode cX11_moveWord 13 = .ok (.bipush 31, 2) := by decide +kernel
theorem dX11_moveWord_15 : decode cX11_moveWord 15 = .ok (.iand, 1) := by decide +kernel
theorem dX11_moveWord_16 : decode cX11_moveWord 16 = .ok (.istore 5, 2) := by decide +kernel
theorem dX11_moveWord_18 : decode cX11_moveWord 18 = .ok (.iload_n 3, 1) := by decide +kernel
theorem dX11_moveWord_19 : decode cX11_moveWord 19 = .ok (.ifCond .eq 13, 3) := by decide +kernel
theorem dX11_moveWord_22 : decode cX11_moveWord 22 = .ok (.iload_n 2, 1) := by decide +kernel
theorem dX11_moveWord_23 : decode cX11_moveWord 23 = .ok (.bipush 20, 2) := by decide +kernel
theorem dX11_moveWord_25 : decode cX11_moveWord 25 = .ok (.ishr, 1) := by decide +kernel
theorem dX11_moveWord_26 : decode cX11_moveWord 26 = .ok (.bipush 31, 2) := by decide +kernel
theorem dX11_moveWord_28 : decode cX11_moveWord 28 = .ok (.iand, 1) := by decide +kernel
theorem dX11_moveWord_29 : decode cX11_moveWord 29 = .ok (.goto 10, 3) := by decide +kernel
theorem dX11_moveWord_32 : decode cX11_moveWord 32 = .ok (.iload_n 2, 1) := by decide +kernel
theorem dX11_moveWord_33 : decode cX11_moveWord 33 = .ok (.bipush 7, 2) := by decide +kernel
theorem dX11_moveWord_35 : decode cX11_moveWord 35 = .ok (.ishr, 1) := by decide +kernel
theorem dX11_moveWord_36 : decode cX11_moveWord 36 = .ok (.bipush 31, 2) := by decide +kernel
theorem dX11_moveWord_38 : decode cX11_moveWord 38 = .ok (.iand, 1) := by decide +kernel
theorem dX11_moveWord_39 : decode cX11_moveWord 39 = .ok (.istore 6, 2) := by decide +kernel
theorem dX11_moveWord_41 : decode cX11_moveWord 41 = .ok (.iload_n 3, 1) := by decide +kernel
theorem dX11_moveWord_42 : decode cX11_moveWord 42 = .ok (.ifCond .eq 22, 3) := by decide +kernel
theorem dX11_moveWord_45 : decode cX11_moveWord 45 = .ok (.iload 4, 2) := by decide +kernel
theorem dX11_moveWord_47 : decode cX11_moveWord 47 = .ok (.iconst 2, 1) := by decide +kernel
theorem dX11_moveWord_48 : decode cX11_moveWord 48 = .ok (.if_icmp .eq 8, 3) := by decide +kernel
theorem dX11_moveWord_51 : decode cX11_moveWord 51 = .ok (.iload 4, 2) := by decide +kernel
theorem dX11_moveWord_53 : decode cX11_moveWord 53 = .ok (.ifCond .ne 7, 3) := by decide +kernel
theorem dX11_moveWord_56 : decode cX11_moveWord 56 = .ok (.iconst 1, 1) := by decide +kernel
theorem dX11_moveWord_57 : decode cX11_moveWord 57 = .ok (.goto 29, 3) := by decide +kernel
theorem dX11_moveWord_60 : decode cX11_moveWord 60 = .ok (.iconst 0, 1) := by decide +kernel
theorem dX11_moveWord_61 : decode cX11_moveWord 61 = .ok (.goto 25, 3) := by decide +kernel
theorem dX11_moveWord_64 : decode cX11_moveWord 64 = .ok (.iload 4, 2) := by decide +kernel
theorem dX11_moveWord_66 : decode cX11_moveWord 66 = .ok (.iconst 2, 1) := by decide +kernel
theorem dX11_moveWord_67 : decode cX11_moveWord 67 = .ok (.if_icmp .eq 14, 3) := by decide +kernel
theorem dX11_moveWord_70 : decode cX11_moveWord 70 = .ok (.iload 4, 2) := by decide +kernel
theorem dX11_moveWord_72 : decode cX11_moveWord 72 = .ok (.ifCond .eq 9, 3) := by decide +kernel
theorem dX11_moveWord_75 : decode cX11_moveWord 75 = .ok (.iload 4, 2) := by decide +kernel
theorem dX11_moveWord_77 : decode cX11_moveWord 77 = .ok (.iconst 4, 1) := by decide +kernel
theorem dX11_moveWord_78 : decode cX11_moveWord 78 = .ok (.if_icmp .ne 7, 3) := by decide +kernel
theorem dX11_moveWord_81 : decode cX11_moveWord 81 = .ok (.iconst 1, 1) := by decide +kernel
theorem dX11_moveWord_82 : decode cX11_moveWord 82 = .ok (.goto 4, 3) := by decide +kernel
theorem dX11_moveWord_85 : decode cX11_moveWord 85 = .ok (.iconst 0, 1) := by decide +kernel
theorem dX11_moveWord_86 : decode cX11_moveWord 86 = .ok (.istore 7, 2) := by decide +kernel
theorem dX11_moveWord_88 : decode cX11_moveWord 88 = .ok (.iload 7, 2) := by decide +kernel
theorem dX11_moveWord_90 : decode cX11_moveWord 90 = .ok (.ifCond .eq 17, 3) := by decide +kernel
theorem dX11_moveWord_93 : decode cX11_moveWord 93 = .ok (.iload 5, 2) := by decide +kernel
theorem dX11_moveWord_95 : decode cX11_moveWord 95 = .ok (.bipush 15, 2) := by decide +kernel
theorem dX11_moveWord_97 : decode cX11_moveWord 97 = .ok (.if_icmp .gt 10, 3) := by decide +kernel
theorem dX11_moveWord_100 : decode cX11_moveWord 100 = .ok (.iload 6, 2) := by decide +kernel
theorem dX11_moveWord_102 : decode cX11_moveWord 102 = .ok (.bipush 15, 2) := by decide +kernel
theorem dX11_moveWord_104 : decode cX11_moveWord 104 = .ok (.if_icmp .le 9, 3) := by decide +kernel
theorem dX11_moveWord_107 : decode cX11_moveWord 107 = .ok (.aload_n 0, 1) := by decide +kernel
theorem dX11_moveWord_108 : decode cX11_moveWord 108 = .ok (.iload_n 1, 1) := by decide +kernel
theorem dX11_moveWord_109 : decode cX11_moveWord 109 = .ok (.invokevirtual 299, 3) := by decide +kernel
theorem dX11_moveWord_112 : decode cX11_moveWord 112 = .ok (.ireturn, 1) := by decide +kernel
theorem dX11_moveWord_113 : decode cX11_moveWord 113 = .ok (.iload_n 3, 1) := by decide +kernel
theorem dX11_moveWord_114 : decode cX11_moveWord 114 = .ok (.ifCond .eq 20, 3) := by decide +kernel
theorem dX11_moveWord_117 : decode cX11_moveWord 117 = .ok (.iload_n 2, 1) := by decide +kernel
theorem dX11_moveWord_118 : decode cX11_moveWord 118 = .ok (.bipush 25, 2) := by decide +kernel
theorem dX11_moveWord_120 : decode cX11_moveWord 120 = .ok (.ishr, 1) := by decide +kernel
theorem dX11_moveWord_121 : decode cX11_moveWord 121 = .ok (.iconst 5, 1) := by decide +kernel
theorem dX11_moveWord_122 : decode cX11_moveWord 122 = .ok (.ishl, 1) := by decide +kernel
theorem dX11_moveWord_123 : decode cX11_moveWord 123 = .ok (.iload_n 2, 1) := by decide +kernel
theorem dX11_moveWord_124 : decode cX11_moveWord 124 = .ok (.bipush 7, 2) := by decide +kernel
theorem dX11_moveWord_126 : decode cX11_moveWord 126 = .ok (.ishr, 1) := by decide +kernel
theorem dX11_moveWord_127 : decode cX11_moveWord 127 = .ok (.bipush 31, 2) := by decide +kernel
theorem dX11_moveWord_129 : decode cX11_moveWord 129 = .ok (.iand, 1) := by decide +kernel
theorem dX11_moveWord_130 : decode cX11_moveWord 130 = .ok (.ior, 1) := by decide +kernel
theorem dX11_moveWord_131 : decode cX11_moveWord 131 = .ok (.goto 7, 3) := by decide +kernel
theorem dX11_moveWord_134 : decode cX11_moveWord 134 = .ok (.iload_n 2, 1) := by decide +kernel
theorem dX11_moveWord_135 : decode cX11_moveWord 135 = .ok (.bipush 20, 2) := by decide +kernel
theorem dX11_moveWord_137 : decode cX11_moveWord 137 = .ok (.ishr, 1) := by decide +kernel
theorem dX11_moveWord_138 : decode cX11_moveWord 138 = .ok (.istore 8, 2) := by decide +kernel
theorem dX11_moveWord_140 : decode cX11_moveWord 140 = .ok (.aload_n 0, 1) := by decide +kernel
theorem dX11_moveWord_141 : decode cX11_moveWord 141 = .ok (.getfield 45, 3) := by decide +kernel
theorem dX11_moveWord_144 : decode cX11_moveWord 144 = .ok (.bipush 16, 2) := by decide +kernel
theorem dX11_moveWord_146 : decode cX11_moveWord 146 = .ok (.iload_n 1, 1) := by decide +kernel
theorem dX11_moveWord_147 : decode cX11_moveWord 147 = .ok (.imul, 1) := by decide +kernel
theorem dX11_moveWord_148 : decode cX11_moveWord 148 = .ok (.iload 5, 2) := by decide +kernel
theorem dX11_moveWord_150 : decode cX11_moveWord 150 = .ok (.iadd, 1) := by decide +kernel
theorem dX11_moveWord_151 : decode cX11_moveWord 151 = .ok (.iaload, 1) := by decide +kernel
theorem dX11_moveWord_152 : decode cX11_moveWord 152 = .ok (.iload 8, 2) := by decide +kernel
theorem dX11_moveWord_154 : decode cX11_moveWord 154 = .ok (.iadd, 1) := by decide +kernel
theorem dX11_moveWord_155 : decode cX11_moveWord 155 = .ok (.istore 9, 2) := by decide +kernel
theorem dX11_moveWord_157 : decode cX11_moveWord 157 = .ok (.aload_n 0, 1) := by decide +kernel
theorem dX11_moveWord_158 : decode cX11_moveWord 158 = .ok (.iload_n 1, 1) := by decide +kernel
theorem dX11_moveWord_159 : decode cX11_moveWord 159 = .ok (.iload 9, 2) := by decide +kernel
theorem dX11_moveWord_161 : decode cX11_moveWord 161 = .ok (.iload 4, 2) := by decide +kernel
theorem dX11_moveWord_163 : decode cX11_moveWord 163 = .ok (.iconst 2, 1) := by decide +kernel
theorem dX11_moveWord_164 : decode cX11_moveWord 164 = .ok (.if_icmp .ne 7, 3) := by decide +kernel
theorem dX11_moveWord_167 : decode cX11_moveWord 167 = .ok (.iconst 4, 1) := by decide +kernel
theorem dX11_moveWord_168 : decode cX11_moveWord 168 = .ok (.goto 4, 3) := by decide +kernel
theorem dX11_moveWord_171 : decode cX11_moveWord 171 = .ok (.iconst 1, 1) := by decide +kernel
theorem dX11_moveWord_172 : decode cX11_moveWord 172 = .ok (.invokevirtual 302, 3) := by decide +kernel
theorem dX11_moveWord_175 : decode cX11_moveWord 175 = .ok (.ifCond .ne 9, 3) := by decide +kernel
theorem dX11_moveWord_178 : decode cX11_moveWord 178 = .ok (.aload_n 0, 1) := by decide +kernel
theorem dX11_moveWord_179 : decode cX11_moveWord 179 = .ok (.iload_n 1, 1) := by decide +kernel
theorem dX11_moveWord_180 : decode cX11_moveWord 180 = .ok (.invokevirtual 299, 3) := by decide +kernel
theorem dX11_moveWord_183 : decode cX11_moveWord 183 = .ok (.ireturn, 1) := by decide +kernel
theorem dX11_moveWord_184 : decode cX11_moveWord 184 = .ok (.bipush 8, 2) := by decide +kernel
theorem dX11_moveWord_186 : decode cX11_moveWord 186 = .ok (.iload 9, 2) := by decide +kernel
theorem dX11_moveWord_188 : decode cX11_moveWord 188 = .ok (.iconst 3, 1) := by decide +kernel
theorem dX11_moveWord_189 : decode cX11_moveWord 189 = .ok (.iand, 1) := by decide +kernel
theorem dX11_moveWord_190 : decode cX11_moveWord 190 = .ok (.imul, 1) := by decide +kernel
theorem dX11_moveWord_191 : decode cX11_moveWord 191 = .ok (.istore 10, 2) := by decide +kernel
theorem dX11_moveWord_193 : decode cX11_moveWord 193 = .ok (.aload_n 0, 1) := by decide +kernel
theorem dX11_moveWord_194 : decode cX11_moveWord 194 = .ok (.iload_n 1, 1) := by decide +kernel
theorem dX11_moveWord_195 : decode cX11_moveWord 195 = .ok (.iload 9, 2) := by decide +kernel
theorem dX11_moveWord_197 : decode cX11_moveWord 197 = .ok (.invokevirtual 306, 3) := by decide +kernel
theorem dX11_moveWord_200 : decode cX11_moveWord 200 = .ok (.istore 11, 2) := by decide +kernel
theorem dX11_moveWord_202 : decode cX11_moveWord 202 = .ok (.aload_n 0, 1) := by decide +kernel
theorem dX11_moveWord_203 : decode cX11_moveWord 203 = .ok (.getfield 45, 3) := by decide +kernel
theorem dX11_moveWord_206 : decode cX11_moveWord 206 = .ok (.bipush 16, 2) := by decide +kernel
theorem dX11_moveWord_208 : decode cX11_moveWord 208 = .ok (.iload_n 1, 1) := by decide +kernel
theorem dX11_moveWord_209 : decode cX11_moveWord 209 = .ok (.imul, 1) := by decide +kernel
theorem dX11_moveWord_210 : decode cX11_moveWord 210 = .ok (.iload 6, 2) := by decide +kernel
theorem dX11_moveWord_212 : decode cX11_moveWord 212 = .ok (.iadd, 1) := by decide +kernel
theorem dX11_moveWord_213 : decode cX11_moveWord 213 = .ok (.iaload, 1) := by decide +kernel
theorem dX11_moveWord_214 : decode cX11_moveWord 214 = .ok (.istore 12, 2) := by decide +kernel
theorem dX11_moveWord_216 : decode cX11_moveWord 216 = .ok (.iload_n 3, 1) := by decide +kernel
theorem dX11_moveWord_217 : decode cX11_moveWord 217 = .ok (.ifCond .eq 45, 3) := by decide +kernel
theorem dX11_moveWord_220 : decode cX11_moveWord 220 = .ok (.aload_n 0, 1) := by decide +kernel
theorem dX11_moveWord_221 : decode cX11_moveWord 221 = .ok (.iload_n 1, 1) := by decide +kernel
theorem dX11_moveWord_222 : decode cX11_moveWord 222 = .ok (.iload 9, 2) := by decide +kernel
theorem dX11_moveWord_224 : decode cX11_moveWord 224 = .ok (.iload 4, 2) := by decide +kernel
theorem dX11_moveWord_226 : decode cX11_moveWord 226 = .ok (.iconst 2, 1) := by decide +kernel
theorem dX11_moveWord_227 : decode cX11_moveWord 227 = .ok (.if_icmp .ne 8, 3) := by decide +kernel
theorem dX11_moveWord_230 : decode cX11_moveWord 230 = .ok (.iload 12, 2) := by decide +kernel
theorem dX11_moveWord_232 : decode cX11_moveWord 232 = .ok (.goto 24, 3) := by decide +kernel
theorem dX11_moveWord_235 : decode cX11_moveWord 235 = .ok (.iload 11, 2) := by decide +kernel
theorem dX11_moveWord_237 : decode cX11_moveWord 237 = .ok (.sipush 255, 3) := by decide +kernel
theorem dX11_moveWord_240 : decode cX11_moveWord 240 = .ok (.iload 10, 2) := by decide +kernel
theorem dX11_moveWord_242 : decode cX11_moveWord 242 = .ok (.ishl, 1) := by decide +kernel
theorem dX11_moveWord_243 : decode cX11_moveWord 243 = .ok (.iconst (-1), 1) := by decide +kernel
theorem dX11_moveWord_244 : decode cX11_moveWord 244 = .ok (.ixor, 1) := by decide +kernel
theorem dX11_moveWord_245 : decode cX11_moveWord 245 = .ok (.iand, 1) := by decide +kernel
theorem dX11_moveWord_246 : decode cX11_moveWord 246 = .ok (.iload 12, 2) := by decide +kernel
theorem dX11_moveWord_248 : decode cX11_moveWord 248 = .ok (.sipush 255, 3) := by decide +kernel
theorem dX11_moveWord_251 : decode cX11_moveWord 251 = .ok (.iand, 1) := by decide +kernel
theorem dX11_moveWord_252 : decode cX11_moveWord 252 = .ok (.iload 10, 2) := by decide +kernel
theorem dX11_moveWord_254 : decode cX11_moveWord 254 = .ok (.ishl, 1) := by decide +kernel
theorem dX11_moveWord_255 : decode cX11_moveWord 255 = .ok (.ior, 1) := by decide +kernel
theorem dX11_moveWord_256 : decode cX11_moveWord 256 = .ok (.invokevirtual 309, 3) := by decide +kernel
theorem dX11_moveWord_259 : decode cX11_moveWord 259 = .ok (.goto 50, 3) := by decide +kernel
theorem dX11_moveWord_262 : decode cX11_moveWord 262 = .ok (.aload_n 0, 1) := by decide +kernel
theorem dX11_moveWord_263 : decode cX11_moveWord 263 = .ok (.iload_n 1, 1) := by decide +kernel
theorem dX11_moveWord_264 : decode cX11_moveWord 264 = .ok (.iload 6, 2) := by decide +kernel
theorem dX11_moveWord_266 : decode cX11_moveWord 266 = .ok (.iload 4, 2) := by decide +kernel
theorem dX11_moveWord_268 : decode cX11_moveWord 268 = .ok (.iconst 2, 1) := by decide +kernel
theorem dX11_moveWord_269 : decode cX11_moveWord 269 = .ok (.if_icmp .ne 8, 3) := by decide +kernel
theorem dX11_moveWord_272 : decode cX11_moveWord 272 = .ok (.iload 11, 2) := by decide +kernel
theorem dX11_moveWord_274 : decode cX11_moveWord 274 = .ok (.goto 32, 3) := by decide +kernel
theorem dX11_moveWord_277 : decode cX11_moveWord 277 = .ok (.iload 4, 2) := by decide +kernel
theorem dX11_moveWord_279 : decode cX11_moveWord 279 = .ok (.iconst 4, 1) := by decide +kernel
theorem dX11_moveWord_280 : decode cX11_moveWord 280 = .ok (.if_icmp .ne 15, 3) := by decide +kernel
theorem dX11_moveWord_283 : decode cX11_moveWord 283 = .ok (.iload 11, 2) := by decide +kernel
theorem dX11_moveWord_285 : decode cX11_moveWord 285 = .ok (.iload 10, 2) := by decide +kernel
theorem dX11_moveWord_287 : decode cX11_moveWord 287 = .ok (.ishr, 1) := by decide +kernel
theorem dX11_moveWord_288 : decode cX11_moveWord 288 = .ok (.sipush 255, 3) := by decide +kernel
theorem dX11_moveWord_291 : decode cX11_moveWord 291 = .ok (.iand, 1) := by decide +kernel
theorem dX11_moveWord_292 : decode cX11_moveWord 292 = .ok (.goto 14, 3) := by decide +kernel
theorem dX11_moveWord_295 : decode cX11_moveWord 295 = .ok (.iload 11, 2) := by decide +kernel
theorem dX11_moveWord_297 : decode cX11_moveWord 297 = .ok (.bipush 24, 2) := by decide +kernel
theorem dX11_moveWord_299 : decode cX11_moveWord 299 = .ok (.iload 10, 2) := by decide +kernel
theorem dX11_moveWord_301 : decode cX11_moveWord 301 = .ok (.isub, 1) := by decide +kernel
theorem dX11_moveWord_302 : decode cX11_moveWord 302 = .ok (.ishl, 1) := by decide +kernel
theorem dX11_moveWord_303 : decode cX11_moveWord 303 = .ok (.bipush 24, 2) := by decide +kernel
theorem dX11_moveWord_305 : decode cX11_moveWord 305 = .ok (.ishr, 1) := by decide +kernel
theorem dX11_moveWord_306 : decode cX11_moveWord 306 = .ok (.invokevirtual 313, 3) := by decide +kernel
theorem dX11_moveWord_309 : decode cX11_moveWord 309 = .ok (.aload_n 0, 1) := by decide +kernel
theorem dX11_moveWord_310 : decode cX11_moveWord 310 = .ok (.iload_n 1, 1) := by decide +kernel
theorem dX11_moveWord_311 : decode cX11_moveWord 311 = .ok (.aload_n 0, 1) := by decide +kernel
theorem dX11_moveWord_312 : decode cX11_moveWord 312 = .ok (.getfield 48, 3) := by decide +kernel
theorem dX11_moveWord_315 : decode cX11_moveWord 315 = .ok (.iload_n 1, 1) := by decide +kernel
theorem dX11_moveWord_316 : decode cX11_moveWord 316 = .ok (.iaload, 1) := by decide +kernel
theorem dX11_moveWord_317 : decode cX11_moveWord 317 = .ok (.iconst 4, 1) := by decide +kernel
theorem dX11_moveWord_318 : decode cX11_moveWord 318 = .ok (.iadd, 1) := by decide +kernel
theorem dX11_moveWord_319 : decode cX11_moveWord 319 = .ok (.iload 9, 2) := by decide +kernel
theorem dX11_moveWord_321 : decode cX11_moveWord 321 = .ok (.invokestatic 288, 3) := by decide +kernel
theorem dX11_moveWord_324 : decode cX11_moveWord 324 = .ok (.ifCond .eq 12, 3) := by decide +kernel
theorem dX11_moveWord_327 : decode cX11_moveWord 327 = .ok (.aload_n 0, 1) := by decide +kernel
theorem dX11_moveWord_328 : decode cX11_moveWord 328 = .ok (.getfield 291, 3) := by decide +kernel
theorem dX11_moveWord_331 : decode cX11_moveWord 331 = .ok (.iconst 4, 1) := by decide +kernel
theorem dX11_moveWord_332 : decode cX11_moveWord 332 = .ok (.iadd, 1) := by decide +kernel
theorem dX11_moveWord_333 : decode cX11_moveWord 333 = .ok (.goto 13, 3) := by decide +kernel
theorem dX11_moveWord_336 : decode cX11_moveWord 336 = .ok (.aload_n 0, 1) := by decide +kernel
theorem dX11_moveWord_337 : decode cX11_moveWord 337 = .ok (.iload_n 1, 1) := by decide +kernel
theorem dX11_moveWord_338 : decode cX11_moveWord 338 = .ok (.invokevirtual 316, 3) := by decide +kernel
theorem dX11_moveWord_341 : decode cX11_moveWord 341 = .ok (.aload_n 0, 1) := by decide +kernel
theorem dX11_moveWord_342 : decode cX11_moveWord 342 = .ok (.getfield 66, 3) := by decide +kernel
theorem dX11_moveWord_345 : decode cX11_moveWord 345 = .ok (.iadd, 1) := by decide +kernel
theorem dX11_moveWord_346 : decode cX11_moveWord 346 = .ok (.invokevirtual 319, 3) := by decide +kernel
theorem dX11_moveWord_349 : decode cX11_moveWord 349 = .ok (.ireturn, 1) := by decide +kernel
theorem dX11_calculate_0 : decode cX11_calculate 0 = .ok (.iload_n 2, 1) := by decide +kernel
theorem dX11_calculate_1 : decode cX11_calculate 1 = .ok (.bipush 12, 2) := by decide +kernel
theorem dX11_calculate_3 : decode cX11_calculate 3 = .ok (.ishr, 1) := by decide +kernel
theorem dX11_calculate_4 : decode cX11_calculate 4 = .ok (.bipush 7, 2) := by decide +kernel
theorem dX11_calculate_6 : decode cX11_calculate 6 = .ok (.iand, 1) := by decide +kernel
theorem dX11_calculate_7 : decode cX11_calculate 7 = .ok (.istore 4, 2) := by decide +kernel
theorem dX11_calculate_9 : decode cX11_calculate 9 = .ok (.iload_n 2, 1) := by decide +kernel
theorem dX11_calculate_10 : decode cX11_calculate 10 = .ok (.bipush 7, 2) := by decide +kernel
theorem dX11_calculate_12 : decode cX11_calculate 12 = .ok (.ishr, 1) := by decide +kernel
theorem dX11_calculate_13 : decode cX11_calculate 13 = .ok (.bipush 31, 2) := by decide +kernel
theorem dX11_calculate_15 : decode cX11_calculate 15 = .ok (.iand, 1) := by decide +kernel
theorem dX11_calculate_16 : decode cX11_calculate 16 = .ok (.istore 5, 2) := by decide +kernel
theorem dX11_calculate_18 : decode cX11_calculate 18 = .ok (.iload_n 2, 1) := by decide +kernel
theorem dX11_calculate_19 : decode cX11_calculate 19 = .ok (.bipush 15, 2) := by decide +kernel
theorem dX11_calculate_21 : decode cX11_calculate 21 = .ok (.ishr, 1) := by decide +kernel
theorem dX11_calculate_22 : decode cX11_calculate 22 = .ok (.bipush 31, 2) := by decide +kernel
theorem dX11_calculate_24 : decode cX11_calculate 24 = .ok (.iand, 1) := by decide +kernel
theorem dX11_calculate_25 : decode cX11_calculate 25 = .ok (.istore 6, 2) := by decide +kernel
theorem dX11_calculate_27 : decode cX11_calculate 27 = .ok (.iload_n 2, 1) := by decide +kernel
theorem dX11_calculate_28 : decode cX11_calculate 28 = .ok (.bipush 20, 2) := by decide +kernel
theorem dX11_calculate_30 : decode cX11_calculate 30 = .ok (.ishr, 1) := by decide +kernel
theorem dX11_calculate_31 : decode cX11_calculate 31 = .ok (.bipush 31, 2) := by decide +kernel
theorem dX11_calculate_33 : decode cX11_calculate 33 = .ok (.iand, 1) := by decide +kernel
theorem dX11_calculate_34 : decode cX11_calculate 34 = .ok (.istore 7, 2) := by decide +kernel
theorem dX11_calculate_36 : decode cX11_calculate 36 = .ok (.iload_n 2, 1) := by decide +kernel
theorem dX11_calculate_37 : decode cX11_calculate 37 = .ok (.bipush 25, 2) := by decide +kernel
theorem dX11_calculate_39 : decode cX11_calculate 39 = .ok (.iushr, 1) := by decide +kernel
theorem dX11_calculate_40 : decode cX11_calculate 40 = .ok (.istore 8, 2) := by decide +kernel
theorem dX11_calculate_42 : decode cX11_calculate 42 = .ok (.iload 4, 2) := by decide +kernel
theorem dX11_calculate_44 : decode cX11_calculate 44 = .ok (.iconst 1, 1) := by decide +kernel
theorem dX11_calculate_45 : decode cX11_calculate 45 = .ok (.if_icmp .eq 9, 3) := by decide +kernel
theorem dX11_calculate_48 : decode cX11_calculate 48 = .ok (.iload 4, 2) := by decide +kernel
theorem dX11_calculate_50 : decode cX11_calculate 50 = .ok (.iconst 5, 1) := by decide +kernel
theorem dX11_calculate_51 : decode cX11_calculate 51 = .ok (.if_icmp .ne 7, 3) := by decide +kernel
theorem dX11_calculate_54 : decode cX11_calculate 54 = .ok (.iconst 1, 1) := by decide +kernel
theorem dX11_calculate_55 : decode cX11_calculate 55 = .ok (.goto 4, 3) := by decide +kernel
theorem dX11_calculate_58 : decode cX11_calculate 58 = .ok (.iconst 0, 1) := by decide +kernel
theorem dX11_calculate_59 : decode cX11_calculate 59 = .ok (.istore 9, 2) := by decide +kernel
theorem dX11_calculate_61 : decode cX11_calculate 61 = .ok (.iload 8, 2) := by decide +kernel
theorem dX11_calculate_63 : decode cX11_calculate 63 = .ok (.bipush 32, 2) := by decide +kernel
theorem dX11_calculate_65 : decode cX11_calculate 65 = .ok (.if_icmp .ne 22, 3) := by decide +kernel
theorem dX11_calculate_68 : decode cX11_calculate 68 = .ok (.iload 4, 2) := by decide +kernel
theorem dX11_calculate_70 : decode cX11_calculate 70 = .ok (.iconst 5, 1) := by decide +kernel
theorem dX11_calculate_71 : decode cX11_calculate 71 = .ok (.if_icmp .eq 12, 3) := by decide +kernel
theorem dX11_calculate_74 : decode cX11_calculate 74 = .ok (.iload_n 3, 1) := by decide +kernel
theorem dX11_calculate_75 : decode cX11_calculate 75 = .ok (.ifCond .eq 12, 3) := by decide +kernel
theorem dX11_calculate_78 : decode cX11_calculate 78 = .ok (.iload 4, 2) := by decide +kernel
theorem dX11_calculate_80 : decode cX11_calculate 80 = .ok (.ifCond .ne 7, 3) := by decide +kernel
theorem dX11_calculate_83 : decode cX11_calculate 83 = .ok (.iconst 1, 1) := by decide +kernel
theorem dX11_calculate_84 : decode cX11_calculate 84 = .ok (.goto 4, 3) := by decide +kernel
theorem dX11_calculate_87 : decode cX11_calculate 87 = .ok (.iconst 0, 1) := by decide +kernel
theorem dX11_calculate_88 : decode cX11_calculate 88 = .ok (.istore 10, 2) := by decide +kernel
theorem dX11_calculate_90 : decode cX11_calculate 90 = .ok (.iload_n 3, 1) := by decide +kernel
theorem dX11_calculate_91 : decode cX11_calculate 91 = .ok (.ifCond .ne 8, 3) := by decide +kernel
theorem dX11_calculate_94 : decode cX11_calculate 94 = .ok (.iload 9, 2) := by decide +kernel
theorem dX11_calculate_96 : decode cX11_calculate 96 = .ok (.ifCond .eq 13, 3) := by decide +kernel
theorem dX11_calculate_99 : decode cX11_calculate 99 = .ok (.iload 8, 2) := by decide +kernel
theorem dX11_calculate_101 : decode cX11_calculate 101 = .ok (.ifCond .eq 8, 3) := by decide +kernel
theorem dX11_calculate_104 : decode cX11_calculate 104 = .ok (.iload 10, 2) := by decide +kernel
theorem dX11_calculate_106 : decode cX11_calculate 106 = .ok (.ifCond .eq 7, 3) := by decide +kernel
theorem dX11_calculate_109 : decode cX11_calculate 109 = .ok (.iconst 1, 1) := by decide +kernel
theorem dX11_calculate_110 : decode cX11_calculate 110 = .ok (.goto 4, 3) := by decide +kernel
theorem dX11_calculate_113 : decode cX11_calculate 113 = .ok (.iconst 0, 1) := by decide +kernel
theorem dX11_calculate_114 : decode cX11_calculate 114 = .ok (.istore 11, 2) := by decide +kernel
theorem dX11_calculate_116 : decode cX11_calculate 116 = .ok (.iload 11, 2) := by decide +kernel
theorem dX11_calculate_118 : decode cX11_calculate 118 = .ok (.ifCond .eq 28, 3) := by decide +kernel
theorem dX11_calculate_121 : decode cX11_calculate 121 = .ok (.iload 5, 2) := by decide +kernel
theorem dX11_calculate_123 : decode cX11_calculate 123 = .ok (.bipush 15, 2) := by decide +kernel
theorem dX11_calculate_125 : decode cX11_calculate 125 = .ok (.if_icmp .gt 21, 3) := by decide +kernel
theorem dX11_calculate_128 : decode cX11_calculate 128 = .ok (.iload 6, 2) := by decide +kernel
theorem dX11_calculate_130 : decode cX11_calculate 130 = .ok (.bipush 15, 2) := by decide +kernel
theorem dX11_calculate_132 : decode cX11_calculate 132 = .ok (.if_icmp .gt 14, 3) := by decide +kernel
theorem dX11_calculate_135 : decode cX11_calculate 135 = .ok (.iload_n 3, 1) := by decide +kernel
theorem dX11_calculate_136 : decode cX11_calculate 136 = .ok (.ifCond .eq 16, 3) := by decide +kernel
theorem dX11_calculate_139 : decode cX11_calculate 139 = .ok (.iload 7, 2) := by decide +kernel
theorem dX11_calculate_141 : decode cX11_calculate 141 = .ok (.bipush 15, 2) := by decide +kernel
theorem dX11_calculate_143 : decode cX11_calculate 143 = .ok (.if_icmp .le 9, 3) := by decide +kernel
theorem dX11_calculate_146 : decode cX11_calculate 146 = .ok (.aload_n 0, 1) := by decide +kernel
theorem dX11_calculate_147 : decode cX11_calculate 147 = .ok (.iload_n 1, 1) := by decide +kernel
theorem dX11_calculate_148 : decode cX11_calculate 148 = .ok (.invokevirtual 299, 3) := by decide +kernel
theorem dX11_calculate_151 : decode cX11_calculate 151 = .ok (.ireturn, 1) := by decide +kernel
theorem dX11_calculate_152 : decode cX11_calculate 152 = .ok (.iload_n 3, 1) := by decide +kernel
theorem dX11_calculate_153 : decode cX11_calculate 153 = .ok (.ifCond .eq 18, 3) := by decide +kernel
theorem dX11_calculate_156 : decode cX11_calculate 156 = .ok (.aload_n 0, 1) := by decide +kernel
theorem dX11_calculate_157 : decode cX11_calculate 157 = .ok (.getfield 45, 3) := by decide +kernel
theorem dX11_calculate_160 : decode cX11_calculate 160 = .ok (.bipush 16, 2) := by decide +kernel
theorem dX11_calculate_162 : decode cX11_calculate 162 = .ok (.iload_n 1, 1) := by decide +kernel
theorem dX11_calculate_163 : decode cX11_calculate 163 = .ok (.imul, 1) := by decide +kernel
theorem dX11_calculate_164 : decode cX11_calculate 164 = .ok (.iload 7, 2) := by decide +kernel
theorem dX11_calculate_166 : decode cX11_calculate 166 = .ok (.iadd, 1) := by decide +kernel
theorem dX11_calculate_167 : decode cX11_calculate 167 = .ok (.iaload, 1) := by decide +kernel
theorem dX11_calculate_168 : decode cX11_calculate 168 = .ok (.goto 17, 3) := by decide +kernel
theorem dX11_calculate_171 : decode cX11_calculate 171 = .ok (.iload 9, 2) := by decide +kernel
theorem dX11_calculate_173 : decode cX11_calculate 173 = .ok (.ifCond .eq 8, 3) := by decide +kernel
theorem dX11_calculate_176 : decode cX11_calculate 176 = .ok (.iload 7, 2) := by decide +kernel
theorem dX11_calculate_178 : decode cX11_calculate 178 = .ok (.goto 7, 3) := by decide +kernel
theorem dX11_calculate_181 : decode cX11_calculate 181 = .ok (.iload_n 2, 1) := by decide +kernel
theorem dX11_calculate_182 : decode cX11_calculate 182 = .ok (.bipush 20, 2) := by decide +kernel
theorem dX11_calculate_184 : decode cX11_calculate 184 = .ok (.ishr, 1) := by decide +kernel
theorem dX11_calculate_185 : decode cX11_calculate 185 = .ok (.istore 12, 2) := by decide +kernel
theorem dX11_calculate_187 : decode cX11_calculate 187 = .ok (.aload_n 0, 1) := by decide +kernel
theorem dX11_calculate_188 : decode cX11_calculate 188 = .ok (.iload_n 1, 1) := by decide +kernel
theorem dX11_calculate_189 : decode cX11_calculate 189 = .ok (.iload 5, 2) := by decide +kernel
theorem dX11_calculate_191 : decode cX11_calculate 191 = .ok (.iload 4, 2) := by decide +kernel
theorem dX11_calculate_193 : decode cX11_calculate 193 = .ok (.iload 10, 2) := by decide +kernel
theorem dX11_calculate_195 : decode cX11_calculate 195 = .ok (.aload_n 0, 1) := by decide +kernel
theorem dX11_calculate_196 : decode cX11_calculate 196 = .ok (.getfield 45, 3) := by decide +kernel
theorem dX11_calculate_199 : decode cX11_calculate 199 = .ok (.bipush 16, 2) := by decide +kernel
theorem dX11_calculate_201 : decode cX11_calculate 201 = .ok (.iload_n 1, 1) := by decide +kernel
theorem dX11_calculate_202 : decode cX11_calculate 202 = .ok (.imul, 1) := by decide +kernel
theorem dX11_calculate_203 : decode cX11_calculate 203 = .ok (.iload 6, 2) := by decide +kernel
theorem dX11_calculate_205 : decode cX11_calculate 205 = .ok (.iadd, 1) := by decide +kernel
theorem dX11_calculate_206 : decode cX11_calculate 206 = .ok (.iaload, 1) := by decide +kernel
theorem dX11_calculate_207 : decode cX11_calculate 207 = .ok (.iload 12, 2) := by decide +kernel
theorem dX11_calculate_209 : decode cX11_calculate 209 = .ok (.invokestatic 323, 3) := by decide +kernel
theorem dX11_calculate_212 : decode cX11_calculate 212 = .ok (.invokevirtual 313, 3) := by decide +kernel
theorem dX11_calculate_215 : decode cX11_calculate 215 = .ok (.aload_n 0, 1) := by decide +kernel
theorem dX11_calculate_216 : decode cX11_calculate 216 = .ok (.iload_n 1, 1) := by decide +kernel
theorem dX11_calculate_217 : decode cX11_calculate 217 = .ok (.aload_n 0, 1) := by decide +kernel
theorem dX11_calculate_218 : decode cX11_calculate 218 = .ok (.getfield 48, 3) := by decide +kernel
theorem dX11_calculate_221 : decode cX11_calculate 221 = .ok (.iload_n 1, 1) := by decide +kernel
theorem dX11_calculate_222 : decode cX11_calculate 222 = .ok (.iaload, 1) := by decide +kernel
theorem dX11_calculate_223 : decode cX11_calculate 223 = .ok (.iconst 4, 1) := by decide +kernel
theorem dX11_calculate_224 : decode cX11_calculate 224 = .ok (.iadd, 1) := by decide +kernel
theorem dX11_calculate_225 : decode cX11_calculate 225 = .ok (.aload_n 0, 1) := by decide +kernel
theorem dX11_calculate_226 : decode cX11_calculate 226 = .ok (.getfield 291, 3) := by decide +kernel
theorem dX11_calculate_229 : decode cX11_calculate 229 = .ok (.iconst 4, 1) := by decide +kernel
theorem dX11_calculate_230 : decode cX11_calculate 230 = .ok (.iadd, 1) := by decide +kernel
theorem dX11_calculate_231 : decode cX11_calculate 231 = .ok (.invokevirtual 319, 3) := by decide +kernel
theorem dX11_calculate_234 : decode cX11_calculate 234 = .ok (.ireturn, 1) := by decide +kernel
theorem dX11_jump_0 : decode cX11_jump 0 = .ok (.iload_n 2, 1) := by decide +kernel
theorem dX11_jump_1 : decode cX11_jump 1 = .ok (.bipush 7, 2) := by decide +kernel
theorem dX11_jump_3 : decode cX11_jump 3 = .ok (.ishr, 1) := by decide +kernel
theorem dX11_jump_4 : decode cX11_jump 4 = .ok (.bipush 31, 2) := by decide +kernel
theorem dX11_jump_6 : decode cX11_jump 6 = .ok (.iand, 1) := by decide +kernel
theorem dX11_jump_7 : decode cX11_jump 7 = .ok (.istore 4, 2) := by decide +kernel
theorem dX11_jump_9 : decode cX11_jump 9 = .ok (.iload_n 2, 1) := by decide +kernel
theorem dX11_jump_10 : decode cX11_jump 10 = .ok (.bipush 15, 2) := by decide +kernel
theorem dX11_jump_12 : decode cX11_jump 12 = .ok (.ishr, 1) := by decide +kernel
theorem dX11_jump_13 : decode cX11_jump 13 = .ok (.bipush 31, 2) := by decide +kernel
theorem dX11_jump_15 : decode cX11_jump 15 = .ok (.iand, 1) := by decide +kernel
theorem dX11_jump_16 : decode cX11_jump 16 = .ok (.istore 5, 2) := by decide +kernel
theorem dX11_jump_18 : decode cX11_jump 18 = .ok (.iload 4, 2) := by decide +kernel
theorem dX11_jump_20 : decode cX11_jump 20 = .ok (.bipush 15, 2) := by decide +kernel
theorem dX11_jump_22 : decode cX11_jump 22 = .ok (.if_icmp .gt 24, 3) := by decide +kernel
theorem dX11_jump_25 : decode cX11_jump 25 = .ok (.iload_n 3, 1) := by decide +kernel
theorem dX11_jump_26 : decode cX11_jump 26 = .ok (.ifCond .eq 26, 3) := by decide +kernel
theorem dX11_jump_29 : decode cX11_jump 29 = .ok (.iload 5, 2) := by decide +kernel
theorem dX11_jump_31 : decode cX11_jump 31 = .ok (.bipush 15, 2) := by decide +kernel
theorem dX11_jump_33 : decode cX11_jump 33 = .ok (.if_icmp .gt 13, 3) := by decide +kernel
theorem dX11_jump_36 : decode cX11_jump 36 = .ok (.iload_n 2, 1) := by decide +kernel
theorem dX11_jump_37 : decode cX11_jump 37 = .ok (.bipush 12, 2) := by decide +kernel
theorem dX11_jump_39 : decode cX11_jump 39 = .ok (.ishr, 1) := by decide +kernel
theorem dX11_jump_40 : decode cX11_jump 40 = .ok (.bipush 7, 2) := by decide +kernel
theorem dX11_jump_42 : decode cX11_jump 42 = .ok (.iand, 1) := by decide +kernel
theorem dX11_jump_43 : decode cX11_jump 43 = .ok (.ifCond .eq 9, 3) := by decide +kernel
theorem dX11_jump_46 : decode cX11_jump 46 = .ok (.aload_n 0, 1) := by decide +kernel
theorem dX11_jump_47 : decode cX11_jump 47 = .ok (.iload_n 1, 1) := by decide +kernel
theorem dX11_jump_48 : decode cX11_jump 48 = .ok (.invokevirtual 299, 3) := by decide +kernel
theorem dX11_jump_51 : decode cX11_jump 51 = .ok (.ireturn, 1) := by decide +kernel
theorem dX11_jump_52 : decode cX11_jump 52 = .ok (.iload_n 2, 1) := by decide +kernel
theorem dX11_jump_53 : decode cX11_jump 53 = .ok (.bipush 21, 2) := by decide +kernel
theorem dX11_jump_55 : decode cX11_jump 55 = .ok (.ishr, 1) := by decide +kernel
theorem dX11_jump_56 : decode cX11_jump 56 = .ok (.sipush 1023, 3) := by decide +kernel
theorem dX11_jump_59 : decode cX11_jump 59 = .ok (.iand, 1) := by decide +kernel
theorem dX11_jump_60 : decode cX11_jump 60 = .ok (.iconst 1, 1) := by decide +kernel
theorem dX11_jump_61 : decode cX11_jump 61 = .ok (.ishl, 1) := by decide +kernel
theorem dX11_jump_62 : decode cX11_jump 62 = .ok (.iload_n 2, 1) := by decide +kernel
theorem dX11_jump_63 : decode cX11_jump 63 = .ok (.bipush 20, 2) := by decide +kernel
theorem dX11_jump_65 : decode cX11_jump 65 = .ok (.ishr, 1) := by decide +kernel
theorem dX11_jump_66 : decode cX11_jump 66 = .ok (.iconst 1, 1) := by decide +kernel
theorem dX11_jump_67 : decode cX11_jump 67 = .ok (.iand, 1) := by decide +kernel
theorem dX11_jump_68 : decode cX11_jump 68 = .ok (.bipush 11, 2) := by decide +kernel
theorem dX11_jump_70 : decode cX11_jump 70 = .ok (.ishl, 1) := by decide +kernel
theorem dX11_jump_71 : decode cX11_jump 71 = .ok (.ior, 1) := by decide +kernel
theorem dX11_jump_72 : decode cX11_jump 72 = .ok (.iload_n 2, 1) := by decide +kernel
theorem dX11_jump_73 : decode cX11_jump 73 = .ok (.bipush 12, 2) := by decide +kernel
theorem dX11_jump_75 : decode cX11_jump 75 = .ok (.ishr, 1) := by decide +kernel
theorem dX11_jump_76 : decode cX11_jump 76 = .ok (.sipush 255, 3) := by decide +kernel
theorem dX11_jump_79 : decode cX11_jump 79 = .ok (.iand, 1) := by decide +kernel
theorem dX11_jump_80 : decode cX11_jump 80 = .ok (.bipush 12, 2) := by decide +kernel
theorem dX11_jump_82 : decode cX11_jump 82 = .ok (.ishl, 1) := by decide +kernel
theorem dX11_jump_83 : decode cX11_jump 83 = .ok (.ior, 1) := by decide +kernel
theorem dX11_jump_84 : decode cX11_jump 84 = .ok (.iload_n 2, 1) := by decide +kernel
theorem dX11_jump_85 : decode cX11_jump 85 = .ok (.bipush 31, 2) := by decide +kernel
theorem dX11_jump_87 : decode cX11_jump 87 = .ok (.ishr, 1) := by decide +kernel
theorem dX11_jump_88 : decode cX11_jump 88 = .ok (.bipush 20, 2) := by decide +kernel
theorem dX11_jump_90 : decode cX11_jump 90 = .ok (.ishl, 1) := by decide +kernel
theorem dX11_jump_91 : decode cX11_jump 91 = .ok (.ior, 1) := by decide +kernel
theorem dX11_jump_92 : decode cX11_jump 92 = .ok (.istore 6, 2) := by decide +kernel
theorem dX11_jump_94 : decode cX11_jump 94 = .ok (.iload_n 3, 1) := by decide +kernel
theorem dX11_jump_95 : decode cX11_jump 95 = .ok (.ifCond .eq 26, 3) := by decide +kernel
theorem dX11_jump_98 : decode cX11_jump 98 = .ok (.aload_n 0, 1) := by decide +kernel
theorem dX11_jump_99 : decode cX11_jump 99 = .ok (.getfield 45, 3) := by decide +kernel
theorem dX11_jump_102 : decode cX11_jump 102 = .ok (.bipush 16, 2) := by decide +kernel
theorem dX11_jump_104 : decode cX11_jump 104 = .ok (.iload_n 1, 1) := by decide +kernel
theorem dX11_jump_105 : decode cX11_jump 105 = .ok (.imul, 1) := by decide +kernel
theorem dX11_jump_106 : decode cX11_jump 106 = .ok (.iload 5, 2) := by decide +kernel
theorem dX11_jump_108 : decode cX11_jump 108 = .ok (.iadd, 1) := by decide +kernel
theorem dX11_jump_109 : decode cX11_jump 109 = .ok (.iaload, 1) := by decide +kernel
theorem dX11_jump_110 : decode cX11_jump 110 = .ok (.iload_n 2, 1) := by decide +kernel
theorem dX11_jump_111 : decode cX11_jump 111 = .ok (.bipush 20, 2) := by decide +kernel
theorem dX11_jump_113 : decode cX11_jump 113 = .ok (.ishr, 1) := by decide +kernel
theorem dX11_jump_114 : decode cX11_jump 114 = .ok (.iadd, 1) := by decide +kernel
theorem dX11_jump_115 : decode cX11_jump 115 = .ok (.bipush (-2), 2) := by decide +kernel
theorem dX11_jump_117 : decode cX11_jump 117 = .ok (.iand, 1) := by decide +kernel
theorem dX11_jump_118 : decode cX11_jump 118 = .ok (.goto 12, 3) := by decide +kernel
theorem dX11_jump_121 : decode cX11_jump 121 = .ok (.aload_n 0, 1) := by decide +kernel
theorem dX11_jump_122 : decode cX11_jump 122 = .ok (.getfield 48, 3) := by decide +kernel
theorem dX11_jump_125 : decode cX11_jump 125 = .ok (.iload_n 1, 1) := by decide +kernel
theorem dX11_jump_126 : decode cX11_jump 126 = .ok (.iaload, 1) := by decide +kernel
theorem dX11_jump_127 : decode cX11_jump 127 = .ok (.iload 6, 2) := by decide +kernel
theorem dX11_jump_129 : decode cX11_jump 129 = .ok (.iadd, 1) := by decide +kernel
theorem dX11_jump_130 : decode cX11_jump 130 = .ok (.istore 7, 2) := by decide +kernel
theorem dX11_jump_132 : decode cX11_jump 132 = .ok (.aload_n 0, 1) := by decide +kernel
theorem dX11_jump_133 : decode cX11_jump 133 = .ok (.iload_n 1, 1) := by decide +kernel
theorem dX11_jump_134 : decode cX11_jump 134 = .ok (.iload 4, 2) := by decide +kernel
theorem dX11_jump_136 : decode cX11_jump 136 = .ok (.aload_n 0, 1) := by decide +kernel
theorem dX11_jump_137 : decode cX11_jump 137 = .ok (.getfield 48, 3) := by decide +kernel
theorem dX11_jump_140 : decode cX11_jump 140 = .ok (.iload_n 1, 1) := by decide +kernel
theorem dX11_jump_141 : decode cX11_jump 141 = .ok (.iaload, 1) := by decide +kernel
theorem dX11_jump_142 : decode cX11_jump 142 = .ok (.iconst 4, 1) := by decide +kernel
theorem dX11_jump_143 : decode cX11_jump 143 = .ok (.iadd, 1) := by decide +kernel
theorem dX11_jump_144 : decode cX11_jump 144 = .ok (.invokevirtual 313, 3) := by decide +kernel
theorem dX11_jump_147 : decode cX11_jump 147 = .ok (.aload_n 0, 1) := by decide +kernel
theorem dX11_jump_148 : decode cX11_jump 148 = .ok (.iload_n 1, 1) := by decide +kernel
theorem dX11_jump_149 : decode cX11_jump 149 = .ok (.iload 7, 2) := by decide +kernel
theorem dX11_jump_151 : decode cX11_jump 151 = .ok (.aload_n 0, 1) := by decide +kernel
theorem dX11_jump_152 : decode cX11_jump 152 = .ok (.getfield 291, 3) := by decide +kernel
theorem dX11_jump_155 : decode cX11_jump 155 = .ok (.iconst 4, 1) := by decide +kernel
theorem dX11_jump_156 : decode cX11_jump 156 = .ok (.iadd, 1) := by decide +kernel
theorem dX11_jump_157 : decode cX11_jump 157 = .ok (.invokevirtual 319, 3) := by decide +kernel
theorem dX11_jump_160 : decode cX11_jump 160 = .ok (.ireturn, 1) := by decide +kernel
theorem dX11_branch_0 : decode cX11_branch 0 = .ok (.iload_n 2, 1) := by decide +kernel
theorem dX11_branch_1 : decode cX11_branch 1 = .ok (.bipush 12, 2) := by decide +kernel
theorem dX11_branch_3 : decode cX11_branch 3 = .ok (.ishr, 1) := by decide +kernel
theorem dX11_branch_4 : decode cX11_branch 4 = .ok (.bipush 7, 2) := by decide +kernel
theorem dX11_branch_6 : decode cX11_branch 6 = .ok (.iand, 1) := by decide +kernel
theorem dX11_branch_7 : decode cX11_branch 7 = .ok (.istore_n 3, 1) := by decide +kernel
theorem dX11_branch_8 : decode cX11_branch 8 = .ok (.iload_n 2, 1) := by decide +kernel
theorem dX11_branch_9 : decode cX11_branch 9 = .ok (.bipush 15, 2) := by decide +kernel
theorem dX11_branch_11 : decode cX11_branch 11 = .ok (.ishr, 1) := by decide +kernel
theorem dX11_branch_12 : decode cX11_branch 12 = .ok (.bipush 31, 2) := by decide +kernel
theorem dX11_branch_14 : decode cX11_branch 14 = .ok (.iand, 1) := by decide +kernel
theorem dX11_branch_15 : decode cX11_branch 15 = .ok (.istore 4, 2) := by decide +kernel
theorem dX11_branch_17 : decode cX11_branch 17 = .ok (.iload_n 2, 1) := by decide +kernel
theorem dX11_branch_18 : decode cX11_branch 18 = .ok (.bipush 20, 2) := by decide +kernel
theorem dX11_branch_20 : decode cX11_branch 20 = .ok (.ishr, 1) := by decide +kernel
theorem dX11_branch_21 : decode cX11_branch 21 = .ok (.bipush 31, 2) := by decide +kernel
theorem dX11_branch_23 : decode cX11_branch 23 = .ok (.iand, 1) := by decide +kernel
theorem dX11_branch_24 : decode cX11_branch 24 = .ok (.istore 5, 2) := by decide +kernel
theorem dX11_branch_26 : decode cX11_branch 26 = .ok (.iload_n 3, 1) := by decide +kernel
theorem dX11_branch_27 : decode cX11_branch 27 = .ok (.iconst 2, 1) := by decide +kernel
theorem dX11_branch_28 : decode cX11_branch 28 = .ok (.if_icmp .eq 22, 3) := by decide +kernel
theorem dX11_branch_31 : decode cX11_branch 31 = .ok (.iload_n 3, 1) := by decide +kernel
theorem dX11_branch_32 : decode cX11_branch 32 = .ok (.iconst 3, 1) := by decide +kernel
theorem dX11_branch_33 : decode cX11_branch 33 = .ok (.if_icmp .eq 17, 3) := by decide +kernel
theorem dX11_branch_36 : decode cX11_branch 36 = .ok (.iload 4, 2) := by decide +kernel
theorem dX11_branch_38 : decode cX11_branch 38 = .ok (.bipush 15, 2) := by decide +kernel
theorem dX11_branch_40 : decode cX11_branch 40 = .ok (.if_icmp .gt 10, 3) := by decide +kernel
theorem dX11_branch_43 : decode cX11_branch 43 = .ok (.iload 5, 2) := by decide +kernel
theorem dX11_branch_45 : decode cX11_branch 45 = .ok (.bipush 15, 2) := by decide +kernel
theorem dX11_branch_47 : decode cX11_branch 47 = .ok (.if_icmp .le 9, 3) := by decide +kernel
theorem dX11_branch_50 : decode cX11_branch 50 = .ok (.aload_n 0, 1) := by decide +kernel
theorem dX11_branch_51 : decode cX11_branch 51 = .ok (.iload_n 1, 1) := by decide +kernel
theorem dX11_branch_52 : decode cX11_branch 52 = .ok (.invokevirtual 299, 3) := by decide +kernel
theorem dX11_branch_55 : decode cX11_branch 55 = .ok (.ireturn, 1) := by decide +kernel
theorem dX11_branch_56 : decode cX11_branch 56 = .ok (.iload_n 2, 1) := by decide +kernel
theorem dX11_branch_57 : decode cX11_branch 57 = .ok (.bipush 8, 2) := by decide +kernel
theorem dX11_branch_59 : decode cX11_branch 59 = .ok (.ishr, 1) := by decide +kernel
theorem dX11_branch_60 : decode cX11_branch 60 = .ok (.bipush 15, 2) := by decide +kernel
theorem dX11_branch_62 : decode cX11_branch 62 = .ok (.iand, 1) := by decide +kernel
theorem dX11_branch_63 : decode cX11_branch 63 = .ok (.iconst 1, 1) := by decide +kernel
theorem dX11_branch_64 : decode cX11_branch 64 = .ok (.ishl, 1) := by decide +kernel
theorem dX11_branch_65 : decode cX11_branch 65 = .ok (.iload_n 2, 1) := by decide +kernel
theorem dX11_branch_66 : decode cX11_branch 66 = .ok (.bipush 25, 2) := by decide +kernel
theorem dX11_branch_68 : decode cX11_branch 68 = .ok (.ishr, 1) := by decide +kernel
theorem dX11_branch_69 : decode cX11_branch 69 = .ok (.bipush 63, 2) := by decide +kernel
theorem dX11_branch_71 : decode cX11_branch 71 = .ok (.iand, 1) := by decide +kernel
theorem dX11_branch_72 : decode cX11_branch 72 = .ok (.iconst 5, 1) := by decide +kernel
theorem dX11_branch_73 : decode cX11_branch 73 = .ok (.ishl, 1) := by decide +kernel
theorem dX11_branch_74 : decode cX11_branch 74 = .ok (.ior, 1) := by decide +kernel
theorem dX11_branch_75 : decode cX11_branch 75 = .ok (.iload_n 2, 1) := by decide +kernel
theorem dX11_branch_76 : decode cX11_branch 76 = .ok (.bipush 7, 2) := by decide +kernel
theorem dX11_branch_78 : decode cX11_branch 78 = .ok (.ishr, 1) := by decide +kernel
theorem dX11_branch_79 : decode cX11_branch 79 = .ok (.iconst 1, 1) := by decide +kernel
theorem dX11_branch_80 : decode cX11_branch 80 = .ok (.iand, 1) := by decide +kernel
theorem dX11_branch_81 : decode cX11_branch 81 = .ok (.bipush 11, 2) := by decide +kernel
theorem dX11_branch_83 : decode cX11_branch 83 = .ok (.ishl, 1) := by decide +kernel
theorem dX11_branch_84 : decode cX11_branch 84 = .ok (.ior, 1) := by decide +kernel
theorem dX11_branch_85 : decode cX11_branch 85 = .ok (.iload_n 2, 1) := by decide +kernel
theorem dX11_branch_86 : decode cX11_branch 86 = .ok (.bipush 31, 2) := by decide +kernel
theorem dX11_branch_88 : decode cX11_branch 88 = .ok (.ishr, 1) := by decide +kernel
theorem dX11_branch_89 : decode cX11_branch 89 = .ok (.bipush 12, 2) := by decide +kernel
theorem dX11_branch_91 : decode cX11_branch 91 = .ok (.ishl, 1) := by decide +kernel
theorem dX11_branch_92 : decode cX11_branch 92 = .ok (.ior, 1) := by decide +kernel
theorem dX11_branch_93 : decode cX11_branch 93 = .ok (.istore 6, 2) := by decide +kernel
theorem dX11_branch_95 : decode cX11_branch 95 = .ok (.iload_n 3, 1) := by decide +kernel
theorem dX11_branch_96 : decode cX11_branch 96 = .ok (.aload_n 0, 1) := by decide +kernel
theorem dX11_branch_97 : decode cX11_branch 97 = .ok (.getfield 45, 3) := by decide +kernel
theorem dX11_branch_100 : decode cX11_branch 100 = .ok (.bipush 16, 2) := by decide +kernel
theorem dX11_branch_102 : decode cX11_branch 102 = .ok (.iload_n 1, 1) := by decide +kernel
theorem dX11_branch_103 : decode cX11_branch 103 = .ok (.imul, 1) := by decide +kernel
theorem dX11_branch_104 : decode cX11_branch 104 = .ok (.iload 4, 2) := by decide +kernel
theorem dX11_branch_106 : decode cX11_branch 106 = .ok (.iadd, 1) := by decide +kernel
theorem dX11_branch_107 : decode cX11_branch 107 = .ok (.iaload, 1) := by decide +kernel
theorem dX11_branch_108 : decode cX11_branch 108 = .ok (.aload_n 0, 1) := by decide +kernel
theorem dX11_branch_109 : decode cX11_branch 109 = .ok (.getfield 45, 3) := by decide +kernel
theorem dX11_branch_112 : decode cX11_branch 112 = .ok (.bipush 16, 2) := by decide +kernel
theorem dX11_branch_114 : decode cX11_branch 114 = .ok (.iload_n 1, 1) := by decide +kernel
theorem dX11_branch_115 : decode cX11_branch 115 = .ok (.imul, 1) := by decide +kernel
theorem dX11_branch_116 : decode cX11_branch 116 = .ok (.iload 5, 2) := by decide +kernel
theorem dX11_branch_118 : decode cX11_branch 118 = .ok (.iadd, 1) := by decide +kernel
theorem dX11_branch_119 : decode cX11_branch 119 = .ok (.iaload, 1) := by decide +kernel
theorem dX11_branch_120 : decode cX11_branch 120 = .ok (.invokestatic 327, 3) := by decide +kernel
theorem dX11_branch_123 : decode cX11_branch 123 = .ok (.istore 7, 2) := by decide +kernel
theorem dX11_branch_125 : decode cX11_branch 125 = .ok (.aload_n 0, 1) := by decide +kernel
theorem dX11_branch_126 : decode cX11_branch 126 = .ok (.iload_n 1, 1) := by decide +kernel
theorem dX11_branch_127 : decode cX11_branch 127 = .ok (.aload_n 0, 1) := by decide +kernel
theorem dX11_branch_128 : decode cX11_branch 128 = .ok (.getfield 48, 3) := by decide +kernel
theorem dX11_branch_131 : decode cX11_branch 131 = .ok (.iload_n 1, 1) := by decide +kernel
theorem dX11_branch_132 : decode cX11_branch 132 = .ok (.iaload, 1) := by decide +kernel
theorem dX11_branch_133 : decode cX11_branch 133 = .ok (.iload 7, 2) := by decide +kernel
theorem dX11_branch_135 : decode cX11_branch 135 = .ok (.ifCond .eq 8, 3) := by decide +kernel
theorem dX11_branch_138 : decode cX11_branch 138 = .ok (.iload 6, 2) := by decide +kernel
theorem dX11_branch_140 : decode cX11_branch 140 = .ok (.goto 4, 3) := by decide +kernel
theorem dX11_branch_143 : decode cX11_branch 143 = .ok (.iconst 4, 1) := by decide +kernel
theorem dX11_branch_144 : decode cX11_branch 144 = .ok (.iadd, 1) := by decide +kernel
theorem dX11_branch_145 : decode cX11_branch 145 = .ok (.aload_n 0, 1) := by decide +kernel
theorem dX11_branch_146 : decode cX11_branch 146 = .ok (.getfield 291, 3) := by decide +kernel
theorem dX11_branch_149 : decode cX11_branch 149 = .ok (.iconst 4, 1) := by decide +kernel
theorem dX11_branch_150 : decode cX11_branch 150 = .ok (.iadd, 1) := by decide +kernel
theorem dX11_branch_151 : decode cX11_branch 151 = .ok (.invokevirtual 319, 3) := by decide +kernel
theorem dX11_branch_154 : decode cX11_branch 154 = .ok (.ireturn, 1) := by decide +kernel
theorem dX11_clock_0 : decode cX11_clock 0 = .ok (.iload_n 2, 1) := by decide +kernel
theorem dX11_clock_1 : decode cX11_clock 1 = .ok (.bipush 12, 2) := by decide +kernel
theorem dX11_clock_3 : decode cX11_clock 3 = .ok (.ishr, 1) := by decide +kernel
theorem dX11_clock_4 : decode cX11_clock 4 = .ok (.bipush 7, 2) := by decide +kernel
theorem dX11_clock_6 : decode cX11_clock 6 = .ok (.iand, 1) := by decide +kernel
theorem dX11_clock_7 : decode cX11_clock 7 = .ok (.istore_n 3, 1) := by decide +kernel
theorem dX11_clock_8 : decode cX11_clock 8 = .ok (.iload_n 2, 1) := by decide +kernel
theorem dX11_clock_9 : decode cX11_clock 9 = .ok (.bipush 7, 2) := by decide +kernel
theorem dX11_clock_11 : decode cX11_clock 11 = .ok (.ishr, 1) := by decide +kernel
theorem dX11_clock_12 : decode cX11_clock 12 = .ok (.bipush 31, 2) := by decide +kernel
theorem dX11_clock_14 : decode cX11_clock 14 = .ok (.iand, 1) := by decide +kernel
theorem dX11_clock_15 : decode cX11_clock 15 = .ok (.istore 4, 2) := by decide +kernel
theorem dX11_clock_17 : decode cX11_clock 17 = .ok (.iload_n 2, 1) := by decide +kernel
theorem dX11_clock_18 : decode cX11_clock 18 = .ok (.bipush 15, 2) := by decide +kernel
theorem dX11_clock_20 : decode cX11_clock 20 = .ok (.ishr, 1) := by decide +kernel
theorem dX11_clock_21 : decode cX11_clock 21 = .ok (.bipush 31, 2) := by decide +kernel
theorem dX11_clock_23 : decode cX11_clock 23 = .ok (.iand, 1) := by decide +kernel
theorem dX11_clock_24 : decode cX11_clock 24 = .ok (.istore 5, 2) := by decide +kernel
theorem dX11_clock_26 : decode cX11_clock 26 = .ok (.iload_n 3, 1) := by decide +kernel
theorem dX11_clock_27 : decode cX11_clock 27 = .ok (.iconst 1, 1) := by decide +kernel
theorem dX11_clock_28 : decode cX11_clock 28 = .ok (.if_icmp .gt 27, 3) := by decide +kernel
theorem dX11_clock_31 : decode cX11_clock 31 = .ok (.iload_n 3, 1) := by decide +kernel
theorem dX11_clock_32 : decode cX11_clock 32 = .ok (.ifCond .ne 16, 3) := by decide +kernel
theorem dX11_clock_35 : decode cX11_clock 35 = .ok (.iload 4, 2) := by decide +kernel
theorem dX11_clock_37 : decode cX11_clock 37 = .ok (.iconst 3, 1) := by decide +kernel
theorem dX11_clock_38 : decode cX11_clock 38 = .ok (.if_icmp .gt 17, 3) := by decide +kernel
theorem dX11_clock_41 : decode cX11_clock 41 = .ok (.iload 5, 2) := by decide +kernel
theorem dX11_clock_43 : decode cX11_clock 43 = .ok (.bipush 15, 2) := by decide +kernel
theorem dX11_clock_45 : decode cX11_clock 45 = .ok (.if_icmp .gt 10, 3) := by decide +kernel
theorem dX11_clock_48 : decode cX11_clock 48 = .ok (.iload 4, 2) := by decide +kernel
theorem dX11_clock_50 : decode cX11_clock 50 = .ok (.bipush 15, 2) := by decide +kernel
theorem dX11_clock_52 : decode cX11_clock 52 = .ok (.if_icmp .le 9, 3) := by decide +kernel
theorem dX11_clock_55 : decode cX11_clock 55 = .ok (.aload_n 0, 1) := by decide +kernel
theorem dX11_clock_56 : decode cX11_clock 56 = .ok (.iload_n 1, 1) := by decide +kernel
theorem dX11_clock_57 : decode cX11_clock 57 = .ok (.invokevirtual 299, 3) := by decide +kernel
theorem dX11_clock_60 : decode cX11_clock 60 = .ok (.ireturn, 1) := by decide +kernel
theorem dX11_clock_61 : decode cX11_clock 61 = .ok (.iload_n 3, 1) := by decide +kernel
theorem dX11_clock_62 : decode cX11_clock 62 = .ok (.iconst 1, 1) := by decide +kernel
theorem dX11_clock_63 : decode cX11_clock 63 = .ok (.if_icmp .ne 34, 3) := by decide +kernel
theorem dX11_clock_66 : decode cX11_clock 66 = .ok (.aload_n 0, 1) := by decide +kernel
theorem dX11_clock_67 : decode cX11_clock 67 = .ok (.iload_n 1, 1) := by decide +kernel
theorem dX11_clock_68 : decode cX11_clock 68 = .ok (.iload 4, 2) := by decide +kernel
theorem dX11_clock_70 : decode cX11_clock 70 = .ok (.aload_n 0, 1) := by decide +kernel
theorem dX11_clock_71 : decode cX11_clock 71 = .ok (.getfield 291, 3) := by decide +kernel
theorem dX11_clock_74 : decode cX11_clock 74 = .ok (.invokevirtual 313, 3) := by decide +kernel
theorem dX11_clock_77 : decode cX11_clock 77 = .ok (.aload_n 0, 1) := by decide +kernel
theorem dX11_clock_78 : decode cX11_clock 78 = .ok (.iload_n 1, 1) := by decide +kernel
theorem dX11_clock_79 : decode cX11_clock 79 = .ok (.aload_n 0, 1) := by decide +kernel
theorem dX11_clock_80 : decode cX11_clock 80 = .ok (.getfield 48, 3) := by decide +kernel
theorem dX11_clock_83 : decode cX11_clock 83 = .ok (.iload_n 1, 1) := by decide +kernel
theorem dX11_clock_84 : decode cX11_clock 84 = .ok (.iaload, 1) := by decide +kernel
theorem dX11_clock_85 : decode cX11_clock 85 = .ok (.iconst 4, 1) := by decide +kernel
theorem dX11_clock_86 : decode cX11_clock 86 = .ok (.iadd, 1) := by decide +kernel
theorem dX11_clock_87 : decode cX11_clock 87 = .ok (.aload_n 0, 1) := by decide +kernel
theorem dX11_clock_88 : decode cX11_clock 88 = .ok (.getfield 291, 3) := by decide +kernel
theorem dX11_clock_91 : decode cX11_clock 91 = .ok (.iconst 4, 1) := by decide +kernel
theorem dX11_clock_92 : decode cX11_clock 92 = .ok (.iadd, 1) := by decide +kernel
theorem dX11_clock_93 : decode cX11_clock 93 = .ok (.invokevirtual 319, 3) := by decide +kernel
theorem dX11_clock_96 : decode cX11_clock 96 = .ok (.ireturn, 1) := by decide +kernel
theorem dX11_clock_97 : decode cX11_clock 97 = .ok (.aload_n 0, 1) := by decide +kernel
theorem dX11_clock_98 : decode cX11_clock 98 = .ok (.getfield 291, 3) := by decide +kernel
theorem dX11_clock_101 : decode cX11_clock 101 = .ok (.aload_n 0, 1) := by decide +kernel
theorem dX11_clock_102 : decode cX11_clock 102 = .ok (.getfield 60, 3) := by decide +kernel
theorem dX11_clock_105 : decode cX11_clock 105 = .ok (.iconst 4, 1) := by decide +kernel
theorem dX11_clock_106 : decode cX11_clock 106 = .ok (.iload_n 1, 1) := by decide +kernel
theorem dX11_clock_107 : decode cX11_clock 107 = .ok (.imul, 1) := by decide +kernel
theorem dX11_clock_108 : decode cX11_clock 108 = .ok (.iload 4, 2) := by decide +kernel
theorem dX11_clock_110 : decode cX11_clock 110 = .ok (.iadd, 1) := by decide +kernel
theorem dX11_clock_111 : decode cX11_clock 111 = .ok (.iaload, 1) := by decide +kernel
theorem dX11_clock_112 : decode cX11_clock 112 = .ok (.if_icmp .ge 5, 3) := by decide +kernel
theorem dX11_clock_115 : decode cX11_clock 115 = .ok (.iconst 0, 1) := by decide +kernel
theorem dX11_clock_116 : decode cX11_clock 116 = .ok (.ireturn, 1) := by decide +kernel
theorem dX11_clock_117 : decode cX11_clock 117 = .ok (.aload_n 0, 1) := by decide +kernel
theorem dX11_clock_118 : decode cX11_clock 118 = .ok (.getfield 291, 3) := by decide +kernel
theorem dX11_clock_121 : decode cX11_clock 121 = .ok (.i2l, 1) := by decide +kernel
theorem dX11_clock_122 : decode cX11_clock 122 = .ok (.aload_n 0, 1) := by decide +kernel
theorem dX11_clock_123 : decode cX11_clock 123 = .ok (.getfield 45, 3) := by decide +kernel
theorem dX11_clock_126 : decode cX11_clock 126 = .ok (.bipush 16, 2) := by decide +kernel
theorem dX11_clock_128 : decode cX11_clock 128 = .ok (.iload_n 1, 1) := by decide +kernel
theorem dX11_clock_129 : decode cX11_clock 129 = .ok (.imul, 1) := by decide +kernel
theorem dX11_clock_130 : decode cX11_clock 130 = .ok (.iload 5, 2) := by decide +kernel
theorem dX11_clock_132 : decode cX11_clock 132 = .ok (.iadd, 1) := by decide +kernel
theorem dX11_clock_133 : decode cX11_clock 133 = .ok (.iaload, 1) := by decide +kernel
theorem dX11_clock_134 : decode cX11_clock 134 = .ok (.i2l, 1) := by decide +kernel
theorem dX11_clock_135 : decode cX11_clock 135 = .ok (.ladd, 1) := by decide +kernel
theorem dX11_clock_136 : decode cX11_clock 136 = .ok (.iload_n 2, 1) := by decide +kernel
theorem dX11_clock_137 : decode cX11_clock 137 = .ok (.bipush 20, 2) := by decide +kernel
theorem dX11_clock_139 : decode cX11_clock 139 = .ok (.ishr, 1) := by decide +kernel
theorem dX11_clock_140 : decode cX11_clock 140 = .ok (.i2l, 1) := by decide +kernel
theorem dX11_clock_141 : decode cX11_clock 141 = .ok (.ladd, 1) := by decide +kernel
theorem dX11_clock_142 : decode cX11_clock 142 = .ok (.lstore 6, 2) := by decide +kernel
theorem dX11_clock_144 : decode cX11_clock 144 = .ok (.aload_n 0, 1) := by decide +kernel
theorem dX11_clock_145 : decode cX11_clock 145 = .ok (.getfield 60, 3) := by decide +kernel
theorem dX11_clock_148 : decode cX11_clock 148 = .ok (.iconst 4, 1) := by decide +kernel
theorem dX11_clock_149 : decode cX11_clock 149 = .ok (.iload_n 1, 1) := by decide +kernel
theorem dX11_clock_150 : decode cX11_clock 150 = .ok (.imul, 1) := by decide +kernel
theorem dX11_clock_151 : decode cX11_clock 151 = .ok (.iload 4, 2) := by decide +kernel
theorem dX11_clock_153 : decode cX11_clock 153 = .ok (.iadd, 1) := by decide +kernel
theorem dX11_clock_154 : decode cX11_clock 154 = .ok (.lload 6, 2) := by decide +kernel
theorem dX11_clock_156 : decode cX11_clock 156 = .ok (.aload_n 0, 1) := by decide +kernel
theorem dX11_clock_157 : decode cX11_clock 157 = .ok (.getfield 291, 3) := by decide +kernel
theorem dX11_clock_160 : decode cX11_clock 160 = .ok (.i2l, 1) := by decide +kernel
theorem dX11_clock_161 : decode cX11_clock 161 = .ok (.lcmp, 1) := by decide +kernel
theorem dX11_clock_162 : decode cX11_clock 162 = .ok (.ifCond .ge 10, 3) := by decide +kernel
theorem dX11_clock_165 : decode cX11_clock 165 = .ok (.aload_n 0, 1) := by decide +kernel
theorem dX11_clock_166 : decode cX11_clock 166 = .ok (.getfield 291, 3) := by decide +kernel
theorem dX11_clock_169 : decode cX11_clock 169 = .ok (.goto 21, 3) := by decide +kernel
theorem dX11_clock_172 : decode cX11_clock 172 = .ok (.lload 6, 2) := by decide +kernel
theorem dX11_clock_174 : decode cX11_clock 174 = .ok (.ldc2_w 330, 3) := by decide +kernel
theorem dX11_clock_177 : decode cX11_clock 177 = .ok (.lcmp, 1) := by decide +kernel
theorem dX11_clock_178 : decode cX11_clock 178 = .ok (.ifCond .le 9, 3) := by decide +kernel
theorem dX11_clock_181 : decode cX11_clock 181 = .ok (.ldc_w 332, 3) := by decide +kernel
theorem dX11_clock_184 : decode cX11_clock 184 = .ok (.goto 6, 3) := by decide +kernel
theorem dX11_clock_187 : decode cX11_clock 187 = .ok (.lload 6, 2) := by decide +kernel
theorem dX11_clock_189 : decode cX11_clock 189 = .ok (.l2i, 1) := by decide +kernel
theorem dX11_clock_190 : decode cX11_clock 190 = .ok (.iastore, 1) := by decide +kernel
theorem dX11_clock_191 : decode cX11_clock 191 = .ok (.aload_n 0, 1) := by decide +kernel
theorem dX11_clock_192 : decode cX11_clock 192 = .ok (.iload_n 1, 1) := by decide +kernel
theorem dX11_clock_193 : decode cX11_clock 193 = .ok (.aload_n 0, 1) := by decide +kernel
theorem dX11_clock_194 : decode cX11_clock 194 = .ok (.getfield 48, 3) := by decide +kernel
theorem dX11_clock_197 : decode cX11_clock 197 = .ok (.iload_n 1, 1) := by decide +kernel
theorem dX11_clock_198 : decode cX11_clock 198 = .ok (.iaload, 1) := by decide +kernel
theorem dX11_clock_199 : decode cX11_clock 199 = .ok (.iconst 4, 1) := by decide +kernel
theorem dX11_clock_200 : decode cX11_clock 200 = .ok (.iadd, 1) := by decide +kernel
theorem dX11_clock_201 : decode cX11_clock 201 = .ok (.aload_n 0, 1) := by decide +kernel
theorem dX11_clock_202 : decode cX11_clock 202 = .ok (.getfield 291, 3) := by decide +kernel
theorem dX11_clock_205 : decode cX11_clock 205 = .ok (.iconst 4, 1) := by decide +kernel
theorem dX11_clock_206 : decode cX11_clock 206 = .ok (.iadd, 1) := by decide +kernel
theorem dX11_clock_207 : decode cX11_clock 207 = .ok (.invokevirtual 319, 3) := by decide +kernel
theorem dX11_clock_210 : decode cX11_clock 210 = .ok (.ireturn, 1) := by decide +kernel
theorem dX11_turn_0 : decode cX11_turn 0 = .ok (.aload_n 0, 1) := by decide +kernel
theorem dX11_turn_1 : decode cX11_turn 1 = .ok (.getfield 51, 3) := by decide +kernel
theorem dX11_turn_4 : decode cX11_turn 4 = .ok (.iload_n 1, 1) := by decide +kernel
theorem dX11_turn_5 : decode cX11_turn 5 = .ok (.iaload, 1) := by decide +kernel
theorem dX11_turn_6 : decode cX11_turn 6 = .ok (.iconst 1, 1) := by decide +kernel
theorem dX11_turn_7 : decode cX11_turn 7 = .ok (.if_icmp .ne 16, 3) := by decide +kernel
theorem dX11_turn_10 : decode cX11_turn 10 = .ok (.aload_n 0, 1) := by decide +kernel
theorem dX11_turn_11 : decode cX11_turn 11 = .ok (.getfield 291, 3) := by decide +kernel
theorem dX11_turn_14 : decode cX11_turn 14 = .ok (.aload_n 0, 1) := by decide +kernel
theorem dX11_turn_15 : decode cX11_turn 15 = .ok (.getfield 57, 3) := by decide +kernel
theorem dX11_turn_18 : decode cX11_turn 18 = .ok (.iload_n 1, 1) := by decide +kernel
theorem dX11_turn_19 : decode cX11_turn 19 = .ok (.iaload, 1) := by decide +kernel
theorem dX11_turn_20 : decode cX11_turn 20 = .ok (.if_icmp .ge 5, 3) := by decide +kernel
theorem dX11_turn_23 : decode cX11_turn 23 = .ok (.iconst 0, 1) := by decide +kernel
theorem dX11_turn_24 : decode cX11_turn 24 = .ok (.ireturn, 1) := by decide +kernel
theorem dX11_turn_25 : decode cX11_turn 25 = .ok (.aload_n 0, 1) := by decide +kernel
theorem dX11_turn_26 : decode cX11_turn 26 = .ok (.getfield 48, 3) := by decide +kernel
theorem dX11_turn_29 : decode cX11_turn 29 = .ok (.iload_n 1, 1) := by decide +kernel
theorem dX11_turn_30 : decode cX11_turn 30 = .ok (.iaload, 1) := by decide +kernel
theorem dX11_turn_31 : decode cX11_turn 31 = .ok (.istore_n 2, 1) := by decide +kernel
theorem dX11_turn_32 : decode cX11_turn 32 = .ok (.iload_n 2, 1) := by decide +kernel
theorem dX11_turn_33 : decode cX11_turn 33 = .ok (.iconst 3, 1) := by decide +kernel
theorem dX11_turn_34 : decode cX11_turn 34 = .ok (.iand, 1) := by decide +kernel
theorem dX11_turn_35 : decode cX11_turn 35 = .ok (.ifCond .ne 10, 3) := by decide +kernel
theorem dX11_turn_38 : decode cX11_turn 38 = .ok (.iload_n 2, 1) := by decide +kernel
theorem dX11_turn_39 : decode cX11_turn 39 = .ok (.invokestatic 288, 3) := by decide +kernel
theorem dX11_turn_42 : decode cX11_turn 42 = .ok (.ifCond .ne 9, 3) := by decide +kernel
theorem dX11_turn_45 : decode cX11_turn 45 = .ok (.aload_n 0, 1) := by decide +kernel
theorem dX11_turn_46 : decode cX11_turn 46 = .ok (.iload_n 1, 1) := by decide +kernel
theorem dX11_turn_47 : decode cX11_turn 47 = .ok (.invokevirtual 299, 3) := by decide +kernel
theorem dX11_turn_50 : decode cX11_turn 50 = .ok (.ireturn, 1) := by decide +kernel
theorem dX11_turn_51 : decode cX11_turn 51 = .ok (.aload_n 0, 1) := by decide +kernel
theorem dX11_turn_52 : decode cX11_turn 52 = .ok (.getfield 33, 3) := by decide +kernel
theorem dX11_turn_55 : decode cX11_turn 55 = .ok (.sipush 128, 3) := by decide +kernel
theorem dX11_turn_58 : decode cX11_turn 58 = .ok (.iload_n 1, 1) := by decide +kernel
theorem dX11_turn_59 : decode cX11_turn 59 = .ok (.imul, 1) := by decide +kernel
theorem dX11_turn_60 : decode cX11_turn 60 = .ok (.iload_n 2, 1) := by decide +kernel
theorem dX11_turn_61 : decode cX11_turn 61 = .ok (.iconst 4, 1) := by decide +kernel
theorem dX11_turn_62 : decode cX11_turn 62 = .ok (.idiv, 1) := by decide +kernel
theorem dX11_turn_63 : decode cX11_turn 63 = .ok (.iadd, 1) := by decide +kernel
theorem dX11_turn_64 : decode cX11_turn 64 = .ok (.iaload, 1) := by decide +kernel
theorem dX11_turn_65 : decode cX11_turn 65 = .ok (.istore_n 3, 1) := by decide +kernel
theorem dX11_turn_66 : decode cX11_turn 66 = .ok (.iload_n 3, 1) := by decide +kernel
theorem dX11_turn_67 : decode cX11_turn 67 = .ok (.bipush 127, 2) := by decide +kernel
theorem dX11_turn_69 : decode cX11_turn 69 = .ok (.iand, 1) := by decide +kernel
theorem dX11_turn_70 : decode cX11_turn 70 = .ok (.lookupswitch 196 #[(3, 157), (11, 189), (19, 173), (35, 165), (51, 181), (55, 82), (99, 150), (103, 142), (111, 134)], 82) := by decide +kernel
theorem dX11_turn_152 : decode cX11_turn 152 = .ok (.iload_n 3, 1) := by decide +kernel
theorem dX11_turn_153 : decode cX11_turn 153 = .ok (.bipush 7, 2) := by decide +kernel
theorem dX11_turn_155 : decode cX11_turn 155 = .ok (.ishr, 1) := by decide +kernel
theorem dX11_turn_156 : decode cX11_turn 156 = .ok (.bipush 31, 2) := by decide +kernel
theorem dX11_turn_158 : decode cX11_turn 158 = .ok (.iand, 1) := by decide +kernel
theorem dX11_turn_159 : decode cX11_turn 159 = .ok (.bipush 15, 2) := by decide +kernel
theorem dX11_turn_161 : decode cX11_turn 161 = .ok (.if_icmp .le 9, 3) := by decide +kernel
theorem dX11_turn_164 : decode cX11_turn 164 = .ok (.aload_n 0, 1) := by decide +kernel
theorem dX11_turn_165 : decode cX11_turn 165 = .ok (.iload_n 1, 1) := by decide +kernel
theorem dX11_turn_166 : decode cX11_turn 166 = .ok (.invokevirtual 299, 3) := by decide +kernel
theorem dX11_turn_169 : decode cX11_turn 169 = .ok (.ireturn, 1) := by decide +kernel
theorem dX11_turn_170 : decode cX11_turn 170 = .ok (.aload_n 0, 1) := by decide +kernel
theorem dX11_turn_171 : decode cX11_turn 171 = .ok (.iload_n 1, 1) := by decide +kernel
theorem dX11_turn_172 : decode cX11_turn 172 = .ok (.iload_n 3, 1) := by decide +kernel
theorem dX11_turn_173 : decode cX11_turn 173 = .ok (.bipush 7, 2) := by decide +kernel
theorem dX11_turn_175 : decode cX11_turn 175 = .ok (.ishr, 1) := by decide +kernel
theorem dX11_turn_176 : decode cX11_turn 176 = .ok (.bipush 31, 2) := by decide +kernel
theorem dX11_turn_178 : decode cX11_turn 178 = .ok (.iand, 1) := by decide +kernel
theorem dX11_turn_179 : decode cX11_turn 179 = .ok (.iload_n 3, 1) := by decide +kernel
theorem dX11_turn_180 : decode cX11_turn 180 = .ok (.bipush 12, 2) := by decide +kernel
theorem dX11_turn_182 : decode cX11_turn 182 = .ok (.ishr, 1) := by decide +kernel
theorem dX11_turn_183 : decode cX11_turn 183 = .ok (.bipush 12, 2) := by decide +kernel
theorem dX11_turn_185 : decode cX11_turn 185 = .ok (.ishl, 1) := by decide +kernel
theorem dX11_turn_186 : decode cX11_turn 186 = .ok (.invokevirtual 313, 3) := by decide +kernel
theorem dX11_turn_189 : decode cX11_turn 189 = .ok (.aload_n 0, 1) := by decide +kernel
theorem dX11_turn_190 : decode cX11_turn 190 = .ok (.iload_n 1, 1) := by decide +kernel
theorem dX11_turn_191 : decode cX11_turn 191 = .ok (.iload_n 2, 1) := by decide +kernel
theorem dX11_turn_192 : decode cX11_turn 192 = .ok (.iconst 4, 1) := by decide +kernel
theorem dX11_turn_193 : decode cX11_turn 193 = .ok (.iadd, 1) := by decide +kernel
theorem dX11_turn_194 : decode cX11_turn 194 = .ok (.aload_n 0, 1) := by decide +kernel
theorem dX11_turn_195 : decode cX11_turn 195 = .ok (.getfield 291, 3) := by decide +kernel
theorem dX11_turn_198 : decode cX11_turn 198 = .ok (.iconst 4, 1) := by decide +kernel
theorem dX11_turn_199 : decode cX11_turn 199 = .ok (.iadd, 1) := by decide +kernel
theorem dX11_turn_200 : decode cX11_turn 200 = .ok (.invokevirtual 319, 3) := by decide +kernel
theorem dX11_turn_203 : decode cX11_turn 203 = .ok (.ireturn, 1) := by decide +kernel
theorem dX11_turn_204 : decode cX11_turn 204 = .ok (.aload_n 0, 1) := by decide +kernel
theorem dX11_turn_205 : decode cX11_turn 205 = .ok (.iload_n 1, 1) := by decide +kernel
theorem dX11_turn_206 : decode cX11_turn 206 = .ok (.iload_n 3, 1) := by decide +kernel
theorem dX11_turn_207 : decode cX11_turn 207 = .ok (.iconst 0, 1) := by decide +kernel
theorem dX11_turn_208 : decode cX11_turn 208 = .ok (.invokevirtual 333, 3) := by decide +kernel
theorem dX11_turn_211 : decode cX11_turn 211 = .ok (.ireturn, 1) := by decide +kernel
theorem dX11_turn_212 : decode cX11_turn 212 = .ok (.aload_n 0, 1) := by decide +kernel
theorem dX11_turn_213 : decode cX11_turn 213 = .ok (.iload_n 1, 1) := by decide +kernel
theorem dX11_turn_214 : decode cX11_turn 214 = .ok (.iload_n 3, 1) := by decide +kernel
theorem dX11_turn_215 : decode cX11_turn 215 = .ok (.iconst 1, 1) := by decide +kernel
theorem dX11_turn_216 : decode cX11_turn 216 = .ok (.invokevirtual 333, 3) := by decide +kernel
theorem dX11_turn_219 : decode cX11_turn 219 = .ok (.ireturn, 1) := by decide +kernel
theorem dX11_turn_220 : decode cX11_turn 220 = .ok (.aload_n 0, 1) := by decide +kernel
theorem dX11_turn_221 : decode cX11_turn 221 = .ok (.iload_n 1, 1) := by decide +kernel
theorem dX11_turn_222 : decode cX11_turn 222 = .ok (.iload_n 3, 1) := by decide +kernel
theorem dX11_turn_223 : decode cX11_turn 223 = .ok (.invokevirtual 337, 3) := by decide +kernel
theorem dX11_turn_226 : decode cX11_turn 226 = .ok (.ireturn, 1) := by decide +kernel
theorem dX11_turn_227 : decode cX11_turn 227 = .ok (.aload_n 0, 1) := by decide +kernel
theorem dX11_turn_228 : decode cX11_turn 228 = .ok (.iload_n 1, 1) := by decide +kernel
theorem dX11_turn_229 : decode cX11_turn 229 = .ok (.iload_n 3, 1) := by decide +kernel
theorem dX11_turn_230 : decode cX11_turn 230 = .ok (.iconst 0, 1) := by decide +kernel
theorem dX11_turn_231 : decode cX11_turn 231 = .ok (.invokevirtual 340, 3) := by decide +kernel
theorem dX11_turn_234 : decode cX11_turn 234 = .ok (.ireturn, 1) := by decide +kernel
theorem dX11_turn_235 : decode cX11_turn 235 = .ok (.aload_n 0, 1) := by decide +kernel
theorem dX11_turn_236 : decode cX11_turn 236 = .ok (.iload_n 1, 1) := by decide +kernel
theorem dX11_turn_237 : decode cX11_turn 237 = .ok (.iload_n 3, 1) := by decide +kernel
theorem dX11_turn_238 : decode cX11_turn 238 = .ok (.iconst 1, 1) := by decide +kernel
theorem dX11_turn_239 : decode cX11_turn 239 = .ok (.invokevirtual 340, 3) := by decide +kernel
theorem dX11_turn_242 : decode cX11_turn 242 = .ok (.ireturn, 1) := by decide +kernel
theorem dX11_turn_243 : decode cX11_turn 243 = .ok (.aload_n 0, 1) := by decide +kernel
theorem dX11_turn_244 : decode cX11_turn 244 = .ok (.iload_n 1, 1) := by decide +kernel
theorem dX11_turn_245 : decode cX11_turn 245 = .ok (.iload_n 3, 1) := by decide +kernel
theorem dX11_turn_246 : decode cX11_turn 246 = .ok (.iconst 0, 1) := by decide +kernel
theorem dX11_turn_247 : decode cX11_turn 247 = .ok (.invokevirtual 343, 3) := by decide +kernel
theorem dX11_turn_250 : decode cX11_turn 250 = .ok (.ireturn, 1) := by decide +kernel
theorem dX11_turn_251 : decode cX11_turn 251 = .ok (.aload_n 0, 1) := by decide +kernel
theorem dX11_turn_252 : decode cX11_turn 252 = .ok (.iload_n 1, 1) := by decide +kernel
theorem dX11_turn_253 : decode cX11_turn 253 = .ok (.iload_n 3, 1) := by decide +kernel
theorem dX11_turn_254 : decode cX11_turn 254 = .ok (.iconst 1, 1) := by decide +kernel
theorem dX11_turn_255 : decode cX11_turn 255 = .ok (.invokevirtual 343, 3) := by decide +kernel
theorem dX11_turn_258 : decode cX11_turn 258 = .ok (.ireturn, 1) := by decide +kernel
theorem dX11_turn_259 : decode cX11_turn 259 = .ok (.aload_n 0, 1) := by decide +kernel
theorem dX11_turn_260 : decode cX11_turn 260 = .ok (.iload_n 1, 1) := by decide +kernel
theorem dX11_turn_261 : decode cX11_turn 261 = .ok (.iload_n 3, 1) := by decide +kernel
theorem dX11_turn_262 : decode cX11_turn 262 = .ok (.invokevirtual 346, 3) := by decide +kernel
theorem dX11_turn_265 : decode cX11_turn 265 = .ok (.ireturn, 1) := by decide +kernel
theorem dX11_turn_266 : decode cX11_turn 266 = .ok (.iload_n 3, 1) := by decide +kernel
theorem dX11_turn_267 : decode cX11_turn 267 = .ok (.bipush 115, 2) := by decide +kernel
theorem dX11_turn_269 : decode cX11_turn 269 = .ok (.if_icmp .eq 9, 3) := by decide +kernel
theorem dX11_turn_272 : decode cX11_turn 272 = .ok (.aload_n 0, 1) := by decide +kernel
theorem dX11_turn_273 : decode cX11_turn 273 = .ok (.iload_n 1, 1) := by decide +kernel
theorem dX11_turn_274 : decode cX11_turn 274 = .ok (.invokevirtual 299, 3) := by decide +kernel
theorem dX11_turn_277 : decode cX11_turn 277 = .ok (.ireturn, 1) := by decide +kernel
theorem dX11_turn_278 : decode cX11_turn 278 = .ok (.aload_n 0, 1) := by decide +kernel
theorem dX11_turn_279 : decode cX11_turn 279 = .ok (.getfield 51, 3) := by decide +kernel
theorem dX11_turn_282 : decode cX11_turn 282 = .ok (.iload_n 1, 1) := by decide +kernel
theorem dX11_turn_283 : decode cX11_turn 283 = .ok (.iconst 2, 1) := by decide +kernel
theorem dX11_turn_284 : decode cX11_turn 284 = .ok (.iastore, 1) := by decide +kernel
theorem dX11_turn_285 : decode cX11_turn 285 = .ok (.aload_n 0, 1) := by decide +kernel
theorem dX11_turn_286 : decode cX11_turn 286 = .ok (.iload_n 1, 1) := by decide +kernel
theorem dX11_turn_287 : decode cX11_turn 287 = .ok (.iload_n 2, 1) := by decide +kernel
theorem dX11_turn_288 : decode cX11_turn 288 = .ok (.iconst 4, 1) := by decide +kernel
theorem dX11_turn_289 : decode cX11_turn 289 = .ok (.iadd, 1) := by decide +kernel
theorem dX11_turn_290 : decode cX11_turn 290 = .ok (.aload_n 0, 1) := by decide +kernel
theorem dX11_turn_291 : decode cX11_turn 291 = .ok (.getfield 291, 3) := by decide +kernel
theorem dX11_turn_294 : decode cX11_turn 294 = .ok (.iconst 4, 1) := by decide +kernel
theorem dX11_turn_295 : decode cX11_turn 295 = .ok (.iadd, 1) := by decide +kernel
theorem dX11_turn_296 : decode cX11_turn 296 = .ok (.invokevirtual 319, 3) := by decide +kernel
theorem dX11_turn_299 : decode cX11_turn 299 = .ok (.ireturn, 1) := by decide +kernel
theorem dX11_run_0 : decode cX11_run 0 = .ok (.aload_n 0, 1) := by decide +kernel
theorem dX11_run_1 : decode cX11_run 1 = .ok (.iconst 0, 1) := by decide +kernel
theorem dX11_run_2 : decode cX11_run 2 = .ok (.putfield 70, 3) := by decide +kernel
theorem dX11_run_5 : decode cX11_run 5 = .ok (.iload_n 1, 1) := by decide +kernel
theorem dX11_run_6 : decode cX11_run 6 = .ok (.ifCond .lt 10, 3) := by decide +kernel
theorem dX11_run_9 : decode cX11_run 9 = .ok (.iload_n 1, 1) := by decide +kernel
theorem dX11_run_10 : decode cX11_run 10 = .ok (.sipush 2000, 3) := by decide +kernel
theorem dX11_run_13 : decode cX11_run 13 = .ok (.if_icmp .le 5, 3) := by decide +kernel
theorem dX11_run_16 : decode cX11_run 16 = .ok (.iconst (-1), 1) := by decide +kernel
theorem dX11_run_17 : decode cX11_run 17 = .ok (.ireturn, 1) := by decide +kernel
theorem dX11_run_18 : decode cX11_run 18 = .ok (.iconst 0, 1) := by decide +kernel
theorem dX11_run_19 : decode cX11_run 19 = .ok (.istore_n 2, 1) := by decide +kernel
theorem dX11_run_20 : decode cX11_run 20 = .ok (.iconst 0, 1) := by decide +kernel
theorem dX11_run_21 : decode cX11_run 21 = .ok (.istore_n 3, 1) := by decide +kernel
theorem dX11_run_22 : decode cX11_run 22 = .ok (.iload_n 3, 1) := by decide +kernel
theorem dX11_run_23 : decode cX11_run 23 = .ok (.iload_n 1, 1) := by decide +kernel
theorem dX11_run_24 : decode cX11_run 24 = .ok (.if_icmp .ge 32, 3) := by decide +kernel
theorem dX11_run_27 : decode cX11_run 27 = .ok (.iload_n 2, 1) := by decide +kernel
theorem dX11_run_28 : decode cX11_run 28 = .ok (.aload_n 0, 1) := by decide +kernel
theorem dX11_run_29 : decode cX11_run 29 = .ok (.aload_n 0, 1) := by decide +kernel
theorem dX11_run_30 : decode cX11_run 30 = .ok (.getfield 291, 3) := by decide +kernel
theorem dX11_run_33 : decode cX11_run 33 = .ok (.iconst 4, 1) := by decide +kernel
theorem dX11_run_34 : decode cX11_run 34 = .ok (.irem, 1) := by decide +kernel
theorem dX11_run_35 : decode cX11_run 35 = .ok (.invokevirtual 349, 3) := by decide +kernel
theorem dX11_run_38 : decode cX11_run 38 = .ok (.iadd, 1) := by decide +kernel
theorem dX11_run_39 : decode cX11_run 39 = .ok (.istore_n 2, 1) := by decide +kernel
theorem dX11_run_40 : decode cX11_run 40 = .ok (.aload_n 0, 1) := by decide +kernel
theorem dX11_run_41 : decode cX11_run 41 = .ok (.dup, 1) := by decide +kernel
theorem dX11_run_42 : decode cX11_run 42 = .ok (.getfield 291, 3) := by decide +kernel
theorem dX11_run_45 : decode cX11_run 45 = .ok (.iconst 1, 1) := by decide +kernel
theorem dX11_run_46 : decode cX11_run 46 = .ok (.iadd, 1) := by decide +kernel
theorem dX11_run_47 : decode cX11_run 47 = .ok (.putfield 291, 3) := by decide +kernel
theorem dX11_run_50 : decode cX11_run 50 = .ok (.iinc 3 1, 3) := by decide +kernel
theorem dX11_run_53 : decode cX11_run 53 = .ok (.goto (-31), 3) := by decide +kernel
theorem dX11_run_56 : decode cX11_run 56 = .ok (.iload_n 2, 1) := by decide +kernel
theorem dX11_run_57 : decode cX11_run 57 = .ok (.ireturn, 1) := by decide +kernel
theorem dX11_now_0 : decode cX11_now 0 = .ok (.aload_n 0, 1) := by decide +kernel
theorem dX11_now_1 : decode cX11_now 1 = .ok (.iconst 0, 1) := by decide +kernel
theorem dX11_now_2 : decode cX11_now 2 = .ok (.putfield 70, 3) := by decide +kernel
theorem dX11_now_5 : decode cX11_now 5 = .ok (.aload_n 0, 1) := by decide +kernel
theorem dX11_now_6 : decode cX11_now 6 = .ok (.getfield 291, 3) := by decide +kernel
theorem dX11_now_9 : decode cX11_now 9 = .ok (.ireturn, 1) := by decide +kernel
theorem dX11_register_0 : decode cX11_register 0 = .ok (.aload_n 0, 1) := by decide +kernel
theorem dX11_register_1 : decode cX11_register 1 = .ok (.iconst 0, 1) := by decide +kernel
theorem dX11_register_2 : decode cX11_register 2 = .ok (.putfield 70, 3) := by decide +kernel
theorem dX11_register_5 : decode cX11_register 5 = .ok (.iload_n 1, 1) := by decide +kernel
theorem dX11_register_6 : decode cX11_register 6 = .ok (.ifCond .lt 18, 3) := by decide +kernel
theorem dX11_register_9 : decode cX11_register 9 = .ok (.iload_n 1, 1) := by decide +kernel
theorem dX11_register_10 : decode cX11_register 10 = .ok (.iconst 3, 1) := by decide +kernel
theorem dX11_register_11 : decode cX11_register 11 = .ok (.if_icmp .gt 13, 3) := by decide +kernel
theorem dX11_register_14 : decode cX11_register 14 = .ok (.iload_n 2, 1) := by decide +kernel
theorem dX11_register_15 : decode cX11_register 15 = .ok (.ifCond .lt 9, 3) := by decide +kernel
theorem dX11_register_18 : decode cX11_register 18 = .ok (.iload_n 2, 1) := by decide +kernel
theorem dX11_register_19 : decode cX11_register 19 = .ok (.bipush 15, 2) := by decide +kernel
theorem dX11_register_21 : decode cX11_register 21 = .ok (.if_icmp .le 7, 3) := by decide +kernel
theorem dX11_register_24 : decode cX11_register 24 = .ok (.iconst 0, 1) := by decide +kernel
theorem dX11_register_25 : decode cX11_register 25 = .ok (.goto 14, 3) := by decide +kernel
theorem dX11_register_28 : decode cX11_register 28 = .ok (.aload_n 0, 1) := by decide +kernel
theorem dX11_register_29 : decode cX11_register 29 = .ok (.getfield 45, 3) := by decide +kernel
theorem dX11_register_32 : decode cX11_register 32 = .ok (.bipush 16, 2) := by decide +kernel
theorem dX11_register_34 : decode cX11_register 34 = .ok (.iload_n 1, 1) := by decide +kernel
theorem dX11_register_35 : decode cX11_register 35 = .ok (.imul, 1) := by decide +kernel
theorem dX11_register_36 : decode cX11_register 36 = .ok (.iload_n 2, 1) := by decide +kernel
theorem dX11_register_37 : decode cX11_register 37 = .ok (.iadd, 1) := by decide +kernel
theorem dX11_register_38 : decode cX11_register 38 = .ok (.iaload, 1) := by decide +kernel
theorem dX11_register_39 : decode cX11_register 39 = .ok (.ireturn, 1) := by decide +kernel
theorem dX11_state_0 : decode cX11_state 0 = .ok (.aload_n 0, 1) := by decide +kernel
theorem dX11_state_1 : decode cX11_state 1 = .ok (.iconst 0, 1) := by decide +kernel
theorem dX11_state_2 : decode cX11_state 2 = .ok (.putfield 70, 3) := by decide +kernel
theorem dX11_state_5 : decode cX11_state 5 = .ok (.iload_n 1, 1) := by decide +kernel
theorem dX11_state_6 : decode cX11_state 6 = .ok (.ifCond .lt 8, 3) := by decide +kernel
theorem dX11_state_9 : decode cX11_state 9 = .ok (.iload_n 1, 1) := by decide +kernel
theorem dX11_state_10 : decode cX11_state 10 = .ok (.iconst 3, 1) := by decide +kernel
theorem dX11_state_11 : decode cX11_state 11 = .ok (.if_icmp .le 5, 3) := by decide +kernel
theorem dX11_state_14 : decode cX11_state 14 = .ok (.iconst (-1), 1) := by decide +kernel
theorem dX11_state_15 : decode cX11_state 15 = .ok (.ireturn, 1) := by decide +kernel
theorem dX11_state_16 : decode cX11_state 16 = .ok (.iload_n 2, 1) := by decide +kernel
theorem dX11_state_17 : decode cX11_state 17 = .ok (.iconst 4, 1) := by decide +kernel
theorem dX11_state_18 : decode cX11_state 18 = .ok (.if_icmp .lt 22, 3) := by decide +kernel
theorem dX11_state_21 : decode cX11_state 21 = .ok (.iload_n 2, 1) := by decide +kernel
theorem dX11_state_22 : decode cX11_state 22 = .ok (.bipush 7, 2) := by decide +kernel
theorem dX11_state_24 : decode cX11_state 24 = .ok (.if_icmp .gt 16, 3) := by decide +kernel
theorem dX11_state_27 : decode cX11_state 27 = .ok (.aload_n 0, 1) := by decide +kernel
theorem dX11_state_28 : decode cX11_state 28 = .ok (.getfield 60, 3) := by decide +kernel
theorem dX11_state_31 : decode cX11_state 31 = .ok (.iconst 4, 1) := by decide +kernel
theorem dX11_state_32 : decode cX11_state 32 = .ok (.iload_n 1, 1) := by decide +kernel
theorem dX11_state_33 : decode cX11_state 33 = .ok (.imul, 1) := by decide +kernel
theorem dX11_state_34 : decode cX11_state 34 = .ok (.iload_n 2, 1) := by decide +kernel
theorem dX11_state_35 : decode cX11_state 35 = .ok (.iadd, 1) := by decide +kernel
theorem dX11_state_36 : decode cX11_state 36 = .ok (.iconst 4, 1) := by decide +kernel
theorem dX11_state_37 : decode cX11_state 37 = .ok (.isub, 1) := by decide +kernel
theorem dX11_state_38 : decode cX11_state 38 = .ok (.iaload, 1) := by decide +kernel
theorem dX11_state_39 : decode cX11_state 39 = .ok (.ireturn, 1) := by decide +kernel
theorem dX11_state_40 : decode cX11_state 40 = .ok (.iload_n 2, 1) := by decide +kernel
theorem dX11_state_41 : decode cX11_state 41 = .ok (.ifCond .ne 12, 3) := by decide +kernel
theorem dX11_state_44 : decode cX11_state 44 = .ok (.aload_n 0, 1) := by decide +kernel
theorem dX11_state_45 : decode cX11_state 45 = .ok (.getfield 51, 3) := by decide +kernel
theorem dX11_state_48 : decode cX11_state 48 = .ok (.iload_n 1, 1) := by decide +kernel
theorem dX11_state_49 : decode cX11_state 49 = .ok (.iaload, 1) := by decide +kernel
theorem dX11_state_50 : decode cX11_state 50 = .ok (.goto 46, 3) := by decide +kernel
theorem dX11_state_53 : decode cX11_state 53 = .ok (.iload_n 2, 1) := by decide +kernel
theorem dX11_state_54 : decode cX11_state 54 = .ok (.iconst 1, 1) := by decide +kernel
theorem dX11_state_55 : decode cX11_state 55 = .ok (.if_icmp .ne 12, 3) := by decide +kernel
theorem dX11_state_58 : decode cX11_state 58 = .ok (.aload_n 0, 1) := by decide +kernel
theorem dX11_state_59 : decode cX11_state 59 = .ok (.getfield 48, 3) := by decide +kernel
theorem dX11_state_62 : decode cX11_state 62 = .ok (.iload_n 1, 1) := by decide +kernel
theorem dX11_state_63 : decode cX11_state 63 = .ok (.iaload, 1) := by decide +kernel
theorem dX11_state_64 : decode cX11_state 64 = .ok (.goto 32, 3) := by decide +kernel
theorem dX11_state_67 : decode cX11_state 67 = .ok (.iload_n 2, 1) := by decide +kernel
theorem dX11_state_68 : decode cX11_state 68 = .ok (.iconst 2, 1) := by decide +kernel
theorem dX11_state_69 : decode cX11_state 69 = .ok (.if_icmp .ne 12, 3) := by decide +kernel
theorem dX11_state_72 : decode cX11_state 72 = .ok (.aload_n 0, 1) := by decide +kernel
theorem dX11_state_73 : decode cX11_state 73 = .ok (.getfield 54, 3) := by decide +kernel
theorem dX11_state_76 : decode cX11_state 76 = .ok (.iload_n 1, 1) := by decide +kernel
theorem dX11_state_77 : decode cX11_state 77 = .ok (.iaload, 1) := by decide +kernel
theorem dX11_state_78 : decode cX11_state 78 = .ok (.goto 18, 3) := by decide +kernel
theorem dX11_state_81 : decode cX11_state 81 = .ok (.iload_n 2, 1) := by decide +kernel
theorem dX11_state_82 : decode cX11_state 82 = .ok (.iconst 3, 1) := by decide +kernel
theorem dX11_state_83 : decode cX11_state 83 = .ok (.if_icmp .ne 12, 3) := by decide +kernel
theorem dX11_state_86 : decode cX11_state 86 = .ok (.aload_n 0, 1) := by decide +kernel
theorem dX11_state_87 : decode cX11_state 87 = .ok (.getfield 57, 3) := by decide +kernel
theorem dX11_state_90 : decode cX11_state 90 = .ok (.iload_n 1, 1) := by decide +kernel
theorem dX11_state_91 : decode cX11_state 91 = .ok (.iaload, 1) := by decide +kernel
theorem dX11_state_92 : decode cX11_state 92 = .ok (.goto 4, 3) := by decide +kernel
theorem dX11_state_95 : decode cX11_state 95 = .ok (.iconst (-1), 1) := by decide +kernel
theorem dX11_state_96 : decode cX11_state 96 = .ok (.ireturn, 1) := by decide +kernel
theorem dX11_trace_0 : decode cX11_trace 0 = .ok (.aload_n 0, 1) := by decide +kernel
theorem dX11_trace_1 : decode cX11_trace 1 = .ok (.iconst 0, 1) := by decide +kernel
theorem dX11_trace_2 : decode cX11_trace 2 = .ok (.putfield 70, 3) := by decide +kernel
theorem dX11_trace_5 : decode cX11_trace 5 = .ok (.iload_n 1, 1) := by decide +kernel
theorem dX11_trace_6 : decode cX11_trace 6 = .ok (.ifCond .lt 37, 3) := by decide +kernel
theorem dX11_trace_9 : decode cX11_trace 9 = .ok (.iload_n 1, 1) := by decide +kernel
theorem dX11_trace_10 : decode cX11_trace 10 = .ok (.iconst 3, 1) := by decide +kernel
theorem dX11_trace_11 : decode cX11_trace 11 = .ok (.if_icmp .gt 32, 3) := by decide +kernel
theorem dX11_trace_14 : decode cX11_trace 14 = .ok (.iload_n 2, 1) := by decide +kernel
theorem dX11_trace_15 : decode cX11_trace 15 = .ok (.ifCond .lt 28, 3) := by decide +kernel
theorem dX11_trace_18 : decode cX11_trace 18 = .ok (.iload_n 2, 1) := by decide +kernel
theorem dX11_trace_19 : decode cX11_trace 19 = .ok (.bipush 15, 2) := by decide +kernel
theorem dX11_trace_21 : decode cX11_trace 21 = .ok (.if_icmp .gt 22, 3) := by decide +kernel
theorem dX11_trace_24 : decode cX11_trace 24 = .ok (.iload_n 2, 1) := by decide +kernel
theorem dX11_trace_25 : decode cX11_trace 25 = .ok (.aload_n 0, 1) := by decide +kernel
theorem dX11_trace_26 : decode cX11_trace 26 = .ok (.getfield 54, 3) := by decide +kernel
theorem dX11_trace_29 : decode cX11_trace 29 = .ok (.iload_n 1, 1) := by decide +kernel
theorem dX11_trace_30 : decode cX11_trace 30 = .ok (.iaload, 1) := by decide +kernel
theorem dX11_trace_31 : decode cX11_trace 31 = .ok (.if_icmp .ge 12, 3) := by decide +kernel
theorem dX11_trace_34 : decode cX11_trace 34 = .ok (.iload_n 3, 1) := by decide +kernel
theorem dX11_trace_35 : decode cX11_trace 35 = .ok (.ifCond .lt 8, 3) := by decide +kernel
theorem dX11_trace_38 : decode cX11_trace 38 = .ok (.iload_n 3, 1) := by decide +kernel
theorem dX11_trace_39 : decode cX11_trace 39 = .ok (.iconst 2, 1) := by decide +kernel
theorem dX11_trace_40 : decode cX11_trace 40 = .ok (.if_icmp .le 5, 3) := by decide +kernel
theorem dX11_trace_43 : decode cX11_trace 43 = .ok (.iconst (-1), 1) := by decide +kernel
theorem dX11_trace_44 : decode cX11_trace 44 = .ok (.ireturn, 1) := by decide +kernel
theorem dX11_trace_45 : decode cX11_trace 45 = .ok (.aload_n 0, 1) := by decide +kernel
theorem dX11_trace_46 : decode cX11_trace 46 = .ok (.getfield 63, 3) := by decide +kernel
theorem dX11_trace_49 : decode cX11_trace 49 = .ok (.bipush 48, 2) := by decide +kernel
theorem dX11_trace_51 : decode cX11_trace 51 = .ok (.iload_n 1, 1) := by decide +kernel
theorem dX11_trace_52 : decode cX11_trace 52 = .ok (.imul, 1) := by decide +kernel
theorem dX11_trace_53 : decode cX11_trace 53 = .ok (.iconst 3, 1) := by decide +kernel
theorem dX11_trace_54 : decode cX11_trace 54 = .ok (.aload_n 0, 1) := by decide +kernel
theorem dX11_trace_55 : decode cX11_trace 55 = .ok (.getfield 54, 3) := by decide +kernel
theorem dX11_trace_58 : decode cX11_trace 58 = .ok (.iload_n 1, 1) := by decide +kernel
theorem dX11_trace_59 : decode cX11_trace 59 = .ok (.iaload, 1) := by decide +kernel
theorem dX11_trace_60 : decode cX11_trace 60 = .ok (.iconst 1, 1) := by decide +kernel
theorem dX11_trace_61 : decode cX11_trace 61 = .ok (.isub, 1) := by decide +kernel
theorem dX11_trace_62 : decode cX11_trace 62 = .ok (.iload_n 2, 1) := by decide +kernel
theorem dX11_trace_63 : decode cX11_trace 63 = .ok (.isub, 1) := by decide +kernel
theorem dX11_trace_64 : decode cX11_trace 64 = .ok (.bipush 16, 2) := by decide +kernel
theorem dX11_trace_66 : decode cX11_trace 66 = .ok (.irem, 1) := by decide +kernel
theorem dX11_trace_67 : decode cX11_trace 67 = .ok (.imul, 1) := by decide +kernel
theorem dX11_trace_68 : decode cX11_trace 68 = .ok (.iadd, 1) := by decide +kernel
theorem dX11_trace_69 : decode cX11_trace 69 = .ok (.iload_n 3, 1) := by decide +kernel
theorem dX11_trace_70 : decode cX11_trace 70 = .ok (.iadd, 1) := by decide +kernel
theorem dX11_trace_71 : decode cX11_trace 71 = .ok (.iaload, 1) := by decide +kernel
theorem dX11_trace_72 : decode cX11_trace 72 = .ok (.ireturn, 1) := by decide +kernel
