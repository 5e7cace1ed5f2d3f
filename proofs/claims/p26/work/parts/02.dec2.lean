theorem dX7_ofSpring_19 : decode cX7_ofSpring 19 = .ok (.iconst 1, 1) := by decide +kernel
theorem dX7_ofSpring_20 : decode cX7_ofSpring 20 = .ok (.if_icmp .ne 10, 3) := by decide +kernel
theorem dX7_ofSpring_23 : decode cX7_ofSpring 23 = .ok (.aload_n 3, 1) := by decide +kernel
theorem dX7_ofSpring_24 : decode cX7_ofSpring 24 = .ok (.getfield 109, 3) := by decide +kernel
theorem dX7_ofSpring_27 : decode cX7_ofSpring 27 = .ok (.goto 42, 3) := by decide +kernel
theorem dX7_ofSpring_30 : decode cX7_ofSpring 30 = .ok (.iload_n 2, 1) := by decide +kernel
theorem dX7_ofSpring_31 : decode cX7_ofSpring 31 = .ok (.iconst 2, 1) := by decide +kernel
theorem dX7_ofSpring_32 : decode cX7_ofSpring 32 = .ok (.if_icmp .ne 18, 3) := by decide +kernel
theorem dX7_ofSpring_35 : decode cX7_ofSpring 35 = .ok (.aload_n 3, 1) := by decide +kernel
theorem dX7_ofSpring_36 : decode cX7_ofSpring 36 = .ok (.getfield 71, 3) := by decide +kernel
theorem dX7_ofSpring_39 : decode cX7_ofSpring 39 = .ok (.ifCond .eq 7, 3) := by decide +kernel
theorem dX7_ofSpring_42 : decode cX7_ofSpring 42 = .ok (.iconst 1, 1) := by decide +kernel
theorem dX7_ofSpring_43 : decode cX7_ofSpring 43 = .ok (.goto 26, 3) := by decide +kernel
theorem dX7_ofSpring_46 : decode cX7_ofSpring 46 = .ok (.iconst 0, 1) := by decide +kernel
theorem dX7_ofSpring_47 : decode cX7_ofSpring 47 = .ok (.goto 22, 3) := by decide +kernel
theorem dX7_ofSpring_50 : decode cX7_ofSpring 50 = .ok (.iload_n 2, 1) := by decide +kernel
theorem dX7_ofSpring_51 : decode cX7_ofSpring 51 = .ok (.iconst 3, 1) := by decide +kernel
theorem dX7_ofSpring_52 : decode cX7_ofSpring 52 = .ok (.if_icmp .ne 11, 3) := by decide +kernel
theorem dX7_ofSpring_55 : decode cX7_ofSpring 55 = .ok (.aload_n 0, 1) := by decide +kernel
theorem dX7_ofSpring_56 : decode cX7_ofSpring 56 = .ok (.iload_n 1, 1) := by decide +kernel
theorem dX7_ofSpring_57 : decode cX7_ofSpring 57 = .ok (.invokevirtual 78, 3) := by decide +kernel
theorem dX7_ofSpring_60 : decode cX7_ofSpring 60 = .ok (.goto 8, 3) := by decide +kernel
theorem dX7_ofSpring_63 : decode cX7_ofSpring 63 = .ok (.aload_n 0, 1) := by decide +kernel
theorem dX7_ofSpring_64 : decode cX7_ofSpring 64 = .ok (.iload_n 1, 1) := by decide +kernel
theorem dX7_ofSpring_65 : decode cX7_ofSpring 65 = .ok (.invokevirtual 84, 3) := by decide +kernel
theorem dX7_ofSpring_68 : decode cX7_ofSpring 68 = .ok (.l2i, 1) := by decide +kernel
theorem dX7_ofSpring_69 : decode cX7_ofSpring 69 = .ok (.ireturn, 1) := by decide +kernel
theorem dX7_checksum_0 : decode cX7_checksum 0 = .ok (.lconst 0, 1) := by decide +kernel
theorem dX7_checksum_1 : decode cX7_checksum 1 = .ok (.lstore_n 1, 1) := by decide +kernel
theorem dX7_checksum_2 : decode cX7_checksum 2 = .ok (.iconst 0, 1) := by decide +kernel
theorem dX7_checksum_3 : decode cX7_checksum 3 = .ok (.istore_n 3, 1) := by decide +kernel
theorem dX7_checksum_4 : decode cX7_checksum 4 = .ok (.iload_n 3, 1) := by decide +kernel
theorem dX7_checksum_5 : decode cX7_checksum 5 = .ok (.bipush 12, 2) := by decide +kernel
theorem dX7_checksum_7 : decode cX7_checksum 7 = .ok (.if_icmp .ge 22, 3) := by decide +kernel
theorem dX7_checksum_10 : decode cX7_checksum 10 = .ok (.ldc2_w 140, 3) := by decide +kernel
theorem dX7_checksum_13 : decode cX7_checksum 13 = .ok (.lload_n 1, 1) := by decide +kernel
theorem dX7_checksum_14 : decode cX7_checksum 14 = .ok (.lmul, 1) := by decide +kernel
theorem dX7_checksum_15 : decode cX7_checksum 15 = .ok (.aload_n 0, 1) := by decide +kernel
theorem dX7_checksum_16 : decode cX7_checksum 16 = .ok (.iload_n 3, 1) := by decide +kernel
theorem dX7_checksum_17 : decode cX7_checksum 17 = .ok (.invokevirtual 142, 3) := by decide +kernel
theorem dX7_checksum_20 : decode cX7_checksum 20 = .ok (.i2l, 1) := by decide +kernel
theorem dX7_checksum_21 : decode cX7_checksum 21 = .ok (.ladd, 1) := by decide +kernel
theorem dX7_checksum_22 : decode cX7_checksum 22 = .ok (.lstore_n 1, 1) := by decide +kernel
theorem dX7_checksum_23 : decode cX7_checksum 23 = .ok (.iinc 3 1, 3) := by decide +kernel
theorem dX7_checksum_26 : decode cX7_checksum 26 = .ok (.goto (-22), 3) := by decide +kernel
theorem dX7_checksum_29 : decode cX7_checksum 29 = .ok (.iconst 0, 1) := by decide +kernel
theorem dX7_checksum_30 : decode cX7_checksum 30 = .ok (.istore_n 3, 1) := by decide +kernel
theorem dX7_checksum_31 : decode cX7_checksum 31 = .ok (.iload_n 3, 1) := by decide +kernel
theorem dX7_checksum_32 : decode cX7_checksum 32 = .ok (.bipush 8, 2) := by decide +kernel
theorem dX7_checksum_34 : decode cX7_checksum 34 = .ok (.if_icmp .ge 21, 3) := by decide +kernel
theorem dX7_checksum_37 : decode cX7_checksum 37 = .ok (.ldc2_w 140, 3) := by decide +kernel
theorem dX7_checksum_40 : decode cX7_checksum 40 = .ok (.lload_n 1, 1) := by decide +kernel
theorem dX7_checksum_41 : decode cX7_checksum 41 = .ok (.lmul, 1) := by decide +kernel
theorem dX7_checksum_42 : decode cX7_checksum 42 = .ok (.aload_n 0, 1) := by decide +kernel
theorem dX7_checksum_43 : decode cX7_checksum 43 = .ok (.iload_n 3, 1) := by decide +kernel
theorem dX7_checksum_44 : decode cX7_checksum 44 = .ok (.invokevirtual 146, 3) := by decide +kernel
theorem dX7_checksum_47 : decode cX7_checksum 47 = .ok (.ladd, 1) := by decide +kernel
theorem dX7_checksum_48 : decode cX7_checksum 48 = .ok (.lstore_n 1, 1) := by decide +kernel
theorem dX7_checksum_49 : decode cX7_checksum 49 = .ok (.iinc 3 1, 3) := by decide +kernel
theorem dX7_checksum_52 : decode cX7_checksum 52 = .ok (.goto (-21), 3) := by decide +kernel
theorem dX7_checksum_55 : decode cX7_checksum 55 = .ok (.iconst 0, 1) := by decide +kernel
theorem dX7_checksum_56 : decode cX7_checksum 56 = .ok (.istore_n 3, 1) := by decide +kernel
theorem dX7_checksum_57 : decode cX7_checksum 57 = .ok (.iload_n 3, 1) := by decide +kernel
theorem dX7_checksum_58 : decode cX7_checksum 58 = .ok (.aload_n 0, 1) := by decide +kernel
theorem dX7_checksum_59 : decode cX7_checksum 59 = .ok (.getfield 10, 3) := by decide +kernel
theorem dX7_checksum_62 : decode cX7_checksum 62 = .ok (.arraylength, 1) := by decide +kernel
theorem dX7_checksum_63 : decode cX7_checksum 63 = .ok (.if_icmp .ge 39, 3) := by decide +kernel
theorem dX7_checksum_66 : decode cX7_checksum 66 = .ok (.iconst 0, 1) := by decide +kernel
theorem dX7_checksum_67 : decode cX7_checksum 67 = .ok (.istore 4, 2) := by decide +kernel
theorem dX7_checksum_69 : decode cX7_checksum 69 = .ok (.iload 4, 2) := by decide +kernel
theorem dX7_checksum_71 : decode cX7_checksum 71 = .ok (.iconst 4, 1) := by decide +kernel
theorem dX7_checksum_72 : decode cX7_checksum 72 = .ok (.if_icmp .ge 24, 3) := by decide +kernel
theorem dX7_checksum_75 : decode cX7_checksum 75 = .ok (.ldc2_w 140, 3) := by decide +kernel
theorem dX7_checksum_78 : decode cX7_checksum 78 = .ok (.lload_n 1, 1) := by decide +kernel
theorem dX7_checksum_79 : decode cX7_checksum 79 = .ok (.lmul, 1) := by decide +kernel
theorem dX7_checksum_80 : decode cX7_checksum 80 = .ok (.aload_n 0, 1) := by decide +kernel
theorem dX7_checksum_81 : decode cX7_checksum 81 = .ok (.iload_n 3, 1) := by decide +kernel
theorem dX7_checksum_82 : decode cX7_checksum 82 = .ok (.iload 4, 2) := by decide +kernel
theorem dX7_checksum_84 : decode cX7_checksum 84 = .ok (.invokevirtual 149, 3) := by decide +kernel
theorem dX7_checksum_87 : decode cX7_checksum 87 = .ok (.i2l, 1) := by decide +kernel
theorem dX7_checksum_88 : decode cX7_checksum 88 = .ok (.ladd, 1) := by decide +kernel
theorem dX7_checksum_89 : decode cX7_checksum 89 = .ok (.lstore_n 1, 1) := by decide +kernel
theorem dX7_checksum_90 : decode cX7_checksum 90 = .ok (.iinc 4 1, 3) := by decide +kernel
theorem dX7_checksum_93 : decode cX7_checksum 93 = .ok (.goto (-24), 3) := by decide +kernel
theorem dX7_checksum_96 : decode cX7_checksum 96 = .ok (.iinc 3 1, 3) := by decide +kernel
theorem dX7_checksum_99 : decode cX7_checksum 99 = .ok (.goto (-42), 3) := by decide +kernel
theorem dX7_checksum_102 : decode cX7_checksum 102 = .ok (.iconst 0, 1) := by decide +kernel
theorem dX7_checksum_103 : decode cX7_checksum 103 = .ok (.istore_n 3, 1) := by decide +kernel
theorem dX7_checksum_104 : decode cX7_checksum 104 = .ok (.iload_n 3, 1) := by decide +kernel
theorem dX7_checksum_105 : decode cX7_checksum 105 = .ok (.aload_n 0, 1) := by decide +kernel
theorem dX7_checksum_106 : decode cX7_checksum 106 = .ok (.getfield 19, 3) := by decide +kernel
theorem dX7_checksum_109 : decode cX7_checksum 109 = .ok (.arraylength, 1) := by decide +kernel
theorem dX7_checksum_110 : decode cX7_checksum 110 = .ok (.if_icmp .ge 39, 3) := by decide +kernel
theorem dX7_checksum_113 : decode cX7_checksum 113 = .ok (.iconst 0, 1) := by decide +kernel
theorem dX7_checksum_114 : decode cX7_checksum 114 = .ok (.istore 4, 2) := by decide +kernel
theorem dX7_checksum_116 : decode cX7_checksum 116 = .ok (.iload 4, 2) := by decide +kernel
theorem dX7_checksum_118 : decode cX7_checksum 118 = .ok (.iconst 5, 1) := by decide +kernel
theorem dX7_checksum_119 : decode cX7_checksum 119 = .ok (.if_icmp .ge 24, 3) := by decide +kernel
theorem dX7_checksum_122 : decode cX7_checksum 122 = .ok (.ldc2_w 140, 3) := by decide +kernel
theorem dX7_checksum_125 : decode cX7_checksum 125 = .ok (.lload_n 1, 1) := by decide +kernel
theorem dX7_checksum_126 : decode cX7_checksum 126 = .ok (.lmul, 1) := by decide +kernel
theorem dX7_checksum_127 : decode cX7_checksum 127 = .ok (.aload_n 0, 1) := by decide +kernel
theorem dX7_checksum_128 : decode cX7_checksum 128 = .ok (.iload_n 3, 1) := by decide +kernel
theorem dX7_checksum_129 : decode cX7_checksum 129 = .ok (.iload 4, 2) := by decide +kernel
theorem dX7_checksum_131 : decode cX7_checksum 131 = .ok (.invokevirtual 152, 3) := by decide +kernel
theorem dX7_checksum_134 : decode cX7_checksum 134 = .ok (.i2l, 1) := by decide +kernel
theorem dX7_checksum_135 : decode cX7_checksum 135 = .ok (.ladd, 1) := by decide +kernel
theorem dX7_checksum_136 : decode cX7_checksum 136 = .ok (.lstore_n 1, 1) := by decide +kernel
theorem dX7_checksum_137 : decode cX7_checksum 137 = .ok (.iinc 4 1, 3) := by decide +kernel
theorem dX7_checksum_140 : decode cX7_checksum 140 = .ok (.goto (-24), 3) := by decide +kernel
theorem dX7_checksum_143 : decode cX7_checksum 143 = .ok (.iinc 3 1, 3) := by decide +kernel
theorem dX7_checksum_146 : decode cX7_checksum 146 = .ok (.goto (-42), 3) := by decide +kernel
theorem dX7_checksum_149 : decode cX7_checksum 149 = .ok (.aload_n 0, 1) := by decide +kernel
theorem dX7_checksum_150 : decode cX7_checksum 150 = .ok (.getfield 29, 3) := by decide +kernel
theorem dX7_checksum_153 : decode cX7_checksum 153 = .ok (.astore_n 3, 1) := by decide +kernel
theorem dX7_checksum_154 : decode cX7_checksum 154 = .ok (.aload_n 3, 1) := by decide +kernel
theorem dX7_checksum_155 : decode cX7_checksum 155 = .ok (.arraylength, 1) := by decide +kernel
theorem dX7_checksum_156 : decode cX7_checksum 156 = .ok (.istore 4, 2) := by decide +kernel
theorem dX7_checksum_158 : decode cX7_checksum 158 = .ok (.iconst 0, 1) := by decide +kernel
theorem dX7_checksum_159 : decode cX7_checksum 159 = .ok (.istore 5, 2) := by decide +kernel
theorem dX7_checksum_161 : decode cX7_checksum 161 = .ok (.iload 5, 2) := by decide +kernel
theorem dX7_checksum_163 : decode cX7_checksum 163 = .ok (.iload 4, 2) := by decide +kernel
theorem dX7_checksum_165 : decode cX7_checksum 165 = .ok (.if_icmp .ge 37, 3) := by decide +kernel
theorem dX7_checksum_168 : decode cX7_checksum 168 = .ok (.aload_n 3, 1) := by decide +kernel
theorem dX7_checksum_169 : decode cX7_checksum 169 = .ok (.iload 5, 2) := by decide +kernel
theorem dX7_checksum_171 : decode cX7_checksum 171 = .ok (.aaload, 1) := by decide +kernel
theorem dX7_checksum_172 : decode cX7_checksum 172 = .ok (.astore 6, 2) := by decide +kernel
theorem dX7_checksum_174 : decode cX7_checksum 174 = .ok (.ldc2_w 140, 3) := by decide +kernel
theorem dX7_checksum_177 : decode cX7_checksum 177 = .ok (.ldc2_w 140, 3) := by decide +kernel
theorem dX7_checksum_180 : decode cX7_checksum 180 = .ok (.lload_n 1, 1) := by decide +kernel
theorem dX7_checksum_181 : decode cX7_checksum 181 = .ok (.lmul, 1) := by decide +kernel
theorem dX7_checksum_182 : decode cX7_checksum 182 = .ok (.aload 6, 2) := by decide +kernel
theorem dX7_checksum_184 : decode cX7_checksum 184 = .ok (.iconst 0, 1) := by decide +kernel
theorem dX7_checksum_185 : decode cX7_checksum 185 = .ok (.iaload, 1) := by decide +kernel
theorem dX7_checksum_186 : decode cX7_checksum 186 = .ok (.i2l, 1) := by decide +kernel
theorem dX7_checksum_187 : decode cX7_checksum 187 = .ok (.ladd, 1) := by decide +kernel
theorem dX7_checksum_188 : decode cX7_checksum 188 = .ok (.lmul, 1) := by decide +kernel
theorem dX7_checksum_189 : decode cX7_checksum 189 = .ok (.aload 6, 2) := by decide +kernel
theorem dX7_checksum_191 : decode cX7_checksum 191 = .ok (.iconst 1, 1) := by decide +kernel
theorem dX7_checksum_192 : decode cX7_checksum 192 = .ok (.iaload, 1) := by decide +kernel
theorem dX7_checksum_193 : decode cX7_checksum 193 = .ok (.i2l, 1) := by decide +kernel
theorem dX7_checksum_194 : decode cX7_checksum 194 = .ok (.ladd, 1) := by decide +kernel
theorem dX7_checksum_195 : decode cX7_checksum 195 = .ok (.lstore_n 1, 1) := by decide +kernel
theorem dX7_checksum_196 : decode cX7_checksum 196 = .ok (.iinc 5 1, 3) := by decide +kernel
theorem dX7_checksum_199 : decode cX7_checksum 199 = .ok (.goto (-38), 3) := by decide +kernel
theorem dX7_checksum_202 : decode cX7_checksum 202 = .ok (.lload_n 1, 1) := by decide +kernel
theorem dX7_checksum_203 : decode cX7_checksum 203 = .ok (.lreturn, 1) := by decide +kernel
theorem dX8_init_0 : decode cX8_init 0 = .ok (.aload_n 0, 1) := by decide +kernel
theorem dX8_init_1 : decode cX8_init 1 = .ok (.invokespecial 1, 3) := by decide +kernel
theorem dX8_init_4 : decode cX8_init 4 = .ok (.aload_n 0, 1) := by decide +kernel
theorem dX8_init_5 : decode cX8_init 5 = .ok (.bipush 10, 2) := by decide +kernel
theorem dX8_init_7 : decode cX8_init 7 = .ok (.putfield 7, 3) := by decide +kernel
theorem dX8_init_10 : decode cX8_init 10 = .ok (.return_, 1) := by decide +kernel
theorem dX8_copy_0 : decode cX8_copy 0 = .ok (.new 8, 3) := by decide +kernel
theorem dX8_copy_3 : decode cX8_copy 3 = .ok (.dup, 1) := by decide +kernel
theorem dX8_copy_4 : decode cX8_copy 4 = .ok (.invokespecial 13, 3) := by decide +kernel
theorem dX8_copy_7 : decode cX8_copy 7 = .ok (.astore_n 1, 1) := by decide +kernel
theorem dX8_copy_8 : decode cX8_copy 8 = .ok (.aload_n 1, 1) := by decide +kernel
theorem dX8_copy_9 : decode cX8_copy 9 = .ok (.aload_n 0, 1) := by decide +kernel
theorem dX8_copy_10 : decode cX8_copy 10 = .ok (.getfield 7, 3) := by decide +kernel
theorem dX8_copy_13 : decode cX8_copy 13 = .ok (.putfield 7, 3) := by decide +kernel
theorem dX8_copy_16 : decode cX8_copy 16 = .ok (.aload_n 1, 1) := by decide +kernel
theorem dX8_copy_17 : decode cX8_copy 17 = .ok (.aload_n 0, 1) := by decide +kernel
theorem dX8_copy_18 : decode cX8_copy 18 = .ok (.getfield 14, 3) := by decide +kernel
theorem dX8_copy_21 : decode cX8_copy 21 = .ok (.putfield 14, 3) := by decide +kernel
theorem dX8_copy_24 : decode cX8_copy 24 = .ok (.aload_n 1, 1) := by decide +kernel
theorem dX8_copy_25 : decode cX8_copy 25 = .ok (.aload_n 0, 1) := by decide +kernel
theorem dX8_copy_26 : decode cX8_copy 26 = .ok (.getfield 18, 3) := by decide +kernel
theorem dX8_copy_29 : decode cX8_copy 29 = .ok (.putfield 18, 3) := by decide +kernel
theorem dX8_copy_32 : decode cX8_copy 32 = .ok (.aload_n 1, 1) := by decide +kernel
theorem dX8_copy_33 : decode cX8_copy 33 = .ok (.areturn, 1) := by decide +kernel
theorem dX9_init_0 : decode cX9_init 0 = .ok (.aload_n 0, 1) := by decide +kernel
theorem dX9_init_1 : decode cX9_init 1 = .ok (.invokespecial 1, 3) := by decide +kernel
theorem dX9_init_4 : decode cX9_init 4 = .ok (.aload_n 0, 1) := by decide +kernel
theorem dX9_init_5 : decode cX9_init 5 = .ok (.iload_n 1, 1) := by decide +kernel
theorem dX9_init_6 : decode cX9_init 6 = .ok (.putfield 7, 3) := by decide +kernel
theorem dX9_init_9 : decode cX9_init 9 = .ok (.return_, 1) := by decide +kernel
theorem dX9_below_0 : decode cX9_below 0 = .ok (.aload_n 0, 1) := by decide +kernel
theorem dX9_below_1 : decode cX9_below 1 = .ok (.ldc 13, 2) := by decide +kernel
theorem dX9_below_3 : decode cX9_below 3 = .ok (.aload_n 0, 1) := by decide +kernel
theorem dX9_below_4 : decode cX9_below 4 = .ok (.getfield 7, 3) := by decide +kernel
theorem dX9_below_7 : decode cX9_below 7 = .ok (.imul, 1) := by decide +kernel
theorem dX9_below_8 : decode cX9_below 8 = .ok (.sipush 12345, 3) := by decide +kernel
theorem dX9_below_11 : decode cX9_below 11 = .ok (.iadd, 1) := by decide +kernel
theorem dX9_below_12 : decode cX9_below 12 = .ok (.putfield 7, 3) := by decide +kernel
theorem dX9_below_15 : decode cX9_below 15 = .ok (.aload_n 0, 1) := by decide +kernel
theorem dX9_below_16 : decode cX9_below 16 = .ok (.getfield 7, 3) := by decide +kernel
theorem dX9_below_19 : decode cX9_below 19 = .ok (.bipush 16, 2) := by decide +kernel
theorem dX9_below_21 : decode cX9_below 21 = .ok (.iushr, 1) := by decide +kernel
theorem dX9_below_22 : decode cX9_below 22 = .ok (.iload_n 1, 1) := by decide +kernel
theorem dX9_below_23 : decode cX9_below 23 = .ok (.irem, 1) := by decide +kernel
theorem dX9_below_24 : decode cX9_below 24 = .ok (.ireturn, 1) := by decide +kernel
theorem dX10_init_0 : decode cX10_init 0 = .ok (.aload_n 0, 1) := by decide +kernel
theorem dX10_init_1 : decode cX10_init 1 = .ok (.invokespecial 1, 3) := by decide +kernel
theorem dX10_init_4 : decode cX10_init 4 = .ok (.aload_n 0, 1) := by decide +kernel
theorem dX10_init_5 : decode cX10_init 5 = .ok (.bipush 100, 2) := by decide +kernel
theorem dX10_init_7 : decode cX10_init 7 = .ok (.putfield 7, 3) := by decide +kernel
theorem dX10_init_10 : decode cX10_init 10 = .ok (.return_, 1) := by decide +kernel
theorem dX10_copy_0 : decode cX10_copy 0 = .ok (.new 8, 3) := by decide +kernel
theorem dX10_copy_3 : decode cX10_copy 3 = .ok (.dup, 1) := by decide +kernel
theorem dX10_copy_4 : decode cX10_copy 4 = .ok (.invokespecial 13, 3) := by decide +kernel
theorem dX10_copy_7 : decode cX10_copy 7 = .ok (.astore_n 1, 1) := by decide +kernel
theorem dX10_copy_8 : decode cX10_copy 8 = .ok (.aload_n 1, 1) := by decide +kernel
theorem dX10_copy_9 : decode cX10_copy 9 = .ok (.aload_n 0, 1) := by decide +kernel
theorem dX10_copy_10 : decode cX10_copy 10 = .ok (.getfield 7, 3) := by decide +kernel
theorem dX10_copy_13 : decode cX10_copy 13 = .ok (.putfield 7, 3) := by decide +kernel
theorem dX10_copy_16 : decode cX10_copy 16 = .ok (.aload_n 1, 1) := by decide +kernel
theorem dX10_copy_17 : decode cX10_copy 17 = .ok (.aload_n 0, 1) := by decide +kernel
theorem dX10_copy_18 : decode cX10_copy 18 = .ok (.getfield 14, 3) := by decide +kernel
theorem dX10_copy_21 : decode cX10_copy 21 = .ok (.putfield 14, 3) := by decide +kernel
theorem dX10_copy_24 : decode cX10_copy 24 = .ok (.aload_n 1, 1) := by decide +kernel
theorem dX10_copy_25 : decode cX10_copy 25 = .ok (.aload_n 0, 1) := by decide +kernel
theorem dX10_copy_26 : decode cX10_copy 26 = .ok (.getfield 17, 3) := by decide +kernel
theorem dX10_copy_29 : decode cX10_copy 29 = .ok (.putfield 17, 3) := by decide +kernel
theorem dX10_copy_32 : decode cX10_copy 32 = .ok (.aload_n 1, 1) := by decide +kernel
theorem dX10_copy_33 : decode cX10_copy 33 = .ok (.areturn, 1) := by decide +kernel
theorem dJ9_abs_0f7a4_0 : decode cJ9_abs_0f7a4 0 = .ok (.iload_n 0, 1) := by decide +kernel
theorem dJ9_abs_0f7a4_1 : decode cJ9_abs_0f7a4 1 = .ok (.ifCond .ge 8, 3) := by decide +kernel
theorem dJ9_abs_0f7a4_4 : decode cJ9_abs_0f7a4 4 = .ok (.iload_n 0, 1) := by decide +kernel
theorem dJ9_abs_0f7a4_5 : decode cJ9_abs_0f7a4 5 = .ok (.ineg, 1) := by decide +kernel
theorem dJ9_abs_0f7a4_6 : decode cJ9_abs_0f7a4 6 = .ok (.goto 4, 3) := by decide +kernel
theorem dJ9_abs_0f7a4_9 : decode cJ9_abs_0f7a4 9 = .ok (.iload_n 0, 1) := by decide +kernel
theorem dJ9_abs_0f7a4_10 : decode cJ9_abs_0f7a4 10 = .ok (.ireturn, 1) := by decide +kernel
theorem dJ9_abs_067f4_0 : decode cJ9_abs_067f4 0 = .ok (.lload_n 0, 1) := by decide +kernel
theorem dJ9_abs_067f4_1 : decode cJ9_abs_067f4 1 = .ok (.lconst 0, 1) := by decide +kernel
theorem dJ9_abs_067f4_2 : decode cJ9_abs_067f4 2 = .ok (.lcmp, 1) := by decide +kernel
theorem dJ9_abs_067f4_3 : decode cJ9_abs_067f4 3 = .ok (.ifCond .ge 8, 3) := by decide +kernel
theorem dJ9_abs_067f4_6 : decode cJ9_abs_067f4 6 = .ok (.lload_n 0, 1) := by decide +kernel
theorem dJ9_abs_067f4_7 : decode cJ9_abs_067f4 7 = .ok (.lneg, 1) := by decide +kernel
theorem dJ9_abs_067f4_8 : decode cJ9_abs_067f4 8 = .ok (.goto 4, 3) := by decide +kernel
theorem dJ9_abs_067f4_11 : decode cJ9_abs_067f4 11 = .ok (.lload_n 0, 1) := by decide +kernel
theorem dJ9_abs_067f4_12 : decode cJ9_abs_067f4 12 = .ok (.lreturn, 1) := by decide +kernel
theorem dJ9_max_7cf53_0 : decode cJ9_max_7cf53 0 = .ok (.iload_n 0, 1) := by decide +kernel
theorem dJ9_max_7cf53_1 : decode cJ9_max_7cf53 1 = .ok (.iload_n 1, 1) := by decide +kernel
theorem dJ9_max_7cf53_2 : decode cJ9_max_7cf53 2 = .ok (.if_icmp .lt 7, 3) := by decide +kernel
theorem dJ9_max_7cf53_5 : decode cJ9_max_7cf53 5 = .ok (.iload_n 0, 1) := by decide +kernel
theorem dJ9_max_7cf53_6 : decode cJ9_max_7cf53 6 = .ok (.goto 4, 3) := by decide +kernel
theorem dJ9_max_7cf53_9 : decode cJ9_max_7cf53 9 = .ok (.iload_n 1, 1) := by decide +kernel
theorem dJ9_max_7cf53_10 : decode cJ9_max_7cf53 10 = .ok (.ireturn, 1) := by decide +kernel
theorem dJ9_max_f86c9_0 : decode cJ9_max_f86c9 0 = .ok (.lload_n 0, 1) := by decide +kernel
theorem dJ9_max_f86c9_1 : decode cJ9_max_f86c9 1 = .ok (.lload_n 2, 1) := by decide +kernel
theorem dJ9_max_f86c9_2 : decode cJ9_max_f86c9 2 = .ok (.lcmp, 1) := by decide +kernel
theorem dJ9_max_f86c9_3 : decode cJ9_max_f86c9 3 = .ok (.ifCond .lt 7, 3) := by decide +kernel
theorem dJ9_max_f86c9_6 : decode cJ9_max_f86c9 6 = .ok (.lload_n 0, 1) := by decide +kernel
theorem dJ9_max_f86c9_7 : decode cJ9_max_f86c9 7 = .ok (.goto 4, 3) := by decide +kernel
theorem dJ9_max_f86c9_10 : decode cJ9_max_f86c9 10 = .ok (.lload_n 2, 1) := by decide +kernel
theorem dJ9_max_f86c9_11 : decode cJ9_max_f86c9 11 = .ok (.lreturn, 1) := by decide +kernel
theorem dJ9_min_7cf53_0 : decode cJ9_min_7cf53 0 = .ok (.iload_n 0, 1) := by decide +kernel
theorem dJ9_min_7cf53_1 : decode cJ9_min_7cf53 1 = .ok (.iload_n 1, 1) := by decide +kernel
theorem dJ9_min_7cf53_2 : decode cJ9_min_7cf53 2 = .ok (.if_icmp .gt 7, 3) := by decide +kernel
theorem dJ9_min_7cf53_5 : decode cJ9_min_7cf53 5 = .ok (.iload_n 0, 1) := by decide +kernel
theorem dJ9_min_7cf53_6 : decode cJ9_min_7cf53 6 = .ok (.goto 4, 3) := by decide +kernel
theorem dJ9_min_7cf53_9 : decode cJ9_min_7cf53 9 = .ok (.iload_n 1, 1) := by decide +kernel
theorem dJ9_min_7cf53_10 : decode cJ9_min_7cf53 10 = .ok (.ireturn, 1) := by decide +kernel
theorem dJ9_min_f86c9_0 : decode cJ9_min_f86c9 0 = .ok (.lload_n 0, 1) := by decide +kernel
theorem dJ9_min_f86c9_1 : decode cJ9_min_f86c9 1 = .ok (.lload_n 2, 1) := by decide +kernel
theorem dJ9_min_f86c9_2 : decode cJ9_min_f86c9 2 = .ok (.lcmp, 1) := by decide +kernel
theorem dJ9_min_f86c9_3 : decode cJ9_min_f86c9 3 = .ok (.ifCond .gt 7, 3) := by decide +kernel
theorem dJ9_min_f86c9_6 : decode cJ9_min_f86c9 6 = .ok (.lload_n 0, 1) := by decide +kernel
theorem dJ9_min_f86c9_7 : decode cJ9_min_f86c9 7 = .ok (.goto 4, 3) := by decide +kernel
theorem dJ9_min_f86c9_10 : decode cJ9_min_f86c9 10 = .ok (.lload_n 2, 1) := by decide +kernel
theorem dJ9_min_f86c9_11 : decode cJ9_min_f86c9 11 = .ok (.lreturn, 1) := by decide +kernel
theorem dJ0_length_8abf5_0 : decode cJ0_length_8abf5 0 = .ok (.aload_n 0, 1) := by decide +kernel
theorem dJ0_length_8abf5_1 : decode cJ0_length_8abf5 1 = .ok (.getfield 9, 3) := by decide +kernel
theorem dJ0_length_8abf5_4 : decode cJ0_length_8abf5 4 = .ok (.arraylength, 1) := by decide +kernel
theorem dJ0_length_8abf5_5 : decode cJ0_length_8abf5 5 = .ok (.aload_n 0, 1) := by decide +kernel
theorem dJ0_length_8abf5_6 : decode cJ0_length_8abf5 6 = .ok (.invokevirtual 335, 3) := by decide +kernel
theorem dJ0_length_8abf5_9 : decode cJ0_length_8abf5 9 = .ok (.ishr, 1) := by decide +kernel
theorem dJ0_length_8abf5_10 : decode cJ0_length_8abf5 10 = .ok (.ireturn, 1) := by decide +kernel
theorem dJ0_charAt_5068e_0 : decode cJ0_charAt_5068e 0 = .ok (.aload_n 0, 1) := by decide +kernel
theorem dJ0_charAt_5068e_1 : decode cJ0_charAt_5068e 1 = .ok (.invokevirtual 492, 3) := by decide +kernel
theorem dJ0_charAt_5068e_4 : decode cJ0_charAt_5068e 4 = .ok (.ifCond .eq 12, 3) := by decide +kernel
theorem dJ0_charAt_5068e_7 : decode cJ0_charAt_5068e 7 = .ok (.aload_n 0, 1) := by decide +kernel
theorem dJ0_charAt_5068e_8 : decode cJ0_charAt_5068e 8 = .ok (.getfield 9, 3) := by decide +kernel
theorem dJ0_charAt_5068e_11 : decode cJ0_charAt_5068e 11 = .ok (.iload_n 1, 1) := by decide +kernel
theorem dJ0_charAt_5068e_12 : decode cJ0_charAt_5068e 12 = .ok (.invokestatic 495, 3) := by decide +kernel
theorem dJ0_charAt_5068e_15 : decode cJ0_charAt_5068e 15 = .ok (.ireturn, 1) := by decide +kernel
theorem dJ0_charAt_5068e_16 : decode cJ0_charAt_5068e 16 = .ok (.aload_n 0, 1) := by decide +kernel
theorem dJ0_charAt_5068e_17 : decode cJ0_charAt_5068e 17 = .ok (.getfield 9, 3) := by decide +kernel
theorem dJ0_charAt_5068e_20 : decode cJ0_charAt_5068e 20 = .ok (.iload_n 1, 1) := by decide +kernel
theorem dJ0_charAt_5068e_21 : decode cJ0_charAt_5068e 21 = .ok (.invokestatic 498, 3) := by decide +kernel
theorem dJ0_charAt_5068e_24 : decode cJ0_charAt_5068e 24 = .ok (.ireturn, 1) := by decide +kernel
theorem dJ0_coder_7d493_0 : decode cJ0_coder_7d493 0 = .ok (.getstatic 38, 3) := by decide +kernel
theorem dJ0_coder_7d493_3 : decode cJ0_coder_7d493 3 = .ok (.ifCond .eq 10, 3) := by decide +kernel
theorem dJ0_coder_7d493_6 : decode cJ0_coder_7d493 6 = .ok (.aload_n 0, 1) := by decide +kernel
theorem dJ0_coder_7d493_7 : decode cJ0_coder_7d493 7 = .ok (.getfield 15, 3) := by decide +kernel
theorem dJ0_coder_7d493_10 : decode cJ0_coder_7d493 10 = .ok (.goto 4, 3) := by decide +kernel
theorem dJ0_coder_7d493_13 : decode cJ0_coder_7d493 13 = .ok (.iconst 1, 1) := by decide +kernel
theorem dJ0_coder_7d493_14 : decode cJ0_coder_7d493 14 = .ok (.ireturn, 1) := by decide +kernel
theorem dJ0_isLatin1_aae02_0 : decode cJ0_isLatin1_aae02 0 = .ok (.getstatic 38, 3) := by decide +kernel
theorem dJ0_isLatin1_aae02_3 : decode cJ0_isLatin1_aae02 3 = .ok (.ifCond .eq 14, 3) := by decide +kernel
theorem dJ0_isLatin1_aae02_6 : decode cJ0_isLatin1_aae02 6 = .ok (.aload_n 0, 1) := by decide +kernel
theorem dJ0_isLatin1_aae02_7 : decode cJ0_isLatin1_aae02 7 = .ok (.getfield 15, 3) := by decide +kernel
theorem dJ0_isLatin1_aae02_10 : decode cJ0_isLatin1_aae02 10 = .ok (.ifCond .ne 7, 3) := by decide +kernel
theorem dJ0_isLatin1_aae02_13 : decode cJ0_isLatin1_aae02 13 = .ok (.iconst 1, 1) := by decide +kernel
theorem dJ0_isLatin1_aae02_14 : decode cJ0_isLatin1_aae02 14 = .ok (.goto 4, 3) := by decide +kernel
theorem dJ0_isLatin1_aae02_17 : decode cJ0_isLatin1_aae02 17 = .ok (.iconst 0, 1) := by decide +kernel
theorem dJ0_isLatin1_aae02_18 : decode cJ0_isLatin1_aae02 18 = .ok (.ireturn, 1) := by decide +kernel
theorem dJ0_checkIndex_df160_0 : decode cJ0_checkIndex_df160 0 = .ok (.iload_n 0, 1) := by decide +kernel
theorem dJ0_checkIndex_df160_1 : decode cJ0_checkIndex_df160 1 = .ok (.iload_n 1, 1) := by decide +kernel
theorem dJ0_checkIndex_df160_2 : decode cJ0_checkIndex_df160 2 = .ok (.getstatic 1053, 3) := by decide +kernel
theorem dJ0_checkIndex_df160_5 : decode cJ0_checkIndex_df160 5 = .ok (.invokestatic 1059, 3) := by decide +kernel
theorem dJ0_checkIndex_df160_8 : decode cJ0_checkIndex_df160 8 = .ok (.pop, 1) := by decide +kernel
theorem dJ0_checkIndex_df160_9 : decode cJ0_checkIndex_df160 9 = .ok (.return_, 1) := by decide +kernel
theorem dJ1_charAt_3b067_0 : decode cJ1_charAt_3b067 0 = .ok (.iload_n 1, 1) := by decide +kernel
theorem dJ1_charAt_3b067_1 : decode cJ1_charAt_3b067 1 = .ok (.aload_n 0, 1) := by decide +kernel
theorem dJ1_charAt_3b067_2 : decode cJ1_charAt_3b067 2 = .ok (.arraylength, 1) := by decide +kernel
theorem dJ1_charAt_3b067_3 : decode cJ1_charAt_3b067 3 = .ok (.invokestatic 9, 3) := by decide +kernel
theorem dJ1_charAt_3b067_6 : decode cJ1_charAt_3b067 6 = .ok (.aload_n 0, 1) := by decide +kernel
theorem dJ1_charAt_3b067_7 : decode cJ1_charAt_3b067 7 = .ok (.iload_n 1, 1) := by decide +kernel
theorem dJ1_charAt_3b067_8 : decode cJ1_charAt_3b067 8 = .ok (.baload, 1) := by decide +kernel
theorem dJ1_charAt_3b067_9 : decode cJ1_charAt_3b067 9 = .ok (.sipush 255, 3) := by decide +kernel
theorem dJ1_charAt_3b067_12 : decode cJ1_charAt_3b067 12 = .ok (.iand, 1) := by decide +kernel
theorem dJ1_charAt_3b067_13 : decode cJ1_charAt_3b067 13 = .ok (.i2c, 1) := by decide +kernel
theorem dJ1_charAt_3b067_14 : decode cJ1_charAt_3b067 14 = .ok (.ireturn, 1) := by decide +kernel
theorem dJ2_getChar_3b067_0 : decode cJ2_getChar_3b067 0 = .ok (.getstatic 44, 3) := by decide +kernel
theorem dJ2_getChar_3b067_3 : decode cJ2_getChar_3b067 3 = .ok (.ifCond .ne 25, 3) := by decide +kernel
theorem dJ2_getChar_3b067_6 : decode cJ2_getChar_3b067 6 = .ok (.iload_n 1, 1) := by decide +kernel
theorem dJ2_getChar_3b067_7 : decode cJ2_getChar_3b067 7 = .ok (.ifCond .lt 11, 3) := by decide +kernel
theorem dJ2_getChar_3b067_10 : decode cJ2_getChar_3b067 10 = .ok (.iload_n 1, 1) := by decide +kernel
theorem dJ2_getChar_3b067_11 : decode cJ2_getChar_3b067 11 = .ok (.aload_n 0, 1) := by decide +kernel
theorem dJ2_getChar_3b067_12 : decode cJ2_getChar_3b067 12 = .ok (.invokestatic 48, 3) := by decide +kernel
theorem dJ2_getChar_3b067_15 : decode cJ2_getChar_3b067 15 = .ok (.if_icmp .lt 13, 3) := by decide +kernel
theorem dJ2_getChar_3b067_18 : decode cJ2_getChar_3b067 18 = .ok (.new 52, 3) := by decide +kernel
theorem dJ2_getChar_3b067_21 : decode cJ2_getChar_3b067 21 = .ok (.dup, 1) := by decide +kernel
theorem dJ2_getChar_3b067_22 : decode cJ2_getChar_3b067 22 = .ok (.ldc 54, 2) := by decide +kernel
theorem dJ2_getChar_3b067_24 : decode cJ2_getChar_3b067 24 = .ok (.invokespecial 56, 3) := by decide +kernel
theorem dJ2_getChar_3b067_27 : decode cJ2_getChar_3b067 27 = .ok (.athrow, 1) := by decide +kernel
theorem dJ2_getChar_3b067_28 : decode cJ2_getChar_3b067 28 = .ok (.iload_n 1, 1) := by decide +kernel
theorem dJ2_getChar_3b067_29 : decode cJ2_getChar_3b067 29 = .ok (.iconst 1, 1) := by decide +kernel
theorem dJ2_getChar_3b067_30 : decode cJ2_getChar_3b067 30 = .ok (.ishl, 1) := by decide +kernel
theorem dJ2_getChar_3b067_31 : decode cJ2_getChar_3b067 31 = .ok (.istore_n 1, 1) := by decide +kernel
theorem dJ2_getChar_3b067_32 : decode cJ2_getChar_3b067 32 = .ok (.aload_n 0, 1) := by decide +kernel
theorem dJ2_getChar_3b067_33 : decode cJ2_getChar_3b067 33 = .ok (.iload_n 1, 1) := by decide +kernel
theorem dJ2_getChar_3b067_34 : decode cJ2_getChar_3b067 34 = .ok (.iinc 1 1, 3) := by decide +kernel
theorem dJ2_getChar_3b067_37 : decode cJ2_getChar_3b067 37 = .ok (.baload, 1) := by decide +kernel
theorem dJ2_getChar_3b067_38 : decode cJ2_getChar_3b067 38 = .ok (.sipush 255, 3) := by decide +kernel
theorem dJ2_getChar_3b067_41 : decode cJ2_getChar_3b067 41 = .ok (.iand, 1) := by decide +kernel
theorem dJ2_getChar_3b067_42 : decode cJ2_getChar_3b067 42 = .ok (.getstatic 59, 3) := by decide +kernel
theorem dJ2_getChar_3b067_45 : decode cJ2_getChar_3b067 45 = .ok (.ishl, 1) := by decide +kernel
theorem dJ2_getChar_3b067_46 : decode cJ2_getChar_3b067 46 = .ok (.aload_n 0, 1) := by decide +kernel
theorem dJ2_getChar_3b067_47 : decode cJ2_getChar_3b067 47 = .ok (.iload_n 1, 1) := by decide +kernel
theorem dJ2_getChar_3b067_48 : decode cJ2_getChar_3b067 48 = .ok (.baload, 1) := by decide +kernel
theorem dJ2_getChar_3b067_49 : decode cJ2_getChar_3b067 49 = .ok (.sipush 255, 3) := by decide +kernel
theorem dJ2_getChar_3b067_52 : decode cJ2_getChar_3b067 52 = .ok (.iand, 1) := by decide +kernel
theorem dJ2_getChar_3b067_53 : decode cJ2_getChar_3b067 53 = .ok (.getstatic 63, 3) := by decide +kernel
theorem dJ2_getChar_3b067_56 : decode cJ2_getChar_3b067 56 = .ok (.ishl, 1) := by decide +kernel
theorem dJ2_getChar_3b067_57 : decode cJ2_getChar_3b067 57 = .ok (.ior, 1) := by decide +kernel
theorem dJ2_getChar_3b067_58 : decode cJ2_getChar_3b067 58 = .ok (.i2c, 1) := by decide +kernel
theorem dJ2_getChar_3b067_59 : decode cJ2_getChar_3b067 59 = .ok (.ireturn, 1) := by decide +kernel
theorem dJ2_length_9d52b_0 : decode cJ2_length_9d52b 0 = .ok (.aload_n 0, 1) := by decide +kernel
theorem dJ2_length_9d52b_1 : decode cJ2_length_9d52b 1 = .ok (.arraylength, 1) := by decide +kernel
theorem dJ2_length_9d52b_2 : decode cJ2_length_9d52b 2 = .ok (.iconst 1, 1) := by decide +kernel
theorem dJ2_length_9d52b_3 : decode cJ2_length_9d52b 3 = .ok (.ishr, 1) := by decide +kernel
theorem dJ2_length_9d52b_4 : decode cJ2_length_9d52b 4 = .ok (.ireturn, 1) := by decide +kernel
theorem dJ2_charAt_3b067_0 : decode cJ2_charAt_3b067 0 = .ok (.iload_n 1, 1) := by decide +kernel
theorem dJ2_charAt_3b067_1 : decode cJ2_charAt_3b067 1 = .ok (.aload_n 0, 1) := by decide +kernel
theorem dJ2_charAt_3b067_2 : decode cJ2_charAt_3b067 2 = .ok (.invokestatic 67, 3) := by decide +kernel
theorem dJ2_charAt_3b067_5 : decode cJ2_charAt_3b067 5 = .ok (.aload_n 0, 1) := by decide +kernel
theorem dJ2_charAt_3b067_6 : decode cJ2_charAt_3b067 6 = .ok (.iload_n 1, 1) := by decide +kernel
theorem dJ2_charAt_3b067_7 : decode cJ2_charAt_3b067 7 = .ok (.invokestatic 71, 3) := by decide +kernel
theorem dJ2_charAt_3b067_10 : decode cJ2_charAt_3b067 10 = .ok (.ireturn, 1) := by decide +kernel
theorem dJ2_checkIndex_2214a_0 : decode cJ2_checkIndex_2214a 0 = .ok (.iload_n 0, 1) := by decide +kernel
theorem dJ2_checkIndex_2214a_1 : decode cJ2_checkIndex_2214a 1 = .ok (.aload_n 1, 1) := by decide +kernel
theorem dJ2_checkIndex_2214a_2 : decode cJ2_checkIndex_2214a 2 = .ok (.invokestatic 48, 3) := by decide +kernel
theorem dJ2_checkIndex_2214a_5 : decode cJ2_checkIndex_2214a 5 = .ok (.invokestatic 414, 3) := by decide +kernel
theorem dJ2_checkIndex_2214a_8 : decode cJ2_checkIndex_2214a 8 = .ok (.return_, 1) := by decide +kernel
theorem dJ3_checkIndex_8e157_0 : decode cJ3_checkIndex_8e157 0 = .ok (.iload_n 0, 1) := by decide +kernel
theorem dJ3_checkIndex_8e157_1 : decode cJ3_checkIndex_8e157 1 = .ok (.ifCond .lt 8, 3) := by decide +kernel
theorem dJ3_checkIndex_8e157_4 : decode cJ3_checkIndex_8e157 4 = .ok (.iload_n 0, 1) := by decide +kernel
theorem dJ3_checkIndex_8e157_5 : decode cJ3_checkIndex_8e157 5 = .ok (.iload_n 1, 1) := by decide +kernel
theorem dJ3_checkIndex_8e157_6 : decode cJ3_checkIndex_8e157 6 = .ok (.if_icmp .lt 10, 3) := by decide +kernel
theorem dJ3_checkIndex_8e157_9 : decode cJ3_checkIndex_8e157 9 = .ok (.aload_n 2, 1) := by decide +kernel
theorem dJ3_checkIndex_8e157_10 : decode cJ3_checkIndex_8e157 10 = .ok (.iload_n 0, 1) := by decide +kernel
theorem dJ3_checkIndex_8e157_11 : decode cJ3_checkIndex_8e157 11 = .ok (.iload_n 1, 1) := by decide +kernel
theorem dJ3_checkIndex_8e157_12 : decode cJ3_checkIndex_8e157 12 = .ok (.invokestatic 95, 3) := by decide +kernel
theorem dJ3_checkIndex_8e157_15 : decode cJ3_checkIndex_8e157 15 = .ok (.athrow, 1) := by decide +kernel
theorem dJ3_checkIndex_8e157_16 : decode cJ3_checkIndex_8e157 16 = .ok (.iload_n 0, 1) := by decide +kernel
theorem dJ3_checkIndex_8e157_17 : decode cJ3_checkIndex_8e157 17 = .ok (.ireturn, 1) := by decide +kernel
theorem dL_put_0 : decode cL_put 0 = .ok (.aload_n 1, 1) := by decide +kernel
theorem dL_put_1 : decode cL_put 1 = .ok (.iconst 1, 1) := by decide +kernel
theorem dL_put_2 : decode cL_put 2 = .ok (.aload_n 1, 1) := by decide +kernel
theorem dL_put_3 : decode cL_put 3 = .ok (.iconst 0, 1) := by decide +kernel
theorem dL_put_4 : decode cL_put 4 = .ok (.iaload, 1) := by decide +kernel
theorem dL_put_5 : decode cL_put 5 = .ok (.bipush 20, 2) := by decide +kernel
theorem dL_put_7 : decode cL_put 7 = .ok (.irem, 1) := by decide +kernel
theorem dL_put_8 : decode cL_put 8 = .ok (.iconst 4, 1) := by decide +kernel
theorem dL_put_9 : decode cL_put 9 = .ok (.idiv, 1) := by decide +kernel
theorem dL_put_10 : decode cL_put 10 = .ok (.iadd, 1) := by decide +kernel
theorem dL_put_11 : decode cL_put 11 = .ok (.dup2, 1) := by decide +kernel
theorem dL_put_12 : decode cL_put 12 = .ok (.iaload, 1) := by decide +kernel
theorem dL_put_13 : decode cL_put 13 = .ok (.iload_n 2, 1) := by decide +kernel
theorem dL_put_14 : decode cL_put 14 = .ok (.bipush 24, 2) := by decide +kernel
theorem dL_put_16 : decode cL_put 16 = .ok (.bipush 8, 2) := by decide +kernel
theorem dL_put_18 : decode cL_put 18 = .ok (.aload_n 1, 1) := by decide +kernel
theorem dL_put_19 : decode cL_put 19 = .ok (.iconst 0, 1) := by decide +kernel
theorem dL_put_20 : decode cL_put 20 = .ok (.iaload, 1) := by decide +kernel
theorem dL_put_21 : decode cL_put 21 = .ok (.iconst 4, 1) := by decide +kernel
theorem dL_put_22 : decode cL_put 22 = .ok (.irem, 1) := by decide +kernel
theorem dL_put_23 : decode cL_put 23 = .ok (.imul, 1) := by decide +kernel
theorem dL_put_24 : decode cL_put 24 = .ok (.isub, 1) := by decide +kernel
theorem dL_put_25 : decode cL_put 25 = .ok (.ishl, 1) := by decide +kernel
theorem dL_put_26 : decode cL_put 26 = .ok (.ior, 1) := by decide +kernel
theorem dL_put_27 : decode cL_put 27 = .ok (.iastore, 1) := by decide +kernel
theorem dL_put_28 : decode cL_put 28 = .ok (.aload_n 1, 1) := by decide +kernel
theorem dL_put_29 : decode cL_put 29 = .ok (.iconst 0, 1) := by decide +kernel
theorem dL_put_30 : decode cL_put 30 = .ok (.dup2, 1) := by decide +kernel
theorem dL_put_31 : decode cL_put 31 = .ok (.iaload, 1) := by decide +kernel
theorem dL_put_32 : decode cL_put 32 = .ok (.iconst 1, 1) := by decide +kernel
theorem dL_put_33 : decode cL_put 33 = .ok (.iadd, 1) := by decide +kernel
theorem dL_put_34 : decode cL_put 34 = .ok (.iastore, 1) := by decide +kernel
theorem dL_put_35 : decode cL_put 35 = .ok (.aload_n 1, 1) := by decide +kernel
theorem dL_put_36 : decode cL_put 36 = .ok (.iconst 0, 1) := by decide +kernel
theorem dL_put_37 : decode cL_put 37 = .ok (.iaload, 1) := by decide +kernel
theorem dL_put_38 : decode cL_put 38 = .ok (.bipush 20, 2) := by decide +kernel
theorem dL_put_40 : decode cL_put 40 = .ok (.irem, 1) := by decide +kernel
theorem dL_put_41 : decode cL_put 41 = .ok (.ifCond .ne 8, 3) := by decide +kernel
theorem dL_put_44 : decode cL_put 44 = .ok (.aload_n 0, 1) := by decide +kernel
theorem dL_put_45 : decode cL_put 45 = .ok (.aload_n 1, 1) := by decide +kernel
theorem dL_put_46 : decode cL_put 46 = .ok (.invokestatic 7, 3) := by decide +kernel
theorem dL_put_49 : decode cL_put 49 = .ok (.return_, 1) := by decide +kernel
theorem dL_flush_0 : decode cL_flush 0 = .ok (.aload_n 0, 1) := by decide +kernel
theorem dL_flush_1 : decode cL_flush 1 = .ok (.aload_n 1, 1) := by decide +kernel
theorem dL_flush_2 : decode cL_flush 2 = .ok (.iconst 1, 1) := by decide +kernel
theorem dL_flush_3 : decode cL_flush 3 = .ok (.iaload, 1) := by decide +kernel
theorem dL_flush_4 : decode cL_flush 4 = .ok (.aload_n 1, 1) := by decide +kernel
theorem dL_flush_5 : decode cL_flush 5 = .ok (.iconst 2, 1) := by decide +kernel
theorem dL_flush_6 : decode cL_flush 6 = .ok (.iaload, 1) := by decide +kernel
theorem dL_flush_7 : decode cL_flush 7 = .ok (.aload_n 1, 1) := by decide +kernel
theorem dL_flush_8 : decode cL_flush 8 = .ok (.iconst 3, 1) := by decide +kernel
theorem dL_flush_9 : decode cL_flush 9 = .ok (.iaload, 1) := by decide +kernel
theorem dL_flush_10 : decode cL_flush 10 = .ok (.aload_n 1, 1) := by decide +kernel
theorem dL_flush_11 : decode cL_flush 11 = .ok (.iconst 4, 1) := by decide +kernel
theorem dL_flush_12 : decode cL_flush 12 = .ok (.iaload, 1) := by decide +kernel
theorem dL_flush_13 : decode cL_flush 13 = .ok (.aload_n 1, 1) := by decide +kernel
theorem dL_flush_14 : decode cL_flush 14 = .ok (.iconst 5, 1) := by decide +kernel
theorem dL_flush_15 : decode cL_flush 15 = .ok (.iaload, 1) := by decide +kernel
theorem dL_flush_16 : decode cL_flush 16 = .ok (.invokevirtual 13, 3) := by decide +kernel
theorem dL_flush_19 : decode cL_flush 19 = .ok (.pop, 1) := by decide +kernel
theorem dL_flush_20 : decode cL_flush 20 = .ok (.iconst 1, 1) := by decide +kernel
theorem dL_flush_21 : decode cL_flush 21 = .ok (.istore_n 2, 1) := by decide +kernel
theorem dL_flush_22 : decode cL_flush 22 = .ok (.iload_n 2, 1) := by decide +kernel
theorem dL_flush_23 : decode cL_flush 23 = .ok (.bipush 6, 2) := by decide +kernel
theorem dL_flush_25 : decode cL_flush 25 = .ok (.if_icmp .ge 13, 3) := by decide +kernel
theorem dL_flush_28 : decode cL_flush 28 = .ok (.aload_n 1, 1) := by decide +kernel
theorem dL_flush_29 : decode cL_flush 29 = .ok (.iload_n 2, 1) := by decide +kernel
theorem dL_flush_30 : decode cL_flush 30 = .ok (.iconst 0, 1) := by decide +kernel
theorem dL_flush_31 : decode cL_flush 31 = .ok (.iastore, 1) := by decide +kernel
theorem dL_flush_32 : decode cL_flush 32 = .ok (.iinc 2 1, 3) := by decide +kernel
theorem dL_flush_35 : decode cL_flush 35 = .ok (.goto (-13), 3) := by decide +kernel
theorem dL_flush_38 : decode cL_flush 38 = .ok (.return_, 1) := by decide +kernel
theorem dL_loadText_0 : decode cL_loadText 0 = .ok (.aload_n 1, 1) := by decide +kernel
theorem dL_loadText_1 : decode cL_loadText 1 = .ok (.iconst 0, 1) := by decide +kernel
theorem dL_loadText_2 : decode cL_loadText 2 = .ok (.iaload, 1) := by decide +kernel
theorem dL_loadText_3 : decode cL_loadText 3 = .ok (.istore_n 2, 1) := by decide +kernel
theorem dL_loadText_4 : decode cL_loadText 4 = .ok (.iload_n 2, 1) := by decide +kernel
theorem dL_loadText_5 : decode cL_loadText 5 = .ok (.bipush 20, 2) := by decide +kernel
theorem dL_loadText_7 : decode cL_loadText 7 = .ok (.irem, 1) := by decide +kernel
theorem dL_loadText_8 : decode cL_loadText 8 = .ok (.ifCond .le 8, 3) := by decide +kernel
theorem dL_loadText_11 : decode cL_loadText 11 = .ok (.aload_n 0, 1) := by decide +kernel
theorem dL_loadText_12 : decode cL_loadText 12 = .ok (.aload_n 1, 1) := by decide +kernel
theorem dL_loadText_13 : decode cL_loadText 13 = .ok (.invokestatic 7, 3) := by decide +kernel
theorem dL_loadText_16 : decode cL_loadText 16 = .ok (.aload_n 1, 1) := by decide +kernel
theorem dL_loadText_17 : decode cL_loadText 17 = .ok (.iconst 0, 1) := by decide +kernel
theorem dL_loadText_18 : decode cL_loadText 18 = .ok (.iconst 0, 1) := by decide +kernel
theorem dL_loadText_19 : decode cL_loadText 19 = .ok (.iastore, 1) := by decide +kernel
theorem dL_loadText_20 : decode cL_loadText 20 = .ok (.aload_n 0, 1) := by decide +kernel
theorem dL_loadText_21 : decode cL_loadText 21 = .ok (.iload_n 2, 1) := by decide +kernel
theorem dL_loadText_22 : decode cL_loadText 22 = .ok (.invokestatic 19, 3) := by decide +kernel
theorem dL_loadText_25 : decode cL_loadText 25 = .ok (.ireturn, 1) := by decide +kernel
theorem dL_write_0 : decode cL_write 0 = .ok (.iconst 0, 1) := by decide +kernel
theorem dL_write_1 : decode cL_write 1 = .ok (.istore_n 3, 1) := by decide +kernel
theorem dL_write_2 : decode cL_write 2 = .ok (.iload_n 3, 1) := by decide +kernel
theorem dL_write_3 : decode cL_write 3 = .ok (.aload_n 2, 1) := by decide +kernel
theorem dL_write_4 : decode cL_write 4 = .ok (.invokevirtual 23, 3) := by decide +kernel
theorem dL_write_7 : decode cL_write 7 = .ok (.if_icmp .ge 19, 3) := by decide +kernel
theorem dL_write_10 : decode cL_write 10 = .ok (.aload_n 0, 1) := by decide +kernel
theorem dL_write_11 : decode cL_write 11 = .ok (.aload_n 1, 1) := by decide +kernel
theorem dL_write_12 : decode cL_write 12 = .ok (.aload_n 2, 1) := by decide +kernel
theorem dL_write_13 : decode cL_write 13 = .ok (.iload_n 3, 1) := by decide +kernel
theorem dL_write_14 : decode cL_write 14 = .ok (.invokevirtual 29, 3) := by decide +kernel
theorem dL_write_17 : decode cL_write 17 = .ok (.invokestatic 33, 3) := by decide +kernel
theorem dL_write_20 : decode cL_write 20 = .ok (.iinc 3 1, 3) := by decide +kernel
theorem dL_write_23 : decode cL_write 23 = .ok (.goto (-21), 3) := by decide +kernel
theorem dL_write_26 : decode cL_write 26 = .ok (.return_, 1) := by decide +kernel
theorem dL_writeNumber_0 : decode cL_writeNumber 0 = .ok (.iconst 1, 1) := by decide +kernel
theorem dL_writeNumber_1 : decode cL_writeNumber 1 = .ok (.istore_n 3, 1) := by decide +kernel
theorem dL_writeNumber_2 : decode cL_writeNumber 2 = .ok (.iload_n 3, 1) := by decide +kernel
theorem dL_writeNumber_3 : decode cL_writeNumber 3 = .ok (.iload_n 2, 1) := by decide +kernel
theorem dL_writeNumber_4 : decode cL_writeNumber 4 = .ok (.bipush 10, 2) := by decide +kernel
theorem dL_writeNumber_6 : decode cL_writeNumber 6 = .ok (.idiv, 1) := by decide +kernel
theorem dL_writeNumber_7 : decode cL_writeNumber 7 = .ok (.if_icmp .gt 11, 3) := by decide +kernel
theorem dL_writeNumber_10 : decode cL_writeNumber 10 = .ok (.iload_n 3, 1) := by decide +kernel
theorem dL_writeNumber_11 : decode cL_writeNumber 11 = .ok (.bipush 10, 2) := by decide +kernel
theorem dL_writeNumber_13 : decode cL_writeNumber 13 = .ok (.imul, 1) := by decide +kernel
theorem dL_writeNumber_14 : decode cL_writeNumber 14 = .ok (.istore_n 3, 1) := by decide +kernel
theorem dL_writeNumber_15 : decode cL_writeNumber 15 = .ok (.goto (-13), 3) := by decide +kernel
theorem dL_writeNumber_18 : decode cL_writeNumber 18 = .ok (.iload_n 3, 1) := by decide +kernel
theorem dL_writeNumber_19 : decode cL_writeNumber 19 = .ok (.ifCond .le 25, 3) := by decide +kernel
theorem dL_writeNumber_22 : decode cL_writeNumber 22 = .ok (.aload_n 0, 1) := by decide +kernel
theorem dL_writeNumber_23 : decode cL_writeNumber 23 = .ok (.aload_n 1, 1) := by decide +kernel
theorem dL_writeNumber_24 : decode cL_writeNumber 24 = .ok (.bipush 48, 2) := by decide +kernel
theorem dL_writeNumber_26 : decode cL_writeNumber 26 = .ok (.iload_n 2, 1) := by decide +kernel
theorem dL_writeNumber_27 : decode cL_writeNumber 27 = .ok (.iload_n 3, 1) := by decide +kernel
theorem dL_writeNumber_28 : decode cL_writeNumber 28 = .ok (.idiv, 1) := by decide +kernel
theorem dL_writeNumber_29 : decode cL_writeNumber 29 = .ok (.bipush 10, 2) := by decide +kernel
theorem dL_writeNumber_31 : decode cL_writeNumber 31 = .ok (.irem, 1) := by decide +kernel
theorem dL_writeNumber_32 : decode cL_writeNumber 32 = .ok (.iadd, 1) := by decide +kernel
theorem dL_writeNumber_33 : decode cL_writeNumber 33 = .ok (.invokestatic 33, 3) := by decide +kernel
theorem dL_writeNumber_36 : decode cL_writeNumber 36 = .ok (.iload_n 3, 1) := by decide +kernel
theorem dL_writeNumber_37 : decode cL_writeNumber 37 = .ok (.bipush 10, 2) := by decide +kernel
theorem dL_writeNumber_39 : decode cL_writeNumber 39 = .ok (.idiv, 1) := by decide +kernel
theorem dL_writeNumber_40 : decode cL_writeNumber 40 = .ok (.istore_n 3, 1) := by decide +kernel
theorem dL_writeNumber_41 : decode cL_writeNumber 41 = .ok (.goto (-23), 3) := by decide +kernel
theorem dL_writeNumber_44 : decode cL_writeNumber 44 = .ok (.return_, 1) := by decide +kernel
theorem dL_load_0 : decode cL_load 0 = .ok (.aload_n 0, 1) := by decide +kernel
theorem dL_load_1 : decode cL_load 1 = .ok (.iload_n 1, 1) := by decide +kernel
theorem dL_load_2 : decode cL_load 2 = .ok (.invokevirtual 37, 3) := by decide +kernel
theorem dL_load_5 : decode cL_load 5 = .ok (.ireturn, 1) := by decide +kernel
theorem dL_load_6 : decode cL_load 6 = .ok (.astore_n 2, 1) := by decide +kernel
theorem dL_load_7 : decode cL_load 7 = .ok (.ldc 42, 2) := by decide +kernel
theorem dL_load_9 : decode cL_load 9 = .ok (.ireturn, 1) := by decide +kernel
theorem dL_state_0 : decode cL_state 0 = .ok (.aload_n 0, 1) := by decide +kernel
theorem dL_state_1 : decode cL_state 1 = .ok (.iload_n 1, 1) := by decide +kernel
theorem dL_state_2 : decode cL_state 2 = .ok (.invokevirtual 43, 3) := by decide +kernel
theorem dL_state_5 : decode cL_state 5 = .ok (.ireturn, 1) := by decide +kernel
theorem dL_state_6 : decode cL_state 6 = .ok (.astore_n 2, 1) := by decide +kernel
theorem dL_state_7 : decode cL_state 7 = .ok (.ldc 42, 2) := by decide +kernel
theorem dL_state_9 : decode cL_state 9 = .ok (.ireturn, 1) := by decide +kernel
theorem dL_mass_0 : decode cL_mass 0 = .ok (.aload_n 0, 1) := by decide +kernel
theorem dL_mass_1 : decode cL_mass 1 = .ok (.iload_n 1, 1) := by decide +kernel
theorem dL_mass_2 : decode cL_mass 2 = .ok (.iload_n 2, 1) := by decide +kernel
theorem dL_mass_3 : decode cL_mass 3 = .ok (.invokevirtual 52, 3) := by decide +kernel
theorem dL_mass_6 : decode cL_mass 6 = .ok (.ireturn, 1) := by decide +kernel
theorem dL_mass_7 : decode cL_mass 7 = .ok (.astore_n 3, 1) := by decide +kernel
theorem dL_mass_8 : decode cL_mass 8 = .ok (.ldc 58, 2) := by decide +kernel
theorem dL_mass_10 : decode cL_mass 10 = .ok (.ireturn, 1) := by decide +kernel
theorem dL_mass_11 : decode cL_mass 11 = .ok (.astore_n 3, 1) := by decide +kernel
theorem dL_mass_12 : decode cL_mass 12 = .ok (.ldc 42, 2) := by decide +kernel
theorem dL_mass_14 : decode cL_mass 14 = .ok (.ireturn, 1) := by decide +kernel
theorem dL_spring_0 : decode cL_spring 0 = .ok (.aload_n 0, 1) := by decide +kernel
theorem dL_spring_1 : decode cL_spring 1 = .ok (.iload_n 1, 1) := by decide +kernel
theorem dL_spring_2 : decode cL_spring 2 = .ok (.iload_n 2, 1) := by decide +kernel
theorem dL_spring_3 : decode cL_spring 3 = .ok (.invokevirtual 59, 3) := by decide +kernel
theorem dL_spring_6 : decode cL_spring 6 = .ok (.ireturn, 1) := by decide +kernel
theorem dL_spring_7 : decode cL_spring 7 = .ok (.astore_n 3, 1) := by decide +kernel
theorem dL_spring_8 : decode cL_spring 8 = .ok (.ldc 58, 2) := by decide +kernel
theorem dL_spring_10 : decode cL_spring 10 = .ok (.ireturn, 1) := by decide +kernel
theorem dL_spring_11 : decode cL_spring 11 = .ok (.astore_n 3, 1) := by decide +kernel
theorem dL_spring_12 : decode cL_spring 12 = .ok (.ldc 42, 2) := by decide +kernel
theorem dL_spring_14 : decode cL_spring 14 = .ok (.ireturn, 1) := by decide +kernel
theorem dL_noted_0 : decode cL_noted 0 = .ok (.aload_n 0, 1) := by decide +kernel
theorem dL_noted_1 : decode cL_noted 1 = .ok (.iload_n 1, 1) := by decide +kernel
theorem dL_noted_2 : decode cL_noted 2 = .ok (.iload_n 2, 1) := by decide +kernel
theorem dL_noted_3 : decode cL_noted 3 = .ok (.invokevirtual 62, 3) := by decide +kernel
theorem dL_noted_6 : decode cL_noted 6 = .ok (.ireturn, 1) := by decide +kernel
theorem dL_noted_7 : decode cL_noted 7 = .ok (.astore_n 3, 1) := by decide +kernel
theorem dL_noted_8 : decode cL_noted 8 = .ok (.ldc 67, 2) := by decide +kernel
theorem dL_noted_10 : decode cL_noted 10 = .ok (.ireturn, 1) := by decide +kernel
theorem dL_noted_11 : decode cL_noted 11 = .ok (.astore_n 3, 1) := by decide +kernel
theorem dL_noted_12 : decode cL_noted 12 = .ok (.ldc 42, 2) := by decide +kernel
theorem dL_noted_14 : decode cL_noted 14 = .ok (.ireturn, 1) := by decide +kernel
theorem dL_waiting_0 : decode cL_waiting 0 = .ok (.aload_n 0, 1) := by decide +kernel
theorem dL_waiting_1 : decode cL_waiting 1 = .ok (.iload_n 1, 1) := by decide +kernel
theorem dL_waiting_2 : decode cL_waiting 2 = .ok (.iload_n 2, 1) := by decide +kernel
theorem dL_waiting_3 : decode cL_waiting 3 = .ok (.invokevirtual 68, 3) := by decide +kernel
theorem dL_waiting_6 : decode cL_waiting 6 = .ok (.ireturn, 1) := by decide +kernel
theorem dL_waiting_7 : decode cL_waiting 7 = .ok (.astore_n 3, 1) := by decide +kernel
theorem dL_waiting_8 : decode cL_waiting 8 = .ok (.ldc 67, 2) := by decide +kernel
theorem dL_waiting_10 : decode cL_waiting 10 = .ok (.ireturn, 1) := by decide +kernel
theorem dL_waiting_11 : decode cL_waiting 11 = .ok (.astore_n 3, 1) := by decide +kernel
theorem dL_waiting_12 : decode cL_waiting 12 = .ok (.ldc 42, 2) := by decide +kernel
theorem dL_waiting_14 : decode cL_waiting 14 = .ok (.ireturn, 1) := by decide +kernel
theorem dL_foretold_0 : decode cL_foretold 0 = .ok (.aload_n 0, 1) := by decide +kernel
theorem dL_foretold_1 : decode cL_foretold 1 = .ok (.iload_n 1, 1) := by decide +kernel
theorem dL_foretold_2 : decode cL_foretold 2 = .ok (.iload_n 2, 1) := by decide +kernel
theorem dL_foretold_3 : decode cL_foretold 3 = .ok (.iload_n 3, 1) := by decide +kernel
theorem dL_foretold_4 : decode cL_foretold 4 = .ok (.invokevirtual 71, 3) := by decide +kernel
theorem dL_foretold_7 : decode cL_foretold 7 = .ok (.ireturn, 1) := by decide +kernel
theorem dL_foretold_8 : decode cL_foretold 8 = .ok (.astore 4, 2) := by decide +kernel
theorem dL_foretold_10 : decode cL_foretold 10 = .ok (.ldc 58, 2) := by decide +kernel
theorem dL_foretold_12 : decode cL_foretold 12 = .ok (.ireturn, 1) := by decide +kernel
theorem dL_foretold_13 : decode cL_foretold 13 = .ok (.astore 4, 2) := by decide +kernel
theorem dL_foretold_15 : decode cL_foretold 15 = .ok (.ldc 42, 2) := by decide +kernel
theorem dL_foretold_17 : decode cL_foretold 17 = .ok (.ireturn, 1) := by decide +kernel
theorem dL_period_0 : decode cL_period 0 = .ok (.aload_n 0, 1) := by decide +kernel
theorem dL_period_1 : decode cL_period 1 = .ok (.iload_n 1, 1) := by decide +kernel
theorem dL_period_2 : decode cL_period 2 = .ok (.iload_n 2, 1) := by decide +kernel
theorem dL_period_3 : decode cL_period 3 = .ok (.invokevirtual 75, 3) := by decide +kernel
theorem dL_period_6 : decode cL_period 6 = .ok (.ireturn, 1) := by decide +kernel
theorem dL_period_7 : decode cL_period 7 = .ok (.astore_n 3, 1) := by decide +kernel
theorem dL_period_8 : decode cL_period 8 = .ok (.ldc 58, 2) := by decide +kernel
theorem dL_period_10 : decode cL_period 10 = .ok (.ireturn, 1) := by decide +kernel
theorem dL_period_11 : decode cL_period 11 = .ok (.astore_n 3, 1) := by decide +kernel
theorem dL_period_12 : decode cL_period 12 = .ok (.ldc 42, 2) := by decide +kernel
theorem dL_period_14 : decode cL_period 14 = .ok (.ireturn, 1) := by decide +kernel
theorem dL_breaksIn_0 : decode cL_breaksIn 0 = .ok (.aload_n 0, 1) := by decide +kernel
theorem dL_breaksIn_1 : decode cL_breaksIn 1 = .ok (.iload_n 1, 1) := by decide +kernel
theorem dL_breaksIn_2 : decode cL_breaksIn 2 = .ok (.invokevirtual 78, 3) := by decide +kernel
theorem dL_breaksIn_5 : decode cL_breaksIn 5 = .ok (.ireturn, 1) := by decide +kernel
theorem dL_breaksIn_6 : decode cL_breaksIn 6 = .ok (.astore_n 2, 1) := by decide +kernel
theorem dL_breaksIn_7 : decode cL_breaksIn 7 = .ok (.ldc 42, 2) := by decide +kernel
theorem dL_breaksIn_9 : decode cL_breaksIn 9 = .ok (.ireturn, 1) := by decide +kernel
theorem dL_pass_0 : decode cL_pass 0 = .ok (.aload_n 0, 1) := by decide +kernel
theorem dL_pass_1 : decode cL_pass 1 = .ok (.iload_n 1, 1) := by decide +kernel
theorem dL_pass_2 : decode cL_pass 2 = .ok (.invokevirtual 81, 3) := by decide +kernel
theorem dL_pass_5 : decode cL_pass 5 = .ok (.ireturn, 1) := by decide +kernel
theorem dL_pass_6 : decode cL_pass 6 = .ok (.astore_n 2, 1) := by decide +kernel
theorem dL_pass_7 : decode cL_pass 7 = .ok (.ldc 42, 2) := by decide +kernel
theorem dL_pass_9 : decode cL_pass 9 = .ok (.ireturn, 1) := by decide +kernel
theorem dL_pluck_0 : decode cL_pluck 0 = .ok (.aload_n 0, 1) := by decide +kernel
theorem dL_pluck_1 : decode cL_pluck 1 = .ok (.iload_n 1, 1) := by decide +kernel
theorem dL_pluck_2 : decode cL_pluck 2 = .ok (.iload_n 2, 1) := by decide +kernel
theorem dL_pluck_3 : decode cL_pluck 3 = .ok (.invokevirtual 84, 3) := by decide +kernel
theorem dL_pluck_6 : decode cL_pluck 6 = .ok (.ireturn, 1) := by decide +kernel
theorem dL_pluck_7 : decode cL_pluck 7 = .ok (.astore_n 3, 1) := by decide +kernel
theorem dL_pluck_8 : decode cL_pluck 8 = .ok (.ldc 58, 2) := by decide +kernel
theorem dL_pluck_10 : decode cL_pluck 10 = .ok (.ireturn, 1) := by decide +kernel
theorem dL_pluck_11 : decode cL_pluck 11 = .ok (.astore_n 3, 1) := by decide +kernel
theorem dL_pluck_12 : decode cL_pluck 12 = .ok (.ldc 42, 2) := by decide +kernel
theorem dL_pluck_14 : decode cL_pluck 14 = .ok (.ireturn, 1) := by decide +kernel
theorem dL_strike_0 : decode cL_strike 0 = .ok (.aload_n 0, 1) := by decide +kernel
theorem dL_strike_1 : decode cL_strike 1 = .ok (.iload_n 1, 1) := by decide +kernel
theorem dL_strike_2 : decode cL_strike 2 = .ok (.iload_n 2, 1) := by decide +kernel
theorem dL_strike_3 : decode cL_strike 3 = .ok (.invokevirtual 87, 3) := by decide +kernel
theorem dL_strike_6 : decode cL_strike 6 = .ok (.ireturn, 1) := by decide +kernel
theorem dL_strike_7 : decode cL_strike 7 = .ok (.astore_n 3, 1) := by decide +kernel
theorem dL_strike_8 : decode cL_strike 8 = .ok (.ldc 58, 2) := by decide +kernel
theorem dL_strike_10 : decode cL_strike 10 = .ok (.ireturn, 1) := by decide +kernel
theorem dL_strike_11 : decode cL_strike 11 = .ok (.astore_n 3, 1) := by decide +kernel
theorem dL_strike_12 : decode cL_strike 12 = .ok (.ldc 42, 2) := by decide +kernel
theorem dL_strike_14 : decode cL_strike 14 = .ok (.ireturn, 1) := by decide +kernel
theorem dL_impulse_0 : decode cL_impulse 0 = .ok (.aload_n 0, 1) := by decide +kernel
theorem dL_impulse_1 : decode cL_impulse 1 = .ok (.iload_n 1, 1) := by decide +kernel
theorem dL_impulse_2 : decode cL_impulse 2 = .ok (.iload_n 2, 1) := by decide +kernel
theorem dL_impulse_3 : decode cL_impulse 3 = .ok (.iload_n 3, 1) := by decide +kernel
theorem dL_impulse_4 : decode cL_impulse 4 = .ok (.invokevirtual 90, 3) := by decide +kernel
theorem dL_impulse_7 : decode cL_impulse 7 = .ok (.ireturn, 1) := by decide +kernel
theorem dL_impulse_8 : decode cL_impulse 8 = .ok (.astore 4, 2) := by decide +kernel
theorem dL_impulse_10 : decode cL_impulse 10 = .ok (.ldc 58, 2) := by decide +kernel
theorem dL_impulse_12 : decode cL_impulse 12 = .ok (.ireturn, 1) := by decide +kernel
theorem dL_impulse_13 : decode cL_impulse 13 = .ok (.astore 4, 2) := by decide +kernel
theorem dL_impulse_15 : decode cL_impulse 15 = .ok (.ldc 42, 2) := by decide +kernel
theorem dL_impulse_17 : decode cL_impulse 17 = .ok (.ireturn, 1) := by decide +kernel
theorem dL_impulse_18 : decode cL_impulse 18 = .ok (.astore 4, 2) := by decide +kernel
theorem dL_impulse_20 : decode cL_impulse 20 = .ok (.ldc 95, 2) := by decide +kernel
theorem dL_impulse_22 : decode cL_impulse 22 = .ok (.ireturn, 1) := by decide +kernel
theorem dL_stiffen_0 : decode cL_stiffen 0 = .ok (.aload_n 0, 1) := by decide +kernel
theorem dL_stiffen_1 : decode cL_stiffen 1 = .ok (.iload_n 1, 1) := by decide +kernel
theorem dL_stiffen_2 : decode cL_stiffen 2 = .ok (.iload_n 2, 1) := by decide +kernel
theorem dL_stiffen_3 : decode cL_stiffen 3 = .ok (.invokevirtual 96, 3) := by decide +kernel
theorem dL_stiffen_6 : decode cL_stiffen 6 = .ok (.ireturn, 1) := by decide +kernel
theorem dL_stiffen_7 : decode cL_stiffen 7 = .ok (.astore_n 3, 1) := by decide +kernel
theorem dL_stiffen_8 : decode cL_stiffen 8 = .ok (.ldc 58, 2) := by decide +kernel
theorem dL_stiffen_10 : decode cL_stiffen 10 = .ok (.ireturn, 1) := by decide +kernel
theorem dL_stiffen_11 : decode cL_stiffen 11 = .ok (.astore_n 3, 1) := by decide +kernel
theorem dL_stiffen_12 : decode cL_stiffen 12 = .ok (.ldc 42, 2) := by decide +kernel
theorem dL_stiffen_14 : decode cL_stiffen 14 = .ok (.ireturn, 1) := by decide +kernel
theorem dL_mend_0 : decode cL_mend 0 = .ok (.aload_n 0, 1) := by decide +kernel
theorem dL_mend_1 : decode cL_mend 1 = .ok (.iload_n 1, 1) := by decide +kernel
theorem dL_mend_2 : decode cL_mend 2 = .ok (.invokevirtual 99, 3) := by decide +kernel
theorem dL_mend_5 : decode cL_mend 5 = .ok (.ireturn, 1) := by decide +kernel
theorem dL_mend_6 : decode cL_mend 6 = .ok (.astore_n 2, 1) := by decide +kernel
theorem dL_mend_7 : decode cL_mend 7 = .ok (.ldc 58, 2) := by decide +kernel
theorem dL_mend_9 : decode cL_mend 9 = .ok (.ireturn, 1) := by decide +kernel
theorem dL_mend_10 : decode cL_mend 10 = .ok (.astore_n 2, 1) := by decide +kernel
theorem dL_mend_11 : decode cL_mend 11 = .ok (.ldc 95, 2) := by decide +kernel
theorem dL_mend_13 : decode cL_mend 13 = .ok (.ireturn, 1) := by decide +kernel
theorem dL_move_0 : decode cL_move 0 = .ok (.aload_n 0, 1) := by decide +kernel
theorem dL_move_1 : decode cL_move 1 = .ok (.iload_n 1, 1) := by decide +kernel
theorem dL_move_2 : decode cL_move 2 = .ok (.iload_n 2, 1) := by decide +kernel
theorem dL_move_3 : decode cL_move 3 = .ok (.invokevirtual 102, 3) := by decide +kernel
theorem dL_move_6 : decode cL_move 6 = .ok (.ireturn, 1) := by decide +kernel
theorem dL_move_7 : decode cL_move 7 = .ok (.astore_n 3, 1) := by decide +kernel
theorem dL_move_8 : decode cL_move 8 = .ok (.ldc 42, 2) := by decide +kernel
theorem dL_move_10 : decode cL_move 10 = .ok (.ireturn, 1) := by decide +kernel
theorem dL_with_0 : decode cL_with 0 = .ok (.aload_n 0, 1) := by decide +kernel
theorem dL_with_1 : decode cL_with 1 = .ok (.arraylength, 1) := by decide +kernel
theorem dL_with_2 : decode cL_with 2 = .ok (.iconst 1, 1) := by decide +kernel
theorem dL_with_3 : decode cL_with 3 = .ok (.iadd, 1) := by decide +kernel
theorem dL_with_4 : decode cL_with 4 = .ok (.anewarray 106, 3) := by decide +kernel
theorem dL_with_7 : decode cL_with 7 = .ok (.astore_n 2, 1) := by decide +kernel
theorem dL_with_8 : decode cL_with 8 = .ok (.iconst 0, 1) := by decide +kernel
theorem dL_with_9 : decode cL_with 9 = .ok (.istore_n 3, 1) := by decide +kernel
theorem dL_with_10 : decode cL_with 10 = .ok (.iload_n 3, 1) := by decide +kernel
theorem dL_with_11 : decode cL_with 11 = .ok (.aload_n 0, 1) := by decide +kernel
theorem dL_with_12 : decode cL_with 12 = .ok (.arraylength, 1) := by decide +kernel
theorem dL_with_13 : decode cL_with 13 = .ok (.if_icmp .ge 15, 3) := by decide +kernel
theorem dL_with_16 : decode cL_with 16 = .ok (.aload_n 2, 1) := by decide +kernel
theorem dL_with_17 : decode cL_with 17 = .ok (.iload_n 3, 1) := by decide +kernel
theorem dL_with_18 : decode cL_with 18 = .ok (.aload_n 0, 1) := by decide +kernel
theorem dL_with_19 : decode cL_with 19 = .ok (.iload_n 3, 1) := by decide +kernel
theorem dL_with_20 : decode cL_with 20 = .ok (.aaload, 1) := by decide +kernel
theorem dL_with_21 : decode cL_with 21 = .ok (.aastore, 1) := by decide +kernel
theorem dL_with_22 : decode cL_with 22 = .ok (.iinc 3 1, 3) := by decide +kernel
theorem dL_with_25 : decode cL_with 25 = .ok (.goto (-15), 3) := by decide +kernel
theorem dL_with_28 : decode cL_with 28 = .ok (.aload_n 2, 1) := by decide +kernel
theorem dL_with_29 : decode cL_with 29 = .ok (.aload_n 0, 1) := by decide +kernel
theorem dL_with_30 : decode cL_with 30 = .ok (.arraylength, 1) := by decide +kernel
theorem dL_with_31 : decode cL_with 31 = .ok (.aload_n 1, 1) := by decide +kernel
theorem dL_with_32 : decode cL_with 32 = .ok (.aastore, 1) := by decide +kernel
theorem dL_with_33 : decode cL_with 33 = .ok (.aload_n 2, 1) := by decide +kernel
theorem dL_with_34 : decode cL_with 34 = .ok (.areturn, 1) := by decide +kernel
theorem dL_limited_0 : decode cL_limited 0 = .ok (.lload_n 2, 1) := by decide +kernel
theorem dL_limited_1 : decode cL_limited 1 = .ok (.lneg, 1) := by decide +kernel
theorem dL_limited_2 : decode cL_limited 2 = .ok (.lload_n 2, 1) := by decide +kernel
theorem dL_limited_3 : decode cL_limited 3 = .ok (.lload_n 0, 1) := by decide +kernel
theorem dL_limited_4 : decode cL_limited 4 = .ok (.invokestatic 108, 3) := by decide +kernel
theorem dL_limited_7 : decode cL_limited 7 = .ok (.invokestatic 114, 3) := by decide +kernel
theorem dL_limited_10 : decode cL_limited 10 = .ok (.lreturn, 1) := by decide +kernel
theorem dL_writeAll_0 : decode cL_writeAll 0 = .ok (.aload_n 0, 1) := by decide +kernel
theorem dL_writeAll_1 : decode cL_writeAll 1 = .ok (.aload_n 1, 1) := by decide +kernel
theorem dL_writeAll_2 : decode cL_writeAll 2 = .ok (.aload_n 2, 1) := by decide +kernel
theorem dL_writeAll_3 : decode cL_writeAll 3 = .ok (.invokestatic 117, 3) := by decide +kernel
theorem dL_writeAll_6 : decode cL_writeAll 6 = .ok (.aload_n 3, 1) := by decide +kernel
theorem dL_writeAll_7 : decode cL_writeAll 7 = .ok (.astore 4, 2) := by decide +kernel
theorem dL_writeAll_9 : decode cL_writeAll 9 = .ok (.aload 4, 2) := by decide +kernel
theorem dL_writeAll_11 : decode cL_writeAll 11 = .ok (.arraylength, 1) := by decide +kernel
theorem dL_writeAll_12 : decode cL_writeAll 12 = .ok (.istore 5, 2) := by decide +kernel
theorem dL_writeAll_14 : decode cL_writeAll 14 = .ok (.iconst 0, 1) := by decide +kernel
theorem dL_writeAll_15 : decode cL_writeAll 15 = .ok (.istore 6, 2) := by decide +kernel
theorem dL_writeAll_17 : decode cL_writeAll 17 = .ok (.iload 6, 2) := by decide +kernel
theorem dL_writeAll_19 : decode cL_writeAll 19 = .ok (.iload 5, 2) := by decide +kernel
theorem dL_writeAll_21 : decode cL_writeAll 21 = .ok (.if_icmp .ge 43, 3) := by decide +kernel
theorem dL_writeAll_24 : decode cL_writeAll 24 = .ok (.aload 4, 2) := by decide +kernel
theorem dL_writeAll_26 : decode cL_writeAll 26 = .ok (.iload 6, 2) := by decide +kernel
theorem dL_writeAll_28 : decode cL_writeAll 28 = .ok (.iaload, 1) := by decide +kernel
theorem dL_writeAll_29 : decode cL_writeAll 29 = .ok (.istore 7, 2) := by decide +kernel
theorem dL_writeAll_31 : decode cL_writeAll 31 = .ok (.aload_n 0, 1) := by decide +kernel
theorem dL_writeAll_32 : decode cL_writeAll 32 = .ok (.aload_n 1, 1) := by decide +kernel
theorem dL_writeAll_33 : decode cL_writeAll 33 = .ok (.iload 7, 2) := by decide +kernel
theorem dL_writeAll_35 : decode cL_writeAll 35 = .ok (.ifCond .ge 8, 3) := by decide +kernel
theorem dL_writeAll_38 : decode cL_writeAll 38 = .ok (.ldc 121, 2) := by decide +kernel
theorem dL_writeAll_40 : decode cL_writeAll 40 = .ok (.goto 5, 3) := by decide +kernel
theorem dL_writeAll_43 : decode cL_writeAll 43 = .ok (.ldc 123, 2) := by decide +kernel
theorem dL_writeAll_45 : decode cL_writeAll 45 = .ok (.invokestatic 117, 3) := by decide +kernel
theorem dL_writeAll_48 : decode cL_writeAll 48 = .ok (.aload_n 0, 1) := by decide +kernel
theorem dL_writeAll_49 : decode cL_writeAll 49 = .ok (.aload_n 1, 1) := by decide +kernel
theorem dL_writeAll_50 : decode cL_writeAll 50 = .ok (.iload 7, 2) := by decide +kernel
theorem dL_writeAll_52 : decode cL_writeAll 52 = .ok (.invokestatic 125, 3) := by decide +kernel
theorem dL_writeAll_55 : decode cL_writeAll 55 = .ok (.invokestatic 128, 3) := by decide +kernel
theorem dL_writeAll_58 : decode cL_writeAll 58 = .ok (.iinc 6 1, 3) := by decide +kernel
theorem dL_writeAll_61 : decode cL_writeAll 61 = .ok (.goto (-44), 3) := by decide +kernel
theorem dL_writeAll_64 : decode cL_writeAll 64 = .ok (.return_, 1) := by decide +kernel
theorem dL_randomChain_0 : decode cL_randomChain 0 = .ok (.iconst 1, 1) := by decide +kernel
theorem dL_randomChain_1 : decode cL_randomChain 1 = .ok (.aload_n 2, 1) := by decide +kernel
theorem dL_randomChain_2 : decode cL_randomChain 2 = .ok (.bipush 6, 2) := by decide +kernel
theorem dL_randomChain_4 : decode cL_randomChain 4 = .ok (.invokevirtual 131, 3) := by decide +kernel
theorem dL_randomChain_7 : decode cL_randomChain 7 = .ok (.iadd, 1) := by decide +kernel
theorem dL_randomChain_8 : decode cL_randomChain 8 = .ok (.istore_n 3, 1) := by decide +kernel
theorem dL_randomChain_9 : decode cL_randomChain 9 = .ok (.iload_n 3, 1) := by decide +kernel
theorem dL_randomChain_10 : decode cL_randomChain 10 = .ok (.invokestatic 136, 3) := by decide +kernel
theorem dL_randomChain_13 : decode cL_randomChain 13 = .ok (.astore 4, 2) := by decide +kernel
theorem dL_randomChain_15 : decode cL_randomChain 15 = .ok (.aload_n 0, 1) := by decide +kernel
theorem dL_randomChain_16 : decode cL_randomChain 16 = .ok (.aload_n 1, 1) := by decide +kernel
theorem dL_randomChain_17 : decode cL_randomChain 17 = .ok (.ldc 142, 2) := by decide +kernel
theorem dL_randomChain_19 : decode cL_randomChain 19 = .ok (.iconst 1, 1) := by decide +kernel
theorem dL_randomChain_20 : decode cL_randomChain 20 = .ok (.newarray .int, 2) := by decide +kernel
theorem dL_randomChain_22 : decode cL_randomChain 22 = .ok (.dup, 1) := by decide +kernel
theorem dL_randomChain_23 : decode cL_randomChain 23 = .ok (.iconst 0, 1) := by decide +kernel
theorem dL_randomChain_24 : decode cL_randomChain 24 = .ok (.iload_n 3, 1) := by decide +kernel
theorem dL_randomChain_25 : decode cL_randomChain 25 = .ok (.iastore, 1) := by decide +kernel
theorem dL_randomChain_26 : decode cL_randomChain 26 = .ok (.invokestatic 144, 3) := by decide +kernel
theorem dL_randomChain_29 : decode cL_randomChain 29 = .ok (.aload_n 0, 1) := by decide +kernel
theorem dL_randomChain_30 : decode cL_randomChain 30 = .ok (.aload_n 1, 1) := by decide +kernel
theorem dL_randomChain_31 : decode cL_randomChain 31 = .ok (.ldc 148, 2) := by decide +kernel
theorem dL_randomChain_33 : decode cL_randomChain 33 = .ok (.invokestatic 117, 3) := by decide +kernel
theorem dL_randomChain_36 : decode cL_randomChain 36 = .ok (.aload_n 2, 1) := by decide +kernel
theorem dL_randomChain_37 : decode cL_randomChain 37 = .ok (.iconst 2, 1) := by decide +kernel
theorem dL_randomChain_38 : decode cL_randomChain 38 = .ok (.invokevirtual 131, 3) := by decide +kernel
theorem dL_randomChain_41 : decode cL_randomChain 41 = .ok (.ifCond .ne 143, 3) := by decide +kernel
theorem dL_randomChain_44 : decode cL_randomChain 44 = .ok (.iconst 1, 1) := by decide +kernel
theorem dL_randomChain_45 : decode cL_randomChain 45 = .ok (.aload_n 2, 1) := by decide +kernel
theorem dL_randomChain_46 : decode cL_randomChain 46 = .ok (.bipush 99, 2) := by decide +kernel
theorem dL_randomChain_48 : decode cL_randomChain 48 = .ok (.invokevirtual 131, 3) := by decide +kernel
theorem dL_randomChain_51 : decode cL_randomChain 51 = .ok (.iadd, 1) := by decide +kernel
theorem dL_randomChain_52 : decode cL_randomChain 52 = .ok (.istore 5, 2) := by decide +kernel
theorem dL_randomChain_54 : decode cL_randomChain 54 = .ok (.aload_n 2, 1) := by decide +kernel
theorem dL_randomChain_55 : decode cL_randomChain 55 = .ok (.sipush 1000, 3) := by decide +kernel
theorem dL_randomChain_58 : decode cL_randomChain 58 = .ok (.invokevirtual 131, 3) := by decide +kernel
theorem dL_randomChain_61 : decode cL_randomChain 61 = .ok (.istore 6, 2) := by decide +kernel
theorem dL_randomChain_63 : decode cL_randomChain 63 = .ok (.aload 4, 2) := by decide +kernel
theorem dL_randomChain_65 : decode cL_randomChain 65 = .ok (.getfield 150, 3) := by decide +kernel
theorem dL_randomChain_68 : decode cL_randomChain 68 = .ok (.astore 7, 2) := by decide +kernel
theorem dL_randomChain_70 : decode cL_randomChain 70 = .ok (.aload 7, 2) := by decide +kernel
theorem dL_randomChain_72 : decode cL_randomChain 72 = .ok (.arraylength, 1) := by decide +kernel
theorem dL_randomChain_73 : decode cL_randomChain 73 = .ok (.istore 8, 2) := by decide +kernel
theorem dL_randomChain_75 : decode cL_randomChain 75 = .ok (.iconst 0, 1) := by decide +kernel
theorem dL_randomChain_76 : decode cL_randomChain 76 = .ok (.istore 9, 2) := by decide +kernel
theorem dL_randomChain_78 : decode cL_randomChain 78 = .ok (.iload 9, 2) := by decide +kernel
theorem dL_randomChain_80 : decode cL_randomChain 80 = .ok (.iload 8, 2) := by decide +kernel
theorem dL_randomChain_82 : decode cL_randomChain 82 = .ok (.if_icmp .ge 23, 3) := by decide +kernel
theorem dL_randomChain_85 : decode cL_randomChain 85 = .ok (.aload 7, 2) := by decide +kernel
theorem dL_randomChain_87 : decode cL_randomChain 87 = .ok (.iload 9, 2) := by decide +kernel
theorem dL_randomChain_89 : decode cL_randomChain 89 = .ok (.aaload, 1) := by decide +kernel
theorem dL_randomChain_90 : decode cL_randomChain 90 = .ok (.astore 10, 2) := by decide +kernel
theorem dL_randomChain_92 : decode cL_randomChain 92 = .ok (.aload 10, 2) := by decide +kernel
theorem dL_randomChain_94 : decode cL_randomChain 94 = .ok (.iload 5, 2) := by decide +kernel
theorem dL_randomChain_96 : decode cL_randomChain 96 = .ok (.putfield 154, 3) := by decide +kernel
theorem dL_randomChain_99 : decode cL_randomChain 99 = .ok (.iinc 9 1, 3) := by decide +kernel
theorem dL_randomChain_102 : decode cL_randomChain 102 = .ok (.goto (-24), 3) := by decide +kernel
theorem dL_randomChain_105 : decode cL_randomChain 105 = .ok (.aload 4, 2) := by decide +kernel
theorem dL_randomChain_107 : decode cL_randomChain 107 = .ok (.getfield 160, 3) := by decide +kernel
theorem dL_randomChain_110 : decode cL_randomChain 110 = .ok (.astore 7, 2) := by decide +kernel
theorem dL_randomChain_112 : decode cL_randomChain 112 = .ok (.aload 7, 2) := by decide +kernel
theorem dL_randomChain_114 : decode cL_randomChain 114 = .ok (.arraylength, 1) := by decide +kernel
theorem dL_randomChain_115 : decode cL_randomChain 115 = .ok (.istore 8, 2) := by decide +kernel
theorem dL_randomChain_117 : decode cL_randomChain 117 = .ok (.iconst 0, 1) := by decide +kernel
theorem dL_randomChain_118 : decode cL_randomChain 118 = .ok (.istore 9, 2) := by decide +kernel
theorem dL_randomChain_120 : decode cL_randomChain 120 = .ok (.iload 9, 2) := by decide +kernel
theorem dL_randomChain_122 : decode cL_randomChain 122 = .ok (.iload 8, 2) := by decide +kernel
theorem dL_randomChain_124 : decode cL_randomChain 124 = .ok (.if_icmp .ge 23, 3) := by decide +kernel
theorem dL_randomChain_127 : decode cL_randomChain 127 = .ok (.aload 7, 2) := by decide +kernel
theorem dL_randomChain_129 : decode cL_randomChain 129 = .ok (.iload 9, 2) := by decide +kernel
theorem dL_randomChain_131 : decode cL_randomChain 131 = .ok (.aaload, 1) := by decide +kernel
theorem dL_randomChain_132 : decode cL_randomChain 132 = .ok (.astore 10, 2) := by decide +kernel
theorem dL_randomChain_134 : decode cL_randomChain 134 = .ok (.aload 10, 2) := by decide +kernel
theorem dL_randomChain_136 : decode cL_randomChain 136 = .ok (.iload 6, 2) := by decide +kernel
theorem dL_randomChain_138 : decode cL_randomChain 138 = .ok (.putfield 164, 3) := by decide +kernel
theorem dL_randomChain_141 : decode cL_randomChain 141 = .ok (.iinc 9 1, 3) := by decide +kernel
theorem dL_randomChain_144 : decode cL_randomChain 144 = .ok (.goto (-24), 3) := by decide +kernel
theorem dL_randomChain_147 : decode cL_randomChain 147 = .ok (.aload_n 0, 1) := by decide +kernel
theorem dL_randomChain_148 : decode cL_randomChain 148 = .ok (.aload_n 1, 1) := by decide +kernel
theorem dL_randomChain_149 : decode cL_randomChain 149 = .ok (.ldc 169, 2) := by decide +kernel
theorem dL_randomChain_151 : decode cL_randomChain 151 = .ok (.iconst 1, 1) := by decide +kernel
theorem dL_randomChain_152 : decode cL_randomChain 152 = .ok (.newarray .int, 2) := by decide +kernel
theorem dL_randomChain_154 : decode cL_randomChain 154 = .ok (.dup, 1) := by decide +kernel
theorem dL_randomChain_155 : decode cL_randomChain 155 = .ok (.iconst 0, 1) := by decide +kernel
theorem dL_randomChain_156 : decode cL_randomChain 156 = .ok (.iload 5, 2) := by decide +kernel
theorem dL_randomChain_158 : decode cL_randomChain 158 = .ok (.iastore, 1) := by decide +kernel
theorem dL_randomChain_159 : decode cL_randomChain 159 = .ok (.invokestatic 144, 3) := by decide +kernel
theorem dL_randomChain_162 : decode cL_randomChain 162 = .ok (.aload_n 0, 1) := by decide +kernel
theorem dL_randomChain_163 : decode cL_randomChain 163 = .ok (.aload_n 1, 1) := by decide +kernel
theorem dL_randomChain_164 : decode cL_randomChain 164 = .ok (.ldc 170, 2) := by decide +kernel
theorem dL_randomChain_166 : decode cL_randomChain 166 = .ok (.iconst 1, 1) := by decide +kernel
theorem dL_randomChain_167 : decode cL_randomChain 167 = .ok (.newarray .int, 2) := by decide +kernel
theorem dL_randomChain_169 : decode cL_randomChain 169 = .ok (.dup, 1) := by decide +kernel
theorem dL_randomChain_170 : decode cL_randomChain 170 = .ok (.iconst 0, 1) := by decide +kernel
theorem dL_randomChain_171 : decode cL_randomChain 171 = .ok (.iload 6, 2) := by decide +kernel
theorem dL_randomChain_173 : decode cL_randomChain 173 = .ok (.iastore, 1) := by decide +kernel
theorem dL_randomChain_174 : decode cL_randomChain 174 = .ok (.invokestatic 144, 3) := by decide +kernel
theorem dL_randomChain_177 : decode cL_randomChain 177 = .ok (.aload_n 0, 1) := by decide +kernel
theorem dL_randomChain_178 : decode cL_randomChain 178 = .ok (.aload_n 1, 1) := by decide +kernel
theorem dL_randomChain_179 : decode cL_randomChain 179 = .ok (.ldc 148, 2) := by decide +kernel
theorem dL_randomChain_181 : decode cL_randomChain 181 = .ok (.invokestatic 117, 3) := by decide +kernel
theorem dL_randomChain_184 : decode cL_randomChain 184 = .ok (.aload_n 2, 1) := by decide +kernel
theorem dL_randomChain_185 : decode cL_randomChain 185 = .ok (.iconst 4, 1) := by decide +kernel
theorem dL_randomChain_186 : decode cL_randomChain 186 = .ok (.invokevirtual 131, 3) := by decide +kernel
theorem dL_randomChain_189 : decode cL_randomChain 189 = .ok (.istore 5, 2) := by decide +kernel
theorem dL_randomChain_191 : decode cL_randomChain 191 = .ok (.iload 5, 2) := by decide +kernel
theorem dL_randomChain_193 : decode cL_randomChain 193 = .ok (.ifCond .le 143, 3) := by decide +kernel
theorem dL_randomChain_196 : decode cL_randomChain 196 = .ok (.aload_n 2, 1) := by decide +kernel
theorem dL_randomChain_197 : decode cL_randomChain 197 = .ok (.iload_n 3, 1) := by decide +kernel
theorem dL_randomChain_198 : decode cL_randomChain 198 = .ok (.iconst 1, 1) := by decide +kernel
theorem dL_randomChain_199 : decode cL_randomChain 199 = .ok (.iadd, 1) := by decide +kernel
theorem dL_randomChain_200 : decode cL_randomChain 200 = .ok (.invokevirtual 131, 3) := by decide +kernel
theorem dL_randomChain_203 : decode cL_randomChain 203 = .ok (.istore 6, 2) := by decide +kernel
theorem dL_randomChain_205 : decode cL_randomChain 205 = .ok (.aload 4, 2) := by decide +kernel
theorem dL_randomChain_207 : decode cL_randomChain 207 = .ok (.getfield 160, 3) := by decide +kernel
theorem dL_randomChain_210 : decode cL_randomChain 210 = .ok (.iload 6, 2) := by decide +kernel
theorem dL_randomChain_212 : decode cL_randomChain 212 = .ok (.aaload, 1) := by decide +kernel
theorem dL_randomChain_213 : decode cL_randomChain 213 = .ok (.aload_n 2, 1) := by decide +kernel
theorem dL_randomChain_214 : decode cL_randomChain 214 = .ok (.sipush 1000, 3) := by decide +kernel
theorem dL_randomChain_217 : decode cL_randomChain 217 = .ok (.invokevirtual 131, 3) := by decide +kernel
theorem dL_randomChain_220 : decode cL_randomChain 220 = .ok (.putfield 164, 3) := by decide +kernel
theorem dL_randomChain_223 : decode cL_randomChain 223 = .ok (.aload 4, 2) := by decide +kernel
theorem dL_randomChain_225 : decode cL_randomChain 225 = .ok (.getfield 160, 3) := by decide +kernel
theorem dL_randomChain_228 : decode cL_randomChain 228 = .ok (.iload 6, 2) := by decide +kernel
theorem dL_randomChain_230 : decode cL_randomChain 230 = .ok (.aaload, 1) := by decide +kernel
theorem dL_randomChain_231 : decode cL_randomChain 231 = .ok (.aload_n 2, 1) := by decide +kernel
theorem dL_randomChain_232 : decode cL_randomChain 232 = .ok (.iconst 2, 1) := by decide +kernel
theorem dL_randomChain_233 : decode cL_randomChain 233 = .ok (.invokevirtual 131, 3) := by decide +kernel
theorem dL_randomChain_236 : decode cL_randomChain 236 = .ok (.ifCond .ne 7, 3) := by decide +kernel
theorem dL_randomChain_239 : decode cL_randomChain 239 = .ok (.iconst 0, 1) := by decide +kernel
theorem dL_randomChain_240 : decode cL_randomChain 240 = .ok (.goto 13, 3) := by decide +kernel
theorem dL_randomChain_243 : decode cL_randomChain 243 = .ok (.bipush 50, 2) := by decide +kernel
theorem dL_randomChain_245 : decode cL_randomChain 245 = .ok (.aload_n 2, 1) := by decide +kernel
theorem dL_randomChain_246 : decode cL_randomChain 246 = .ok (.sipush 3000, 3) := by decide +kernel
theorem dL_randomChain_249 : decode cL_randomChain 249 = .ok (.invokevirtual 131, 3) := by decide +kernel
theorem dL_randomChain_252 : decode cL_randomChain 252 = .ok (.iadd, 1) := by decide +kernel
theorem dL_randomChain_253 : decode cL_randomChain 253 = .ok (.putfield 172, 3) := by decide +kernel
theorem dL_randomChain_256 : decode cL_randomChain 256 = .ok (.aload_n 0, 1) := by decide +kernel
theorem dL_randomChain_257 : decode cL_randomChain 257 = .ok (.aload_n 1, 1) := by decide +kernel
theorem dL_randomChain_258 : decode cL_randomChain 258 = .ok (.ldc 175, 2) := by decide +kernel
theorem dL_randomChain_260 : decode cL_randomChain 260 = .ok (.iconst 2, 1) := by decide +kernel
theorem dL_randomChain_261 : decode cL_randomChain 261 = .ok (.newarray .int, 2) := by decide +kernel
theorem dL_randomChain_263 : decode cL_randomChain 263 = .ok (.dup, 1) := by decide +kernel
theorem dL_randomChain_264 : decode cL_randomChain 264 = .ok (.iconst 0, 1) := by decide +kernel
theorem dL_randomChain_265 : decode cL_randomChain 265 = .ok (.iload 6, 2) := by decide +kernel
theorem dL_randomChain_267 : decode cL_randomChain 267 = .ok (.iastore, 1) := by decide +kernel
theorem dL_randomChain_268 : decode cL_randomChain 268 = .ok (.dup, 1) := by decide +kernel
theorem dL_randomChain_269 : decode cL_randomChain 269 = .ok (.iconst 1, 1) := by decide +kernel
theorem dL_randomChain_270 : decode cL_randomChain 270 = .ok (.aload 4, 2) := by decide +kernel
theorem dL_randomChain_272 : decode cL_randomChain 272 = .ok (.getfield 160, 3) := by decide +kernel
theorem dL_randomChain_275 : decode cL_randomChain 275 = .ok (.iload 6, 2) := by decide +kernel
theorem dL_randomChain_277 : decode cL_randomChain 277 = .ok (.aaload, 1) := by decide +kernel
theorem dL_randomChain_278 : decode cL_randomChain 278 = .ok (.getfield 164, 3) := by decide +kernel
theorem dL_randomChain_281 : decode cL_randomChain 281 = .ok (.iastore, 1) := by decide +kernel
theorem dL_randomChain_282 : decode cL_randomChain 282 = .ok (.invokestatic 144, 3) := by decide +kernel
theorem dL_randomChain_285 : decode cL_randomChain 285 = .ok (.aload 4, 2) := by decide +kernel
theorem dL_randomChain_287 : decode cL_randomChain 287 = .ok (.getfield 160, 3) := by decide +kernel
theorem dL_randomChain_290 : decode cL_randomChain 290 = .ok (.iload 6, 2) := by decide +kernel
theorem dL_randomChain_292 : decode cL_randomChain 292 = .ok (.aaload, 1) := by decide +kernel
theorem dL_randomChain_293 : decode cL_randomChain 293 = .ok (.getfield 172, 3) := by decide +kernel
theorem dL_randomChain_296 : decode cL_randomChain 296 = .ok (.ifCond .le 27, 3) := by decide +kernel
theorem dL_randomChain_299 : decode cL_randomChain 299 = .ok (.aload_n 0, 1) := by decide +kernel
theorem dL_randomChain_300 : decode cL_randomChain 300 = .ok (.aload_n 1, 1) := by decide +kernel
theorem dL_randomChain_301 : decode cL_randomChain 301 = .ok (.ldc 176, 2) := by decide +kernel
theorem dL_randomChain_303 : decode cL_randomChain 303 = .ok (.iconst 1, 1) := by decide +kernel
theorem dL_randomChain_304 : decode cL_randomChain 304 = .ok (.newarray .int, 2) := by decide +kernel
theorem dL_randomChain_306 : decode cL_randomChain 306 = .ok (.dup, 1) := by decide +kernel
theorem dL_randomChain_307 : decode cL_randomChain 307 = .ok (.iconst 0, 1) := by decide +kernel
theorem dL_randomChain_308 : decode cL_randomChain 308 = .ok (.aload 4, 2) := by decide +kernel
theorem dL_randomChain_310 : decode cL_randomChain 310 = .ok (.getfield 160, 3) := by decide +kernel
theorem dL_randomChain_313 : decode cL_randomChain 313 = .ok (.iload 6, 2) := by decide +kernel
theorem dL_randomChain_315 : decode cL_randomChain 315 = .ok (.aaload, 1) := by decide +kernel
theorem dL_randomChain_316 : decode cL_randomChain 316 = .ok (.getfield 172, 3) := by decide +kernel
theorem dL_randomChain_319 : decode cL_randomChain 319 = .ok (.iastore, 1) := by decide +kernel
theorem dL_randomChain_320 : decode cL_randomChain 320 = .ok (.invokestatic 144, 3) := by decide +kernel
theorem dL_randomChain_323 : decode cL_randomChain 323 = .ok (.aload_n 0, 1) := by decide +kernel
theorem dL_randomChain_324 : decode cL_randomChain 324 = .ok (.aload_n 1, 1) := by decide +kernel
theorem dL_randomChain_325 : decode cL_randomChain 325 = .ok (.ldc 148, 2) := by decide +kernel
theorem dL_randomChain_327 : decode cL_randomChain 327 = .ok (.invokestatic 117, 3) := by decide +kernel
theorem dL_randomChain_330 : decode cL_randomChain 330 = .ok (.iinc 5 (-1), 3) := by decide +kernel
theorem dL_randomChain_333 : decode cL_randomChain 333 = .ok (.goto (-142), 3) := by decide +kernel
theorem dL_randomChain_336 : decode cL_randomChain 336 = .ok (.aload_n 2, 1) := by decide +kernel
theorem dL_randomChain_337 : decode cL_randomChain 337 = .ok (.iconst 2, 1) := by decide +kernel
theorem dL_randomChain_338 : decode cL_randomChain 338 = .ok (.invokevirtual 131, 3) := by decide +kernel
theorem dL_randomChain_341 : decode cL_randomChain 341 = .ok (.ifCond .ne 40, 3) := by decide +kernel
theorem dL_randomChain_344 : decode cL_randomChain 344 = .ok (.aload 4, 2) := by decide +kernel
theorem dL_randomChain_346 : decode cL_randomChain 346 = .ok (.aload_n 2, 1) := by decide +kernel
theorem dL_randomChain_347 : decode cL_randomChain 347 = .ok (.sipush 200, 3) := by decide +kernel
theorem dL_randomChain_350 : decode cL_randomChain 350 = .ok (.invokevirtual 131, 3) := by decide +kernel
theorem dL_randomChain_353 : decode cL_randomChain 353 = .ok (.putfield 178, 3) := by decide +kernel
theorem dL_randomChain_356 : decode cL_randomChain 356 = .ok (.aload_n 0, 1) := by decide +kernel
theorem dL_randomChain_357 : decode cL_randomChain 357 = .ok (.aload_n 1, 1) := by decide +kernel
theorem dL_randomChain_358 : decode cL_randomChain 358 = .ok (.ldc 181, 2) := by decide +kernel
theorem dL_randomChain_360 : decode cL_randomChain 360 = .ok (.iconst 1, 1) := by decide +kernel
theorem dL_randomChain_361 : decode cL_randomChain 361 = .ok (.newarray .int, 2) := by decide +kernel
theorem dL_randomChain_363 : decode cL_randomChain 363 = .ok (.dup, 1) := by decide +kernel
theorem dL_randomChain_364 : decode cL_randomChain 364 = .ok (.iconst 0, 1) := by decide +kernel
theorem dL_randomChain_365 : decode cL_randomChain 365 = .ok (.aload 4, 2) := by decide +kernel
theorem dL_randomChain_367 : decode cL_randomChain 367 = .ok (.getfield 178, 3) := by decide +kernel
theorem dL_randomChain_370 : decode cL_randomChain 370 = .ok (.iastore, 1) := by decide +kernel
theorem dL_randomChain_371 : decode cL_randomChain 371 = .ok (.invokestatic 144, 3) := by decide +kernel
theorem dL_randomChain_374 : decode cL_randomChain 374 = .ok (.aload_n 0, 1) := by decide +kernel
theorem dL_randomChain_375 : decode cL_randomChain 375 = .ok (.aload_n 1, 1) := by decide +kernel
theorem dL_randomChain_376 : decode cL_randomChain 376 = .ok (.ldc 148, 2) := by decide +kernel
theorem dL_randomChain_378 : decode cL_randomChain 378 = .ok (.invokestatic 117, 3) := by decide +kernel
theorem dL_randomChain_381 : decode cL_randomChain 381 = .ok (.iconst 0, 1) := by decide +kernel
theorem dL_randomChain_382 : decode cL_randomChain 382 = .ok (.istore 5, 2) := by decide +kernel
theorem dL_randomChain_384 : decode cL_randomChain 384 = .ok (.iload 5, 2) := by decide +kernel
theorem dL_randomChain_386 : decode cL_randomChain 386 = .ok (.iload_n 3, 1) := by decide +kernel
theorem dL_randomChain_387 : decode cL_randomChain 387 = .ok (.if_icmp .ge 229, 3) := by decide +kernel
theorem dL_randomChain_390 : decode cL_randomChain 390 = .ok (.aload_n 2, 1) := by decide +kernel
theorem dL_randomChain_391 : decode cL_randomChain 391 = .ok (.iconst 3, 1) := by decide +kernel
theorem dL_randomChain_392 : decode cL_randomChain 392 = .ok (.invokevirtual 131, 3) := by decide +kernel
theorem dL_randomChain_395 : decode cL_randomChain 395 = .ok (.ifCond .ne 58, 3) := by decide +kernel
theorem dL_randomChain_398 : decode cL_randomChain 398 = .ok (.aload 4, 2) := by decide +kernel
theorem dL_randomChain_400 : decode cL_randomChain 400 = .ok (.getfield 150, 3) := by decide +kernel
theorem dL_randomChain_403 : decode cL_randomChain 403 = .ok (.iload 5, 2) := by decide +kernel
theorem dL_randomChain_405 : decode cL_randomChain 405 = .ok (.aaload, 1) := by decide +kernel
theorem dL_randomChain_406 : decode cL_randomChain 406 = .ok (.iconst 1, 1) := by decide +kernel
theorem dL_randomChain_407 : decode cL_randomChain 407 = .ok (.aload_n 2, 1) := by decide +kernel
theorem dL_randomChain_408 : decode cL_randomChain 408 = .ok (.bipush 99, 2) := by decide +kernel
theorem dL_randomChain_410 : decode cL_randomChain 410 = .ok (.invokevirtual 131, 3) := by decide +kernel
theorem dL_randomChain_413 : decode cL_randomChain 413 = .ok (.iadd, 1) := by decide +kernel
theorem dL_randomChain_414 : decode cL_randomChain 414 = .ok (.putfield 154, 3) := by decide +kernel
theorem dL_randomChain_417 : decode cL_randomChain 417 = .ok (.aload_n 0, 1) := by decide +kernel
theorem dL_randomChain_418 : decode cL_randomChain 418 = .ok (.aload_n 1, 1) := by decide +kernel
theorem dL_randomChain_419 : decode cL_randomChain 419 = .ok (.ldc 183, 2) := by decide +kernel
theorem dL_randomChain_421 : decode cL_randomChain 421 = .ok (.iconst 2, 1) := by decide +kernel
theorem dL_randomChain_422 : decode cL_randomChain 422 = .ok (.newarray .int, 2) := by decide +kernel
theorem dL_randomChain_424 : decode cL_randomChain 424 = .ok (.dup, 1) := by decide +kernel
theorem dL_randomChain_425 : decode cL_randomChain 425 = .ok (.iconst 0, 1) := by decide +kernel
theorem dL_randomChain_426 : decode cL_randomChain 426 = .ok (.iload 5, 2) := by decide +kernel
theorem dL_randomChain_428 : decode cL_randomChain 428 = .ok (.iastore, 1) := by decide +kernel
theorem dL_randomChain_429 : decode cL_randomChain 429 = .ok (.dup, 1) := by decide +kernel
theorem dL_randomChain_430 : decode cL_randomChain 430 = .ok (.iconst 1, 1) := by decide +kernel
theorem dL_randomChain_431 : decode cL_randomChain 431 = .ok (.aload 4, 2) := by decide +kernel
theorem dL_randomChain_433 : decode cL_randomChain 433 = .ok (.getfield 150, 3) := by decide +kernel
theorem dL_randomChain_436 : decode cL_randomChain 436 = .ok (.iload 5, 2) := by decide +kernel
theorem dL_randomChain_438 : decode cL_randomChain 438 = .ok (.aaload, 1) := by decide +kernel
theorem dL_randomChain_439 : decode cL_randomChain 439 = .ok (.getfield 154, 3) := by decide +kernel
theorem dL_randomChain_442 : decode cL_randomChain 442 = .ok (.iastore, 1) := by decide +kernel
theorem dL_randomChain_443 : decode cL_randomChain 443 = .ok (.invokestatic 144, 3) := by decide +kernel
theorem dL_randomChain_446 : decode cL_randomChain 446 = .ok (.aload_n 0, 1) := by decide +kernel
theorem dL_randomChain_447 : decode cL_randomChain 447 = .ok (.aload_n 1, 1) := by decide +kernel
theorem dL_randomChain_448 : decode cL_randomChain 448 = .ok (.ldc 148, 2) := by decide +kernel
theorem dL_randomChain_450 : decode cL_randomChain 450 = .ok (.invokestatic 117, 3) := by decide +kernel
theorem dL_randomChain_453 : decode cL_randomChain 453 = .ok (.aload_n 2, 1) := by decide +kernel
theorem dL_randomChain_454 : decode cL_randomChain 454 = .ok (.iconst 2, 1) := by decide +kernel
theorem dL_randomChain_455 : decode cL_randomChain 455 = .ok (.invokevirtual 131, 3) := by decide +kernel
theorem dL_randomChain_458 : decode cL_randomChain 458 = .ok (.ifCond .ne 63, 3) := by decide +kernel
theorem dL_randomChain_461 : decode cL_randomChain 461 = .ok (.aload 4, 2) := by decide +kernel
theorem dL_randomChain_463 : decode cL_randomChain 463 = .ok (.getfield 150, 3) := by decide +kernel
theorem dL_randomChain_466 : decode cL_randomChain 466 = .ok (.iload 5, 2) := by decide +kernel
theorem dL_randomChain_468 : decode cL_randomChain 468 = .ok (.aaload, 1) := by decide +kernel
theorem dL_randomChain_469 : decode cL_randomChain 469 = .ok (.aload_n 2, 1) := by decide +kernel
theorem dL_randomChain_470 : decode cL_randomChain 470 = .ok (.sipush 4001, 3) := by decide +kernel
theorem dL_randomChain_473 : decode cL_randomChain 473 = .ok (.invokevirtual 131, 3) := by decide +kernel
theorem dL_randomChain_476 : decode cL_randomChain 476 = .ok (.sipush 2000, 3) := by decide +kernel
theorem dL_randomChain_479 : decode cL_randomChain 479 = .ok (.isub, 1) := by decide +kernel
theorem dL_randomChain_480 : decode cL_randomChain 480 = .ok (.i2l, 1) := by decide +kernel
theorem dL_randomChain_481 : decode cL_randomChain 481 = .ok (.putfield 184, 3) := by decide +kernel
theorem dL_randomChain_484 : decode cL_randomChain 484 = .ok (.aload_n 0, 1) := by decide +kernel
theorem dL_randomChain_485 : decode cL_randomChain 485 = .ok (.aload_n 1, 1) := by decide +kernel
theorem dL_randomChain_486 : decode cL_randomChain 486 = .ok (.ldc 188, 2) := by decide +kernel
theorem dL_randomChain_488 : decode cL_randomChain 488 = .ok (.iconst 2, 1) := by decide +kernel
theorem dL_randomChain_489 : decode cL_randomChain 489 = .ok (.newarray .int, 2) := by decide +kernel
theorem dL_randomChain_491 : decode cL_randomChain 491 = .ok (.dup, 1) := by decide +kernel
theorem dL_randomChain_492 : decode cL_randomChain 492 = .ok (.iconst 0, 1) := by decide +kernel
theorem dL_randomChain_493 : decode cL_randomChain 493 = .ok (.iload 5, 2) := by decide +kernel
theorem dL_randomChain_495 : decode cL_randomChain 495 = .ok (.iastore, 1) := by decide +kernel
theorem dL_randomChain_496 : decode cL_randomChain 496 = .ok (.dup, 1) := by decide +kernel
theorem dL_randomChain_497 : decode cL_randomChain 497 = .ok (.iconst 1, 1) := by decide +kernel
theorem dL_randomChain_498 : decode cL_randomChain 498 = .ok (.aload 4, 2) := by decide +kernel
theorem dL_randomChain_500 : decode cL_randomChain 500 = .ok (.getfield 150, 3) := by decide +kernel
theorem dL_randomChain_503 : decode cL_randomChain 503 = .ok (.iload 5, 2) := by decide +kernel
theorem dL_randomChain_505 : decode cL_randomChain 505 = .ok (.aaload, 1) := by decide +kernel
theorem dL_randomChain_506 : decode cL_randomChain 506 = .ok (.getfield 184, 3) := by decide +kernel
theorem dL_randomChain_509 : decode cL_randomChain 509 = .ok (.l2i, 1) := by decide +kernel
theorem dL_randomChain_510 : decode cL_randomChain 510 = .ok (.iastore, 1) := by decide +kernel
theorem dL_randomChain_511 : decode cL_randomChain 511 = .ok (.invokestatic 144, 3) := by decide +kernel
theorem dL_randomChain_514 : decode cL_randomChain 514 = .ok (.aload_n 0, 1) := by decide +kernel
theorem dL_randomChain_515 : decode cL_randomChain 515 = .ok (.aload_n 1, 1) := by decide +kernel
theorem dL_randomChain_516 : decode cL_randomChain 516 = .ok (.ldc 148, 2) := by decide +kernel
theorem dL_randomChain_518 : decode cL_randomChain 518 = .ok (.invokestatic 117, 3) := by decide +kernel
theorem dL_randomChain_521 : decode cL_randomChain 521 = .ok (.aload_n 2, 1) := by decide +kernel
theorem dL_randomChain_522 : decode cL_randomChain 522 = .ok (.iconst 4, 1) := by decide +kernel
theorem dL_randomChain_523 : decode cL_randomChain 523 = .ok (.invokevirtual 131, 3) := by decide +kernel
theorem dL_randomChain_526 : decode cL_randomChain 526 = .ok (.ifCond .ne 84, 3) := by decide +kernel
theorem dL_randomChain_529 : decode cL_randomChain 529 = .ok (.aload 4, 2) := by decide +kernel
theorem dL_randomChain_531 : decode cL_randomChain 531 = .ok (.getfield 150, 3) := by decide +kernel
theorem dL_randomChain_534 : decode cL_randomChain 534 = .ok (.iload 5, 2) := by decide +kernel
theorem dL_randomChain_536 : decode cL_randomChain 536 = .ok (.aaload, 1) := by decide +kernel
theorem dL_randomChain_537 : decode cL_randomChain 537 = .ok (.aload_n 2, 1) := by decide +kernel
theorem dL_randomChain_538 : decode cL_randomChain 538 = .ok (.sipush 20001, 3) := by decide +kernel
theorem dL_randomChain_541 : decode cL_randomChain 541 = .ok (.invokevirtual 131, 3) := by decide +kernel
theorem dL_randomChain_544 : decode cL_randomChain 544 = .ok (.sipush 10000, 3) := by decide +kernel
theorem dL_randomChain_547 : decode cL_randomChain 547 = .ok (.isub, 1) := by decide +kernel
theorem dL_randomChain_548 : decode cL_randomChain 548 = .ok (.i2l, 1) := by decide +kernel
theorem dL_randomChain_549 : decode cL_randomChain 549 = .ok (.putfield 189, 3) := by decide +kernel
theorem dL_randomChain_552 : decode cL_randomChain 552 = .ok (.aload 4, 2) := by decide +kernel
theorem dL_randomChain_554 : decode cL_randomChain 554 = .ok (.getfield 192, 3) := by decide +kernel
theorem dL_randomChain_557 : decode cL_randomChain 557 = .ok (.iconst 3, 1) := by decide +kernel
theorem dL_randomChain_558 : decode cL_randomChain 558 = .ok (.dup2, 1) := by decide +kernel
theorem dL_randomChain_559 : decode cL_randomChain 559 = .ok (.laload, 1) := by decide +kernel
theorem dL_randomChain_560 : decode cL_randomChain 560 = .ok (.aload 4, 2) := by decide +kernel
theorem dL_randomChain_562 : decode cL_randomChain 562 = .ok (.getfield 150, 3) := by decide +kernel
theorem dL_randomChain_565 : decode cL_randomChain 565 = .ok (.iload 5, 2) := by decide +kernel
theorem dL_randomChain_567 : decode cL_randomChain 567 = .ok (.aaload, 1) := by decide +kernel
theorem dL_randomChain_568 : decode cL_randomChain 568 = .ok (.getfield 189, 3) := by decide +kernel
theorem dL_randomChain_571 : decode cL_randomChain 571 = .ok (.ladd, 1) := by decide +kernel
theorem dL_randomChain_572 : decode cL_randomChain 572 = .ok (.lastore, 1) := by decide +kernel
theorem dL_randomChain_573 : decode cL_randomChain 573 = .ok (.aload_n 0, 1) := by decide +kernel
theorem dL_randomChain_574 : decode cL_randomChain 574 = .ok (.aload_n 1, 1) := by decide +kernel
theorem dL_randomChain_575 : decode cL_randomChain 575 = .ok (.ldc 196, 2) := by decide +kernel
theorem dL_randomChain_577 : decode cL_randomChain 577 = .ok (.iconst 2, 1) := by decide +kernel
theorem dL_randomChain_578 : decode cL_randomChain 578 = .ok (.newarray .int, 2) := by decide +kernel
theorem dL_randomChain_580 : decode cL_randomChain 580 = .ok (.dup, 1) := by decide +kernel
theorem dL_randomChain_581 : decode cL_randomChain 581 = .ok (.iconst 0, 1) := by decide +kernel
theorem dL_randomChain_582 : decode cL_randomChain 582 = .ok (.iload 5, 2) := by decide +kernel
theorem dL_randomChain_584 : decode cL_randomChain 584 = .ok (.iastore, 1) := by decide +kernel
theorem dL_randomChain_585 : decode cL_randomChain 585 = .ok (.dup, 1) := by decide +kernel
theorem dL_randomChain_586 : decode cL_randomChain 586 = .ok (.iconst 1, 1) := by decide +kernel
theorem dL_randomChain_587 : decode cL_randomChain 587 = .ok (.aload 4, 2) := by decide +kernel
theorem dL_randomChain_589 : decode cL_randomChain 589 = .ok (.getfield 150, 3) := by decide +kernel
theorem dL_randomChain_592 : decode cL_randomChain 592 = .ok (.iload 5, 2) := by decide +kernel
theorem dL_randomChain_594 : decode cL_randomChain 594 = .ok (.aaload, 1) := by decide +kernel
theorem dL_randomChain_595 : decode cL_randomChain 595 = .ok (.getfield 189, 3) := by decide +kernel
theorem dL_randomChain_598 : decode cL_randomChain 598 = .ok (.l2i, 1) := by decide +kernel
theorem dL_randomChain_599 : decode cL_randomChain 599 = .ok (.iastore, 1) := by decide +kernel
theorem dL_randomChain_600 : decode cL_randomChain 600 = .ok (.invokestatic 144, 3) := by decide +kernel
theorem dL_randomChain_603 : decode cL_randomChain 603 = .ok (.aload_n 0, 1) := by decide +kernel
theorem dL_randomChain_604 : decode cL_randomChain 604 = .ok (.aload_n 1, 1) := by decide +kernel
theorem dL_randomChain_605 : decode cL_randomChain 605 = .ok (.ldc 148, 2) := by decide +kernel
theorem dL_randomChain_607 : decode cL_randomChain 607 = .ok (.invokestatic 117, 3) := by decide +kernel
theorem dL_randomChain_610 : decode cL_randomChain 610 = .ok (.iinc 5 1, 3) := by decide +kernel
theorem dL_randomChain_613 : decode cL_randomChain 613 = .ok (.goto (-229), 3) := by decide +kernel
theorem dL_randomChain_616 : decode cL_randomChain 616 = .ok (.aload_n 2, 1) := by decide +kernel
theorem dL_randomChain_617 : decode cL_randomChain 617 = .ok (.iconst 3, 1) := by decide +kernel
theorem dL_randomChain_618 : decode cL_randomChain 618 = .ok (.invokevirtual 131, 3) := by decide +kernel
theorem dL_randomChain_621 : decode cL_randomChain 621 = .ok (.ifCond .ne 44, 3) := by decide +kernel
theorem dL_randomChain_624 : decode cL_randomChain 624 = .ok (.aload 4, 2) := by decide +kernel
theorem dL_randomChain_626 : decode cL_randomChain 626 = .ok (.aload_n 2, 1) := by decide +kernel
theorem dL_randomChain_627 : decode cL_randomChain 627 = .ok (.sipush 2001, 3) := by decide +kernel
theorem dL_randomChain_630 : decode cL_randomChain 630 = .ok (.invokevirtual 131, 3) := by decide +kernel
theorem dL_randomChain_633 : decode cL_randomChain 633 = .ok (.sipush 1000, 3) := by decide +kernel
theorem dL_randomChain_636 : decode cL_randomChain 636 = .ok (.isub, 1) := by decide +kernel
theorem dL_randomChain_637 : decode cL_randomChain 637 = .ok (.putfield 197, 3) := by decide +kernel
theorem dL_randomChain_640 : decode cL_randomChain 640 = .ok (.aload_n 0, 1) := by decide +kernel
theorem dL_randomChain_641 : decode cL_randomChain 641 = .ok (.aload_n 1, 1) := by decide +kernel
theorem dL_randomChain_642 : decode cL_randomChain 642 = .ok (.ldc 200, 2) := by decide +kernel
theorem dL_randomChain_644 : decode cL_randomChain 644 = .ok (.iconst 1, 1) := by decide +kernel
theorem dL_randomChain_645 : decode cL_randomChain 645 = .ok (.newarray .int, 2) := by decide +kernel
theorem dL_randomChain_647 : decode cL_randomChain 647 = .ok (.dup, 1) := by decide +kernel
theorem dL_randomChain_648 : decode cL_randomChain 648 = .ok (.iconst 0, 1) := by decide +kernel
theorem dL_randomChain_649 : decode cL_randomChain 649 = .ok (.aload 4, 2) := by decide +kernel
theorem dL_randomChain_651 : decode cL_randomChain 651 = .ok (.getfield 197, 3) := by decide +kernel
theorem dL_randomChain_654 : decode cL_randomChain 654 = .ok (.iastore, 1) := by decide +kernel
theorem dL_randomChain_655 : decode cL_randomChain 655 = .ok (.invokestatic 144, 3) := by decide +kernel
theorem dL_randomChain_658 : decode cL_randomChain 658 = .ok (.aload_n 0, 1) := by decide +kernel
theorem dL_randomChain_659 : decode cL_randomChain 659 = .ok (.aload_n 1, 1) := by decide +kernel
theorem dL_randomChain_660 : decode cL_randomChain 660 = .ok (.ldc 148, 2) := by decide +kernel
theorem dL_randomChain_662 : decode cL_randomChain 662 = .ok (.invokestatic 117, 3) := by decide +kernel
theorem dL_randomChain_665 : decode cL_randomChain 665 = .ok (.aload_n 2, 1) := by decide +kernel
theorem dL_randomChain_666 : decode cL_randomChain 666 = .ok (.iconst 4, 1) := by decide +kernel
theorem dL_randomChain_667 : decode cL_randomChain 667 = .ok (.invokevirtual 131, 3) := by decide +kernel
theorem dL_randomChain_670 : decode cL_randomChain 670 = .ok (.istore 5, 2) := by decide +kernel
theorem dL_randomChain_672 : decode cL_randomChain 672 = .ok (.iload 5, 2) := by decide +kernel
theorem dL_randomChain_674 : decode cL_randomChain 674 = .ok (.ifCond .le 111, 3) := by decide +kernel
theorem dL_randomChain_677 : decode cL_randomChain 677 = .ok (.aload_n 2, 1) := by decide +kernel
theorem dL_randomChain_678 : decode cL_randomChain 678 = .ok (.bipush 25, 2) := by decide +kernel
theorem dL_randomChain_680 : decode cL_randomChain 680 = .ok (.invokevirtual 131, 3) := by decide +kernel
theorem dL_randomChain_683 : decode cL_randomChain 683 = .ok (.istore 6, 2) := by decide +kernel
theorem dL_randomChain_685 : decode cL_randomChain 685 = .ok (.aload_n 2, 1) := by decide +kernel
theorem dL_randomChain_686 : decode cL_randomChain 686 = .ok (.iload_n 3, 1) := by decide +kernel
theorem dL_randomChain_687 : decode cL_randomChain 687 = .ok (.invokevirtual 131, 3) := by decide +kernel
theorem dL_randomChain_690 : decode cL_randomChain 690 = .ok (.istore 7, 2) := by decide +kernel
theorem dL_randomChain_692 : decode cL_randomChain 692 = .ok (.iconst 1, 1) := by decide +kernel
theorem dL_randomChain_693 : decode cL_randomChain 693 = .ok (.aload_n 2, 1) := by decide +kernel
theorem dL_randomChain_694 : decode cL_randomChain 694 = .ok (.sipush 9000, 3) := by decide +kernel
theorem dL_randomChain_697 : decode cL_randomChain 697 = .ok (.invokevirtual 131, 3) := by decide +kernel
theorem dL_randomChain_700 : decode cL_randomChain 700 = .ok (.iadd, 1) := by decide +kernel
theorem dL_randomChain_701 : decode cL_randomChain 701 = .ok (.istore 8, 2) := by decide +kernel
theorem dL_randomChain_703 : decode cL_randomChain 703 = .ok (.aload_n 2, 1) := by decide +kernel
theorem dL_randomChain_704 : decode cL_randomChain 704 = .ok (.iconst 2, 1) := by decide +kernel
theorem dL_randomChain_705 : decode cL_randomChain 705 = .ok (.invokevirtual 131, 3) := by decide +kernel
theorem dL_randomChain_708 : decode cL_randomChain 708 = .ok (.ifCond .ne 8, 3) := by decide +kernel
theorem dL_randomChain_711 : decode cL_randomChain 711 = .ok (.iload 8, 2) := by decide +kernel
theorem dL_randomChain_713 : decode cL_randomChain 713 = .ok (.ineg, 1) := by decide +kernel
theorem dL_randomChain_714 : decode cL_randomChain 714 = .ok (.istore 8, 2) := by decide +kernel
theorem dL_randomChain_716 : decode cL_randomChain 716 = .ok (.aload 4, 2) := by decide +kernel
theorem dL_randomChain_718 : decode cL_randomChain 718 = .ok (.aload 4, 2) := by decide +kernel
theorem dL_randomChain_720 : decode cL_randomChain 720 = .ok (.getfield 202, 3) := by decide +kernel
theorem dL_randomChain_723 : decode cL_randomChain 723 = .ok (.iconst 3, 1) := by decide +kernel
theorem dL_randomChain_724 : decode cL_randomChain 724 = .ok (.newarray .int, 2) := by decide +kernel
theorem dL_randomChain_726 : decode cL_randomChain 726 = .ok (.dup, 1) := by decide +kernel
theorem dL_randomChain_727 : decode cL_randomChain 727 = .ok (.iconst 0, 1) := by decide +kernel
theorem dL_randomChain_728 : decode cL_randomChain 728 = .ok (.iload 6, 2) := by decide +kernel
theorem dL_randomChain_730 : decode cL_randomChain 730 = .ok (.iastore, 1) := by decide +kernel
theorem dL_randomChain_731 : decode cL_randomChain 731 = .ok (.dup, 1) := by decide +kernel
theorem dL_randomChain_732 : decode cL_randomChain 732 = .ok (.iconst 1, 1) := by decide +kernel
theorem dL_randomChain_733 : decode cL_randomChain 733 = .ok (.iload 7, 2) := by decide +kernel
theorem dL_randomChain_735 : decode cL_randomChain 735 = .ok (.iastore, 1) := by decide +kernel
theorem dL_randomChain_736 : decode cL_randomChain 736 = .ok (.dup, 1) := by decide +kernel
theorem dL_randomChain_737 : decode cL_randomChain 737 = .ok (.iconst 2, 1) := by decide +kernel
theorem dL_randomChain_738 : decode cL_randomChain 738 = .ok (.iload 8, 2) := by decide +kernel
theorem dL_randomChain_740 : decode cL_randomChain 740 = .ok (.iastore, 1) := by decide +kernel
theorem dL_randomChain_741 : decode cL_randomChain 741 = .ok (.invokestatic 206, 3) := by decide +kernel
theorem dL_randomChain_744 : decode cL_randomChain 744 = .ok (.putfield 202, 3) := by decide +kernel
theorem dL_randomChain_747 : decode cL_randomChain 747 = .ok (.aload_n 0, 1) := by decide +kernel
theorem dL_randomChain_748 : decode cL_randomChain 748 = .ok (.aload_n 1, 1) := by decide +kernel
theorem dL_randomChain_749 : decode cL_randomChain 749 = .ok (.ldc 210, 2) := by decide +kernel
theorem dL_randomChain_751 : decode cL_randomChain 751 = .ok (.iconst 3, 1) := by decide +kernel
theorem dL_randomChain_752 : decode cL_randomChain 752 = .ok (.newarray .int, 2) := by decide +kernel
theorem dL_randomChain_754 : decode cL_randomChain 754 = .ok (.dup, 1) := by decide +kernel
theorem dL_randomChain_755 : decode cL_randomChain 755 = .ok (.iconst 0, 1) := by decide +kernel
theorem dL_randomChain_756 : decode cL_randomChain 756 = .ok (.iload 6, 2) := by decide +kernel
theorem dL_randomChain_758 : decode cL_randomChain 758 = .ok (.iastore, 1) := by decide +kernel
theorem dL_randomChain_759 : decode cL_randomChain 759 = .ok (.dup, 1) := by decide +kernel
theorem dL_randomChain_760 : decode cL_randomChain 760 = .ok (.iconst 1, 1) := by decide +kernel
theorem dL_randomChain_761 : decode cL_randomChain 761 = .ok (.iload 7, 2) := by decide +kernel
theorem dL_randomChain_763 : decode cL_randomChain 763 = .ok (.iastore, 1) := by decide +kernel
theorem dL_randomChain_764 : decode cL_randomChain 764 = .ok (.dup, 1) := by decide +kernel
theorem dL_randomChain_765 : decode cL_randomChain 765 = .ok (.iconst 2, 1) := by decide +kernel
theorem dL_randomChain_766 : decode cL_randomChain 766 = .ok (.iload 8, 2) := by decide +kernel
theorem dL_randomChain_768 : decode cL_randomChain 768 = .ok (.iastore, 1) := by decide +kernel
theorem dL_randomChain_769 : decode cL_randomChain 769 = .ok (.invokestatic 144, 3) := by decide +kernel
theorem dL_randomChain_772 : decode cL_randomChain 772 = .ok (.aload_n 0, 1) := by decide +kernel
theorem dL_randomChain_773 : decode cL_randomChain 773 = .ok (.aload_n 1, 1) := by decide +kernel
theorem dL_randomChain_774 : decode cL_randomChain 774 = .ok (.ldc 148, 2) := by decide +kernel
theorem dL_randomChain_776 : decode cL_randomChain 776 = .ok (.invokestatic 117, 3) := by decide +kernel
theorem dL_randomChain_779 : decode cL_randomChain 779 = .ok (.iinc 5 (-1), 3) := by decide +kernel
theorem dL_randomChain_782 : decode cL_randomChain 782 = .ok (.goto (-110), 3) := by decide +kernel
theorem dL_randomChain_785 : decode cL_randomChain 785 = .ok (.aload_n 0, 1) := by decide +kernel
theorem dL_randomChain_786 : decode cL_randomChain 786 = .ok (.aload_n 1, 1) := by decide +kernel
theorem dL_randomChain_787 : decode cL_randomChain 787 = .ok (.invokestatic 211, 3) := by decide +kernel
theorem dL_randomChain_790 : decode cL_randomChain 790 = .ok (.iload_n 3, 1) := by decide +kernel
theorem dL_randomChain_791 : decode cL_randomChain 791 = .ok (.if_icmp .ne 8, 3) := by decide +kernel
theorem dL_randomChain_794 : decode cL_randomChain 794 = .ok (.aload 4, 2) := by decide +kernel
theorem dL_randomChain_796 : decode cL_randomChain 796 = .ok (.goto 4, 3) := by decide +kernel
theorem dL_randomChain_799 : decode cL_randomChain 799 = .ok (.aconst_null, 1) := by decide +kernel
theorem dL_randomChain_800 : decode cL_randomChain 800 = .ok (.areturn, 1) := by decide +kernel
theorem dL_agrees_0 : decode cL_agrees 0 = .ok (.aload_n 0, 1) := by decide +kernel
theorem dL_agrees_1 : decode cL_agrees 1 = .ok (.invokevirtual 215, 3) := by decide +kernel
theorem dL_agrees_4 : decode cL_agrees 4 = .ok (.aload_n 1, 1) := by decide +kernel
theorem dL_agrees_5 : decode cL_agrees 5 = .ok (.invokevirtual 219, 3) := by decide +kernel
theorem dL_agrees_8 : decode cL_agrees 8 = .ok (.lcmp, 1) := by decide +kernel
theorem dL_agrees_9 : decode cL_agrees 9 = .ok (.ifCond .ne 63, 3) := by decide +kernel
theorem dL_agrees_12 : decode cL_agrees 12 = .ok (.aload_n 0, 1) := by decide +kernel
theorem dL_agrees_13 : decode cL_agrees 13 = .ok (.bipush 12, 2) := by decide +kernel
theorem dL_agrees_15 : decode cL_agrees 15 = .ok (.invokestatic 220, 3) := by decide +kernel
theorem dL_agrees_18 : decode cL_agrees 18 = .ok (.ldc 42, 2) := by decide +kernel
theorem dL_agrees_20 : decode cL_agrees 20 = .ok (.if_icmp .ne 52, 3) := by decide +kernel
theorem dL_agrees_23 : decode cL_agrees 23 = .ok (.aload_n 0, 1) := by decide +kernel
theorem dL_agrees_24 : decode cL_agrees 24 = .ok (.aload_n 1, 1) := by decide +kernel
theorem dL_agrees_25 : decode cL_agrees 25 = .ok (.getfield 150, 3) := by decide +kernel
theorem dL_agrees_28 : decode cL_agrees 28 = .ok (.arraylength, 1) := by decide +kernel
theorem dL_agrees_29 : decode cL_agrees 29 = .ok (.iconst 0, 1) := by decide +kernel
theorem dL_agrees_30 : decode cL_agrees 30 = .ok (.invokestatic 222, 3) := by decide +kernel
theorem dL_agrees_33 : decode cL_agrees 33 = .ok (.ldc 58, 2) := by decide +kernel
theorem dL_agrees_35 : decode cL_agrees 35 = .ok (.if_icmp .ne 37, 3) := by decide +kernel
theorem dL_agrees_38 : decode cL_agrees 38 = .ok (.aload_n 0, 1) := by decide +kernel
theorem dL_agrees_39 : decode cL_agrees 39 = .ok (.aload_n 1, 1) := by decide +kernel
theorem dL_agrees_40 : decode cL_agrees 40 = .ok (.getfield 160, 3) := by decide +kernel
theorem dL_agrees_43 : decode cL_agrees 43 = .ok (.arraylength, 1) := by decide +kernel
theorem dL_agrees_44 : decode cL_agrees 44 = .ok (.iconst 0, 1) := by decide +kernel
theorem dL_agrees_45 : decode cL_agrees 45 = .ok (.invokestatic 225, 3) := by decide +kernel
theorem dL_agrees_48 : decode cL_agrees 48 = .ok (.ldc 58, 2) := by decide +kernel
theorem dL_agrees_50 : decode cL_agrees 50 = .ok (.if_icmp .ne 22, 3) := by decide +kernel
theorem dL_agrees_53 : decode cL_agrees 53 = .ok (.aload_n 0, 1) := by decide +kernel
theorem dL_agrees_54 : decode cL_agrees 54 = .ok (.aload_n 1, 1) := by decide +kernel
theorem dL_agrees_55 : decode cL_agrees 55 = .ok (.getfield 227, 3) := by decide +kernel
theorem dL_agrees_58 : decode cL_agrees 58 = .ok (.arraylength, 1) := by decide +kernel
theorem dL_agrees_59 : decode cL_agrees 59 = .ok (.iconst 0, 1) := by decide +kernel
theorem dL_agrees_60 : decode cL_agrees 60 = .ok (.invokestatic 230, 3) := by decide +kernel
theorem dL_agrees_63 : decode cL_agrees 63 = .ok (.ldc 67, 2) := by decide +kernel
theorem dL_agrees_65 : decode cL_agrees 65 = .ok (.if_icmp .ne 7, 3) := by decide +kernel
theorem dL_agrees_68 : decode cL_agrees 68 = .ok (.iconst 1, 1) := by decide +kernel
theorem dL_agrees_69 : decode cL_agrees 69 = .ok (.goto 4, 3) := by decide +kernel
theorem dL_agrees_72 : decode cL_agrees 72 = .ok (.iconst 0, 1) := by decide +kernel
theorem dL_agrees_73 : decode cL_agrees 73 = .ok (.istore_n 2, 1) := by decide +kernel
theorem dL_agrees_74 : decode cL_agrees 74 = .ok (.iconst 0, 1) := by decide +kernel
theorem dL_agrees_75 : decode cL_agrees 75 = .ok (.istore_n 3, 1) := by decide +kernel
theorem dL_agrees_76 : decode cL_agrees 76 = .ok (.iload_n 3, 1) := by decide +kernel
theorem dL_agrees_77 : decode cL_agrees 77 = .ok (.bipush 12, 2) := by decide +kernel
theorem dL_agrees_79 : decode cL_agrees 79 = .ok (.if_icmp .ge 32, 3) := by decide +kernel
theorem dL_agrees_82 : decode cL_agrees 82 = .ok (.iload_n 2, 1) := by decide +kernel
theorem dL_agrees_83 : decode cL_agrees 83 = .ok (.ifCond .eq 28, 3) := by decide +kernel
theorem dL_agrees_86 : decode cL_agrees 86 = .ok (.aload_n 0, 1) := by decide +kernel
theorem dL_agrees_87 : decode cL_agrees 87 = .ok (.iload_n 3, 1) := by decide +kernel
theorem dL_agrees_88 : decode cL_agrees 88 = .ok (.invokestatic 220, 3) := by decide +kernel
theorem dL_agrees_91 : decode cL_agrees 91 = .ok (.aload_n 1, 1) := by decide +kernel
theorem dL_agrees_92 : decode cL_agrees 92 = .ok (.iload_n 3, 1) := by decide +kernel
theorem dL_agrees_93 : decode cL_agrees 93 = .ok (.invokevirtual 232, 3) := by decide +kernel
theorem dL_agrees_96 : decode cL_agrees 96 = .ok (.if_icmp .ne 7, 3) := by decide +kernel
theorem dL_agrees_99 : decode cL_agrees 99 = .ok (.iconst 1, 1) := by decide +kernel
theorem dL_agrees_100 : decode cL_agrees 100 = .ok (.goto 4, 3) := by decide +kernel
theorem dL_agrees_103 : decode cL_agrees 103 = .ok (.iconst 0, 1) := by decide +kernel
theorem dL_agrees_104 : decode cL_agrees 104 = .ok (.istore_n 2, 1) := by decide +kernel
theorem dL_agrees_105 : decode cL_agrees 105 = .ok (.iinc 3 1, 3) := by decide +kernel
theorem dL_agrees_108 : decode cL_agrees 108 = .ok (.goto (-32), 3) := by decide +kernel
theorem dL_agrees_111 : decode cL_agrees 111 = .ok (.iload_n 2, 1) := by decide +kernel
theorem dL_agrees_112 : decode cL_agrees 112 = .ok (.ifCond .eq 45, 3) := by decide +kernel
theorem dL_agrees_115 : decode cL_agrees 115 = .ok (.aload_n 0, 1) := by decide +kernel
theorem dL_agrees_116 : decode cL_agrees 116 = .ok (.iconst 0, 1) := by decide +kernel
theorem dL_agrees_117 : decode cL_agrees 117 = .ok (.invokevirtual 46, 3) := by decide +kernel
theorem dL_agrees_120 : decode cL_agrees 120 = .ok (.aload_n 0, 1) := by decide +kernel
theorem dL_agrees_121 : decode cL_agrees 121 = .ok (.iconst 1, 1) := by decide +kernel
theorem dL_agrees_122 : decode cL_agrees 122 = .ok (.invokevirtual 46, 3) := by decide +kernel
theorem dL_agrees_125 : decode cL_agrees 125 = .ok (.aload_n 0, 1) := by decide +kernel
theorem dL_agrees_126 : decode cL_agrees 126 = .ok (.iconst 2, 1) := by decide +kernel
theorem dL_agrees_127 : decode cL_agrees 127 = .ok (.invokevirtual 46, 3) := by decide +kernel
theorem dL_agrees_130 : decode cL_agrees 130 = .ok (.ladd, 1) := by decide +kernel
theorem dL_agrees_131 : decode cL_agrees 131 = .ok (.aload_n 0, 1) := by decide +kernel
theorem dL_agrees_132 : decode cL_agrees 132 = .ok (.iconst 3, 1) := by decide +kernel
theorem dL_agrees_133 : decode cL_agrees 133 = .ok (.invokevirtual 46, 3) := by decide +kernel
theorem dL_agrees_136 : decode cL_agrees 136 = .ok (.ladd, 1) := by decide +kernel
theorem dL_agrees_137 : decode cL_agrees 137 = .ok (.aload_n 0, 1) := by decide +kernel
theorem dL_agrees_138 : decode cL_agrees 138 = .ok (.iconst 4, 1) := by decide +kernel
theorem dL_agrees_139 : decode cL_agrees 139 = .ok (.invokevirtual 46, 3) := by decide +kernel
theorem dL_agrees_142 : decode cL_agrees 142 = .ok (.lsub, 1) := by decide +kernel
theorem dL_agrees_143 : decode cL_agrees 143 = .ok (.aload_n 0, 1) := by decide +kernel
theorem dL_agrees_144 : decode cL_agrees 144 = .ok (.iconst 5, 1) := by decide +kernel
theorem dL_agrees_145 : decode cL_agrees 145 = .ok (.invokevirtual 46, 3) := by decide +kernel
theorem dL_agrees_148 : decode cL_agrees 148 = .ok (.lsub, 1) := by decide +kernel
theorem dL_agrees_149 : decode cL_agrees 149 = .ok (.lcmp, 1) := by decide +kernel
theorem dL_agrees_150 : decode cL_agrees 150 = .ok (.ifCond .ne 7, 3) := by decide +kernel
theorem dL_agrees_153 : decode cL_agrees 153 = .ok (.iconst 1, 1) := by decide +kernel
theorem dL_agrees_154 : decode cL_agrees 154 = .ok (.goto 4, 3) := by decide +kernel
theorem dL_agrees_157 : decode cL_agrees 157 = .ok (.iconst 0, 1) := by decide +kernel
theorem dL_agrees_158 : decode cL_agrees 158 = .ok (.ireturn, 1) := by decide +kernel
theorem dL_law_0 : decode cL_law 0 = .ok (.iconst 1, 1) := by decide +kernel
theorem dL_law_1 : decode cL_law 1 = .ok (.istore_n 1, 1) := by decide +kernel
theorem dL_law_2 : decode cL_law 2 = .ok (.iconst 0, 1) := by decide +kernel
theorem dL_law_3 : decode cL_law 3 = .ok (.istore_n 2, 1) := by decide +kernel
theorem dL_law_4 : decode cL_law 4 = .ok (.iload_n 2, 1) := by decide +kernel
theorem dL_law_5 : decode cL_law 5 = .ok (.aload_n 0, 1) := by decide +kernel
theorem dL_law_6 : decode cL_law 6 = .ok (.arraylength, 1) := by decide +kernel
theorem dL_law_7 : decode cL_law 7 = .ok (.if_icmp .ge 1353, 3) := by decide +kernel
theorem dL_law_10 : decode cL_law 10 = .ok (.iload_n 2, 1) := by decide +kernel
theorem dL_law_11 : decode cL_law 11 = .ok (.iconst 2, 1) := by decide +kernel
theorem dL_law_12 : decode cL_law 12 = .ok (.if_icmp .ge 1348, 3) := by decide +kernel
theorem dL_law_15 : decode cL_law 15 = .ok (.iload_n 1, 1) := by decide +kernel
theorem dL_law_16 : decode cL_law 16 = .ok (.ifCond .eq 1344, 3) := by decide +kernel
theorem dL_law_19 : decode cL_law 19 = .ok (.new 14, 3) := by decide +kernel
theorem dL_law_22 : decode cL_law 22 = .ok (.dup, 1) := by decide +kernel
theorem dL_law_23 : decode cL_law 23 = .ok (.invokespecial 235, 3) := by decide +kernel
theorem dL_law_26 : decode cL_law 26 = .ok (.astore_n 3, 1) := by decide +kernel
theorem dL_law_27 : decode cL_law 27 = .ok (.bipush 8, 2) := by decide +kernel
theorem dL_law_29 : decode cL_law 29 = .ok (.newarray .int, 2) := by decide +kernel
theorem dL_law_31 : decode cL_law 31 = .ok (.astore 4, 2) := by decide +kernel
theorem dL_law_33 : decode cL_law 33 = .ok (.new 132, 3) := by decide +kernel
theorem dL_law_36 : decode cL_law 36 = .ok (.dup, 1) := by decide +kernel
theorem dL_law_37 : decode cL_law 37 = .ok (.aload_n 0, 1) := by decide +kernel
theorem dL_law_38 : decode cL_law 38 = .ok (.iload_n 2, 1) := by decide +kernel
theorem dL_law_39 : decode cL_law 39 = .ok (.iaload, 1) := by decide +kernel
theorem dL_law_40 : decode cL_law 40 = .ok (.invokespecial 236, 3) := by decide +kernel
theorem dL_law_43 : decode cL_law 43 = .ok (.astore 5, 2) := by decide +kernel
theorem dL_law_45 : decode cL_law 45 = .ok (.aload_n 3, 1) := by decide +kernel
theorem dL_law_46 : decode cL_law 46 = .ok (.iconst 1, 1) := by decide +kernel
theorem dL_law_47 : decode cL_law 47 = .ok (.invokestatic 136, 3) := by decide +kernel
theorem dL_law_50 : decode cL_law 50 = .ok (.invokestatic 239, 3) := by decide +kernel
theorem dL_law_53 : decode cL_law 53 = .ok (.ifCond .eq 150, 3) := by decide +kernel
theorem dL_law_56 : decode cL_law 56 = .ok (.aload_n 3, 1) := by decide +kernel
theorem dL_law_57 : decode cL_law 57 = .ok (.invokevirtual 243, 3) := by decide +kernel
theorem dL_law_60 : decode cL_law 60 = .ok (.iconst (-1), 1) := by decide +kernel
theorem dL_law_61 : decode cL_law 61 = .ok (.if_icmp .ne 142, 3) := by decide +kernel
theorem dL_law_64 : decode cL_law 64 = .ok (.aload_n 3, 1) := by decide +kernel
theorem dL_law_65 : decode cL_law 65 = .ok (.invokevirtual 246, 3) := by decide +kernel
theorem dL_law_68 : decode cL_law 68 = .ok (.iconst (-1), 1) := by decide +kernel
theorem dL_law_69 : decode cL_law 69 = .ok (.if_icmp .ne 134, 3) := by decide +kernel
theorem dL_law_72 : decode cL_law 72 = .ok (.aload_n 3, 1) := by decide +kernel
theorem dL_law_73 : decode cL_law 73 = .ok (.iconst 1, 1) := by decide +kernel
theorem dL_law_74 : decode cL_law 74 = .ok (.iconst 0, 1) := by decide +kernel
theorem dL_law_75 : decode cL_law 75 = .ok (.invokestatic 249, 3) := by decide +kernel
theorem dL_law_78 : decode cL_law 78 = .ok (.ldc 58, 2) := by decide +kernel
theorem dL_law_80 : decode cL_law 80 = .ok (.if_icmp .ne 123, 3) := by decide +kernel
theorem dL_law_83 : decode cL_law 83 = .ok (.aload_n 3, 1) := by decide +kernel
theorem dL_law_84 : decode cL_law 84 = .ok (.iconst 0, 1) := by decide +kernel
theorem dL_law_85 : decode cL_law 85 = .ok (.ldc 251, 2) := by decide +kernel
theorem dL_law_87 : decode cL_law 87 = .ok (.invokestatic 252, 3) := by decide +kernel
theorem dL_law_90 : decode cL_law 90 = .ok (.ldc 42, 2) := by decide +kernel
theorem dL_law_92 : decode cL_law 92 = .ok (.if_icmp .ne 111, 3) := by decide +kernel
theorem dL_law_95 : decode cL_law 95 = .ok (.aload_n 3, 1) := by decide +kernel
theorem dL_law_96 : decode cL_law 96 = .ok (.iconst 0, 1) := by decide +kernel
theorem dL_law_97 : decode cL_law 97 = .ok (.iconst 0, 1) := by decide +kernel
theorem dL_law_98 : decode cL_law 98 = .ok (.iconst 0, 1) := by decide +kernel
theorem dL_law_99 : decode cL_law 99 = .ok (.invokestatic 254, 3) := by decide +kernel
theorem dL_law_102 : decode cL_law 102 = .ok (.ldc 42, 2) := by decide +kernel
theorem dL_law_104 : decode cL_law 104 = .ok (.if_icmp .ne 99, 3) := by decide +kernel
theorem dL_law_107 : decode cL_law 107 = .ok (.aload_n 3, 1) := by decide +kernel
theorem dL_law_108 : decode cL_law 108 = .ok (.iconst 2, 1) := by decide +kernel
theorem dL_law_109 : decode cL_law 109 = .ok (.iconst 0, 1) := by decide +kernel
theorem dL_law_110 : decode cL_law 110 = .ok (.invokestatic 257, 3) := by decide +kernel
theorem dL_law_113 : decode cL_law 113 = .ok (.ldc 58, 2) := by decide +kernel
theorem dL_law_115 : decode cL_law 115 = .ok (.if_icmp .ne 88, 3) := by decide +kernel
theorem dL_law_118 : decode cL_law 118 = .ok (.aload_n 3, 1) := by decide +kernel
theorem dL_law_119 : decode cL_law 119 = .ok (.iconst 1, 1) := by decide +kernel
theorem dL_law_120 : decode cL_law 120 = .ok (.sipush 1000, 3) := by decide +kernel
theorem dL_law_123 : decode cL_law 123 = .ok (.invokestatic 257, 3) := by decide +kernel
theorem dL_law_126 : decode cL_law 126 = .ok (.ldc 42, 2) := by decide +kernel
theorem dL_law_128 : decode cL_law 128 = .ok (.if_icmp .ne 75, 3) := by decide +kernel
theorem dL_law_131 : decode cL_law 131 = .ok (.aload_n 3, 1) := by decide +kernel
theorem dL_law_132 : decode cL_law 132 = .ok (.iconst 0, 1) := by decide +kernel
theorem dL_law_133 : decode cL_law 133 = .ok (.invokestatic 259, 3) := by decide +kernel
theorem dL_law_136 : decode cL_law 136 = .ok (.ldc 95, 2) := by decide +kernel
theorem dL_law_138 : decode cL_law 138 = .ok (.if_icmp .ne 65, 3) := by decide +kernel
theorem dL_law_141 : decode cL_law 141 = .ok (.aload_n 3, 1) := by decide +kernel
theorem dL_law_142 : decode cL_law 142 = .ok (.iconst 1, 1) := by decide +kernel
theorem dL_law_143 : decode cL_law 143 = .ok (.ldc 251, 2) := by decide +kernel
theorem dL_law_145 : decode cL_law 145 = .ok (.invokestatic 261, 3) := by decide +kernel
theorem dL_law_148 : decode cL_law 148 = .ok (.ldc 42, 2) := by decide +kernel
theorem dL_law_150 : decode cL_law 150 = .ok (.if_icmp .ne 53, 3) := by decide +kernel
theorem dL_law_153 : decode cL_law 153 = .ok (.aload_n 3, 1) := by decide +kernel
theorem dL_law_154 : decode cL_law 154 = .ok (.bipush 51, 2) := by decide +kernel
theorem dL_law_156 : decode cL_law 156 = .ok (.invokestatic 264, 3) := by decide +kernel
theorem dL_law_159 : decode cL_law 159 = .ok (.ldc 42, 2) := by decide +kernel
theorem dL_law_161 : decode cL_law 161 = .ok (.if_icmp .ne 42, 3) := by decide +kernel
theorem dL_law_164 : decode cL_law 164 = .ok (.aload_n 3, 1) := by decide +kernel
theorem dL_law_165 : decode cL_law 165 = .ok (.iconst 0, 1) := by decide +kernel
theorem dL_law_166 : decode cL_law 166 = .ok (.iconst 5, 1) := by decide +kernel
theorem dL_law_167 : decode cL_law 167 = .ok (.invokestatic 261, 3) := by decide +kernel
theorem dL_law_170 : decode cL_law 170 = .ok (.ifCond .ne 33, 3) := by decide +kernel
theorem dL_law_173 : decode cL_law 173 = .ok (.aload_n 3, 1) := by decide +kernel
theorem dL_law_174 : decode cL_law 174 = .ok (.iconst 0, 1) := by decide +kernel
theorem dL_law_175 : decode cL_law 175 = .ok (.bipush 6, 2) := by decide +kernel
theorem dL_law_177 : decode cL_law 177 = .ok (.invokestatic 261, 3) := by decide +kernel
theorem dL_law_180 : decode cL_law 180 = .ok (.iconst 5, 1) := by decide +kernel
theorem dL_law_181 : decode cL_law 181 = .ok (.if_icmp .ne 22, 3) := by decide +kernel
theorem dL_law_184 : decode cL_law 184 = .ok (.aload_n 3, 1) := by decide +kernel
theorem dL_law_185 : decode cL_law 185 = .ok (.invokevirtual 246, 3) := by decide +kernel
theorem dL_law_188 : decode cL_law 188 = .ok (.iconst 1, 1) := by decide +kernel
theorem dL_law_189 : decode cL_law 189 = .ok (.if_icmp .ne 14, 3) := by decide +kernel
theorem dL_law_192 : decode cL_law 192 = .ok (.aload_n 3, 1) := by decide +kernel
theorem dL_law_193 : decode cL_law 193 = .ok (.invokevirtual 246, 3) := by decide +kernel
theorem dL_law_196 : decode cL_law 196 = .ok (.ifCond .ne 7, 3) := by decide +kernel
theorem dL_law_199 : decode cL_law 199 = .ok (.iconst 1, 1) := by decide +kernel
theorem dL_law_200 : decode cL_law 200 = .ok (.goto 4, 3) := by decide +kernel
theorem dL_law_203 : decode cL_law 203 = .ok (.iconst 0, 1) := by decide +kernel
theorem dL_law_204 : decode cL_law 204 = .ok (.istore_n 1, 1) := by decide +kernel
theorem dL_law_205 : decode cL_law 205 = .ok (.aload_n 3, 1) := by decide +kernel
theorem dL_law_206 : decode cL_law 206 = .ok (.aload 4, 2) := by decide +kernel
theorem dL_law_208 : decode cL_law 208 = .ok (.aload 5, 2) := by decide +kernel
theorem dL_law_210 : decode cL_law 210 = .ok (.invokestatic 266, 3) := by decide +kernel
theorem dL_law_213 : decode cL_law 213 = .ok (.astore 6, 2) := by decide +kernel
theorem dL_law_215 : decode cL_law 215 = .ok (.aload 6, 2) := by decide +kernel
theorem dL_law_217 : decode cL_law 217 = .ok (.ifnonnull 5, 3) := by decide +kernel
theorem dL_law_220 : decode cL_law 220 = .ok (.iconst 0, 1) := by decide +kernel
theorem dL_law_221 : decode cL_law 221 = .ok (.ireturn, 1) := by decide +kernel
theorem dL_law_222 : decode cL_law 222 = .ok (.iload_n 1, 1) := by decide +kernel
theorem dL_law_223 : decode cL_law 223 = .ok (.ifCond .eq 16, 3) := by decide +kernel
theorem dL_law_226 : decode cL_law 226 = .ok (.aload_n 3, 1) := by decide +kernel
theorem dL_law_227 : decode cL_law 227 = .ok (.aload 6, 2) := by decide +kernel
theorem dL_law_229 : decode cL_law 229 = .ok (.invokestatic 239, 3) := by decide +kernel
theorem dL_law_232 : decode cL_law 232 = .ok (.ifCond .eq 7, 3) := by decide +kernel
theorem dL_law_235 : decode cL_law 235 = .ok (.iconst 1, 1) := by decide +kernel
theorem dL_law_236 : decode cL_law 236 = .ok (.goto 4, 3) := by decide +kernel
theorem dL_law_239 : decode cL_law 239 = .ok (.iconst 0, 1) := by decide +kernel
theorem dL_law_240 : decode cL_law 240 = .ok (.istore_n 1, 1) := by decide +kernel
theorem dL_law_241 : decode cL_law 241 = .ok (.aload 6, 2) := by decide +kernel
theorem dL_law_243 : decode cL_law 243 = .ok (.getfield 150, 3) := by decide +kernel
theorem dL_law_246 : decode cL_law 246 = .ok (.arraylength, 1) := by decide +kernel
theorem dL_law_247 : decode cL_law 247 = .ok (.istore 7, 2) := by decide +kernel
theorem dL_law_249 : decode cL_law 249 = .ok (.bipush 9, 2) := by decide +kernel
theorem dL_law_251 : decode cL_law 251 = .ok (.anewarray 137, 3) := by decide +kernel
theorem dL_law_254 : decode cL_law 254 = .ok (.astore 8, 2) := by decide +kernel
theorem dL_law_256 : decode cL_law 256 = .ok (.iconst 0, 1) := by decide +kernel
theorem dL_law_257 : decode cL_law 257 = .ok (.istore 9, 2) := by decide +kernel
theorem dL_law_259 : decode cL_law 259 = .ok (.iconst 0, 1) := by decide +kernel
theorem dL_law_260 : decode cL_law 260 = .ok (.istore 10, 2) := by decide +kernel
theorem dL_law_262 : decode cL_law 262 = .ok (.iload 10, 2) := by decide +kernel
theorem dL_law_264 : decode cL_law 264 = .ok (.bipush 24, 2) := by decide +kernel
theorem dL_law_266 : decode cL_law 266 = .ok (.if_icmp .ge 942, 3) := by decide +kernel
theorem dL_law_269 : decode cL_law 269 = .ok (.iload_n 1, 1) := by decide +kernel
theorem dL_law_270 : decode cL_law 270 = .ok (.ifCond .eq 938, 3) := by decide +kernel
theorem dL_law_273 : decode cL_law 273 = .ok (.aload 6, 2) := by decide +kernel
theorem dL_law_275 : decode cL_law 275 = .ok (.invokevirtual 270, 3) := by decide +kernel
theorem dL_law_278 : decode cL_law 278 = .ok (.astore 11, 2) := by decide +kernel
theorem dL_law_280 : decode cL_law 280 = .ok (.iconst 1, 1) := by decide +kernel
theorem dL_law_281 : decode cL_law 281 = .ok (.istore 12, 2) := by decide +kernel
theorem dL_law_283 : decode cL_law 283 = .ok (.aload 5, 2) := by decide +kernel
theorem dL_law_285 : decode cL_law 285 = .ok (.iload 7, 2) := by decide +kernel
theorem dL_law_287 : decode cL_law 287 = .ok (.iconst 1, 1) := by decide +kernel
theorem dL_law_288 : decode cL_law 288 = .ok (.iadd, 1) := by decide +kernel
theorem dL_law_289 : decode cL_law 289 = .ok (.invokevirtual 131, 3) := by decide +kernel
theorem dL_law_292 : decode cL_law 292 = .ok (.istore 13, 2) := by decide +kernel
theorem dL_law_294 : decode cL_law 294 = .ok (.iload 13, 2) := by decide +kernel
theorem dL_law_296 : decode cL_law 296 = .ok (.iload 7, 2) := by decide +kernel
theorem dL_law_298 : decode cL_law 298 = .ok (.if_icmp .ge 7, 3) := by decide +kernel
theorem dL_law_301 : decode cL_law 301 = .ok (.iconst 1, 1) := by decide +kernel
theorem dL_law_302 : decode cL_law 302 = .ok (.goto 4, 3) := by decide +kernel
theorem dL_law_305 : decode cL_law 305 = .ok (.iconst 0, 1) := by decide +kernel
theorem dL_law_306 : decode cL_law 306 = .ok (.istore 14, 2) := by decide +kernel
theorem dL_law_308 : decode cL_law 308 = .ok (.aload 5, 2) := by decide +kernel
theorem dL_law_310 : decode cL_law 310 = .ok (.bipush 9, 2) := by decide +kernel
theorem dL_law_312 : decode cL_law 312 = .ok (.invokevirtual 131, 3) := by decide +kernel
theorem dL_law_315 : decode cL_law 315 = .ok (.tableswitch 779 0 7 #[45, 45, 125, 246, 374, 539, 627, 685], 45) := by decide +kernel
theorem dL_law_360 : decode cL_law 360 = .ok (.aload 5, 2) := by decide +kernel
theorem dL_law_362 : decode cL_law 362 = .ok (.bipush 9, 2) := by decide +kernel
theorem dL_law_364 : decode cL_law 364 = .ok (.invokevirtual 131, 3) := by decide +kernel
theorem dL_law_367 : decode cL_law 367 = .ok (.istore 15, 2) := by decide +kernel
theorem dL_law_369 : decode cL_law 369 = .ok (.iload 15, 2) := by decide +kernel
theorem dL_law_371 : decode cL_law 371 = .ok (.ifCond .le 7, 3) := by decide +kernel
theorem dL_law_374 : decode cL_law 374 = .ok (.iconst 1, 1) := by decide +kernel
theorem dL_law_375 : decode cL_law 375 = .ok (.goto 4, 3) := by decide +kernel
theorem dL_law_378 : decode cL_law 378 = .ok (.iconst 0, 1) := by decide +kernel
theorem dL_law_379 : decode cL_law 379 = .ok (.istore 12, 2) := by decide +kernel
theorem dL_law_381 : decode cL_law 381 = .ok (.iconst 0, 1) := by decide +kernel
theorem dL_law_382 : decode cL_law 382 = .ok (.istore 16, 2) := by decide +kernel
theorem dL_law_384 : decode cL_law 384 = .ok (.iconst 0, 1) := by decide +kernel
theorem dL_law_385 : decode cL_law 385 = .ok (.istore 17, 2) := by decide +kernel
theorem dL_law_387 : decode cL_law 387 = .ok (.iload 17, 2) := by decide +kernel
theorem dL_law_389 : decode cL_law 389 = .ok (.iload 15, 2) := by decide +kernel
theorem dL_law_391 : decode cL_law 391 = .ok (.if_icmp .ge 19, 3) := by decide +kernel
theorem dL_law_394 : decode cL_law 394 = .ok (.iload 16, 2) := by decide +kernel
theorem dL_law_396 : decode cL_law 396 = .ok (.aload 6, 2) := by decide +kernel
theorem dL_law_398 : decode cL_law 398 = .ok (.invokevirtual 274, 3) := by decide +kernel
theorem dL_law_401 : decode cL_law 401 = .ok (.iadd, 1) := by decide +kernel
theorem dL_law_402 : decode cL_law 402 = .ok (.istore 16, 2) := by decide +kernel
theorem dL_law_404 : decode cL_law 404 = .ok (.iinc 17 1, 3) := by decide +kernel
theorem dL_law_407 : decode cL_law 407 = .ok (.goto (-20), 3) := by decide +kernel
theorem dL_law_410 : decode cL_law 410 = .ok (.aload_n 3, 1) := by decide +kernel
theorem dL_law_411 : decode cL_law 411 = .ok (.iload 15, 2) := by decide +kernel
theorem dL_law_413 : decode cL_law 413 = .ok (.invokestatic 264, 3) := by decide +kernel
theorem dL_law_416 : decode cL_law 416 = .ok (.iload 12, 2) := by decide +kernel
theorem dL_law_418 : decode cL_law 418 = .ok (.ifCond .eq 8, 3) := by decide +kernel
theorem dL_law_421 : decode cL_law 421 = .ok (.iload 16, 2) := by decide +kernel
theorem dL_law_423 : decode cL_law 423 = .ok (.goto 5, 3) := by decide +kernel
theorem dL_law_426 : decode cL_law 426 = .ok (.ldc 42, 2) := by decide +kernel
theorem dL_law_428 : decode cL_law 428 = .ok (.if_icmp .ne 7, 3) := by decide +kernel
theorem dL_law_431 : decode cL_law 431 = .ok (.iconst 1, 1) := by decide +kernel
theorem dL_law_432 : decode cL_law 432 = .ok (.goto 4, 3) := by decide +kernel
theorem dL_law_435 : decode cL_law 435 = .ok (.iconst 0, 1) := by decide +kernel
theorem dL_law_436 : decode cL_law 436 = .ok (.istore_n 1, 1) := by decide +kernel
theorem dL_law_437 : decode cL_law 437 = .ok (.goto 705, 3) := by decide +kernel
theorem dL_law_440 : decode cL_law 440 = .ok (.aload 5, 2) := by decide +kernel
theorem dL_law_442 : decode cL_law 442 = .ok (.sipush 21001, 3) := by decide +kernel
theorem dL_law_445 : decode cL_law 445 = .ok (.invokevirtual 131, 3) := by decide +kernel
theorem dL_law_448 : decode cL_law 448 = .ok (.sipush 10500, 3) := by decide +kernel
theorem dL_law_451 : decode cL_law 451 = .ok (.isub, 1) := by decide +kernel
theorem dL_law_452 : decode cL_law 452 = .ok (.istore 17, 2) := by decide +kernel
theorem dL_law_454 : decode cL_law 454 = .ok (.iload 14, 2) := by decide +kernel
theorem dL_law_456 : decode cL_law 456 = .ok (.ifCond .eq 18, 3) := by decide +kernel
theorem dL_law_459 : decode cL_law 459 = .ok (.iload 17, 2) := by decide +kernel
theorem dL_law_461 : decode cL_law 461 = .ok (.invokestatic 125, 3) := by decide +kernel
theorem dL_law_464 : decode cL_law 464 = .ok (.sipush 10000, 3) := by decide +kernel
theorem dL_law_467 : decode cL_law 467 = .ok (.if_icmp .gt 7, 3) := by decide +kernel
theorem dL_law_470 : decode cL_law 470 = .ok (.iconst 1, 1) := by decide +kernel
theorem dL_law_471 : decode cL_law 471 = .ok (.goto 4, 3) := by decide +kernel
theorem dL_law_474 : decode cL_law 474 = .ok (.iconst 0, 1) := by decide +kernel
theorem dL_law_475 : decode cL_law 475 = .ok (.istore 12, 2) := by decide +kernel
theorem dL_law_477 : decode cL_law 477 = .ok (.iload 14, 2) := by decide +kernel
theorem dL_law_479 : decode cL_law 479 = .ok (.ifCond .eq 18, 3) := by decide +kernel
theorem dL_law_482 : decode cL_law 482 = .ok (.aload 6, 2) := by decide +kernel
theorem dL_law_484 : decode cL_law 484 = .ok (.getfield 150, 3) := by decide +kernel
theorem dL_law_487 : decode cL_law 487 = .ok (.iload 13, 2) := by decide +kernel
theorem dL_law_489 : decode cL_law 489 = .ok (.aaload, 1) := by decide +kernel
theorem dL_law_490 : decode cL_law 490 = .ok (.getfield 184, 3) := by decide +kernel
theorem dL_law_493 : decode cL_law 493 = .ok (.l2i, 1) := by decide +kernel
theorem dL_law_494 : decode cL_law 494 = .ok (.goto 4, 3) := by decide +kernel
theorem dL_law_497 : decode cL_law 497 = .ok (.iconst 0, 1) := by decide +kernel
theorem dL_law_498 : decode cL_law 498 = .ok (.istore 18, 2) := by decide +kernel
theorem dL_law_500 : decode cL_law 500 = .ok (.iload 12, 2) := by decide +kernel
theorem dL_law_502 : decode cL_law 502 = .ok (.ifCond .eq 17, 3) := by decide +kernel
theorem dL_law_505 : decode cL_law 505 = .ok (.aload 6, 2) := by decide +kernel
theorem dL_law_507 : decode cL_law 507 = .ok (.getfield 150, 3) := by decide +kernel
theorem dL_law_510 : decode cL_law 510 = .ok (.iload 13, 2) := by decide +kernel
theorem dL_law_512 : decode cL_law 512 = .ok (.aaload, 1) := by decide +kernel
theorem dL_law_513 : decode cL_law 513 = .ok (.iload 17, 2) := by decide +kernel
theorem dL_law_515 : decode cL_law 515 = .ok (.i2l, 1) := by decide +kernel
theorem dL_law_516 : decode cL_law 516 = .ok (.putfield 184, 3) := by decide +kernel
theorem dL_law_519 : decode cL_law 519 = .ok (.aload_n 3, 1) := by decide +kernel
theorem dL_law_520 : decode cL_law 520 = .ok (.iload 13, 2) := by decide +kernel
theorem dL_law_522 : decode cL_law 522 = .ok (.iload 17, 2) := by decide +kernel
theorem dL_law_524 : decode cL_law 524 = .ok (.invokestatic 249, 3) := by decide +kernel
theorem dL_law_527 : decode cL_law 527 = .ok (.iload 12, 2) := by decide +kernel
theorem dL_law_529 : decode cL_law 529 = .ok (.ifCond .eq 8, 3) := by decide +kernel
theorem dL_law_532 : decode cL_law 532 = .ok (.iload 18, 2) := by decide +kernel
theorem dL_law_534 : decode cL_law 534 = .ok (.goto 15, 3) := by decide +kernel
theorem dL_law_537 : decode cL_law 537 = .ok (.iload 14, 2) := by decide +kernel
theorem dL_law_539 : decode cL_law 539 = .ok (.ifCond .eq 8, 3) := by decide +kernel
theorem dL_law_542 : decode cL_law 542 = .ok (.ldc 42, 2) := by decide +kernel
theorem dL_law_544 : decode cL_law 544 = .ok (.goto 5, 3) := by decide +kernel
theorem dL_law_547 : decode cL_law 547 = .ok (.ldc 58, 2) := by decide +kernel
theorem dL_law_549 : decode cL_law 549 = .ok (.if_icmp .ne 7, 3) := by decide +kernel
theorem dL_law_552 : decode cL_law 552 = .ok (.iconst 1, 1) := by decide +kernel
theorem dL_law_553 : decode cL_law 553 = .ok (.goto 4, 3) := by decide +kernel
theorem dL_law_556 : decode cL_law 556 = .ok (.iconst 0, 1) := by decide +kernel
theorem dL_law_557 : decode cL_law 557 = .ok (.istore_n 1, 1) := by decide +kernel
theorem dL_law_558 : decode cL_law 558 = .ok (.goto 584, 3) := by decide +kernel
theorem dL_law_561 : decode cL_law 561 = .ok (.bipush 7, 2) := by decide +kernel
theorem dL_law_563 : decode cL_law 563 = .ok (.aload 5, 2) := by decide +kernel
theorem dL_law_565 : decode cL_law 565 = .ok (.sipush 28001, 3) := by decide +kernel
theorem dL_law_568 : decode cL_law 568 = .ok (.invokevirtual 131, 3) := by decide +kernel
theorem dL_law_571 : decode cL_law 571 = .ok (.sipush 14000, 3) := by decide +kernel
theorem dL_law_574 : decode cL_law 574 = .ok (.isub, 1) := by decide +kernel
theorem dL_law_575 : decode cL_law 575 = .ok (.imul, 1) := by decide +kernel
theorem dL_law_576 : decode cL_law 576 = .ok (.istore 19, 2) := by decide +kernel
theorem dL_law_578 : decode cL_law 578 = .ok (.iload 14, 2) := by decide +kernel
theorem dL_law_580 : decode cL_law 580 = .ok (.istore 12, 2) := by decide +kernel
theorem dL_law_582 : decode cL_law 582 = .ok (.iload 14, 2) := by decide +kernel
theorem dL_law_584 : decode cL_law 584 = .ok (.ifCond .eq 63, 3) := by decide +kernel
theorem dL_law_587 : decode cL_law 587 = .ok (.aload 6, 2) := by decide +kernel
theorem dL_law_589 : decode cL_law 589 = .ok (.getfield 150, 3) := by decide +kernel
theorem dL_law_592 : decode cL_law 592 = .ok (.iload 13, 2) := by decide +kernel
theorem dL_law_594 : decode cL_law 594 = .ok (.aaload, 1) := by decide +kernel
theorem dL_law_595 : decode cL_law 595 = .ok (.getfield 189, 3) := by decide +kernel
theorem dL_law_598 : decode cL_law 598 = .ok (.iload 19, 2) := by decide +kernel
theorem dL_law_600 : decode cL_law 600 = .ok (.i2l, 1) := by decide +kernel
theorem dL_law_601 : decode cL_law 601 = .ok (.ladd, 1) := by decide +kernel
theorem dL_law_602 : decode cL_law 602 = .ok (.ldc2_w 277, 3) := by decide +kernel
theorem dL_law_605 : decode cL_law 605 = .ok (.invokestatic 279, 3) := by decide +kernel
theorem dL_law_608 : decode cL_law 608 = .ok (.lstore 20, 2) := by decide +kernel
theorem dL_law_610 : decode cL_law 610 = .ok (.aload 6, 2) := by decide +kernel
theorem dL_law_612 : decode cL_law 612 = .ok (.getfield 192, 3) := by decide +kernel
theorem dL_law_615 : decode cL_law 615 = .ok (.iconst 3, 1) := by decide +kernel
theorem dL_law_616 : decode cL_law 616 = .ok (.dup2, 1) := by decide +kernel
theorem dL_law_617 : decode cL_law 617 = .ok (.laload, 1) := by decide +kernel
theorem dL_law_618 : decode cL_law 618 = .ok (.lload 20, 2) := by decide +kernel
theorem dL_law_620 : decode cL_law 620 = .ok (.aload 6, 2) := by decide +kernel
theorem dL_law_622 : decode cL_law 622 = .ok (.getfield 150, 3) := by decide +kernel
theorem dL_law_625 : decode cL_law 625 = .ok (.iload 13, 2) := by decide +kernel
theorem dL_law_627 : decode cL_law 627 = .ok (.aaload, 1) := by decide +kernel
theorem dL_law_628 : decode cL_law 628 = .ok (.getfield 189, 3) := by decide +kernel
theorem dL_law_631 : decode cL_law 631 = .ok (.lsub, 1) := by decide +kernel
theorem dL_law_632 : decode cL_law 632 = .ok (.ladd, 1) := by decide +kernel
theorem dL_law_633 : decode cL_law 633 = .ok (.lastore, 1) := by decide +kernel
theorem dL_law_634 : decode cL_law 634 = .ok (.aload 6, 2) := by decide +kernel
theorem dL_law_636 : decode cL_law 636 = .ok (.getfield 150, 3) := by decide +kernel
theorem dL_law_639 : decode cL_law 639 = .ok (.iload 13, 2) := by decide +kernel
theorem dL_law_641 : decode cL_law 641 = .ok (.aaload, 1) := by decide +kernel
theorem dL_law_642 : decode cL_law 642 = .ok (.lload 20, 2) := by decide +kernel
theorem dL_law_644 : decode cL_law 644 = .ok (.putfield 189, 3) := by decide +kernel
theorem dL_law_647 : decode cL_law 647 = .ok (.aload_n 3, 1) := by decide +kernel
theorem dL_law_648 : decode cL_law 648 = .ok (.iload 13, 2) := by decide +kernel
theorem dL_law_650 : decode cL_law 650 = .ok (.iload 19, 2) := by decide +kernel
theorem dL_law_652 : decode cL_law 652 = .ok (.invokestatic 252, 3) := by decide +kernel
theorem dL_law_655 : decode cL_law 655 = .ok (.iload 14, 2) := by decide +kernel
theorem dL_law_657 : decode cL_law 657 = .ok (.ifCond .eq 18, 3) := by decide +kernel
theorem dL_law_660 : decode cL_law 660 = .ok (.aload 6, 2) := by decide +kernel
theorem dL_law_662 : decode cL_law 662 = .ok (.getfield 150, 3) := by decide +kernel
theorem dL_law_665 : decode cL_law 665 = .ok (.iload 13, 2) := by decide +kernel
theorem dL_law_667 : decode cL_law 667 = .ok (.aaload, 1) := by decide +kernel
theorem dL_law_668 : decode cL_law 668 = .ok (.getfield 189, 3) := by decide +kernel
theorem dL_law_671 : decode cL_law 671 = .ok (.l2i, 1) := by decide +kernel
theorem dL_law_672 : decode cL_law 672 = .ok (.goto 5, 3) := by decide +kernel
theorem dL_law_675 : decode cL_law 675 = .ok (.ldc 58, 2) := by decide +kernel
theorem dL_law_677 : decode cL_law 677 = .ok (.if_icmp .ne 7, 3) := by decide +kernel
theorem dL_law_680 : decode cL_law 680 = .ok (.iconst 1, 1) := by decide +kernel
theorem dL_law_681 : decode cL_law 681 = .ok (.goto 4, 3) := by decide +kernel
theorem dL_law_684 : decode cL_law 684 = .ok (.iconst 0, 1) := by decide +kernel
theorem dL_law_685 : decode cL_law 685 = .ok (.istore_n 1, 1) := by decide +kernel
theorem dL_law_686 : decode cL_law 686 = .ok (.goto 456, 3) := by decide +kernel
theorem dL_law_689 : decode cL_law 689 = .ok (.aload 5, 2) := by decide +kernel
theorem dL_law_691 : decode cL_law 691 = .ok (.bipush 8, 2) := by decide +kernel
theorem dL_law_693 : decode cL_law 693 = .ok (.invokevirtual 131, 3) := by decide +kernel
theorem dL_law_696 : decode cL_law 696 = .ok (.iconst 1, 1) := by decide +kernel
theorem dL_law_697 : decode cL_law 697 = .ok (.isub, 1) := by decide +kernel
theorem dL_law_698 : decode cL_law 698 = .ok (.istore 20, 2) := by decide +kernel
theorem dL_law_700 : decode cL_law 700 = .ok (.iconst 5, 1) := by decide +kernel
theorem dL_law_701 : decode cL_law 701 = .ok (.aload 5, 2) := by decide +kernel
theorem dL_law_703 : decode cL_law 703 = .ok (.sipush 9000, 3) := by decide +kernel
theorem dL_law_706 : decode cL_law 706 = .ok (.invokevirtual 131, 3) := by decide +kernel
theorem dL_law_709 : decode cL_law 709 = .ok (.isub, 1) := by decide +kernel
theorem dL_law_710 : decode cL_law 710 = .ok (.istore 21, 2) := by decide +kernel
theorem dL_law_712 : decode cL_law 712 = .ok (.iload 14, 2) := by decide +kernel
theorem dL_law_714 : decode cL_law 714 = .ok (.ifCond .eq 28, 3) := by decide +kernel
theorem dL_law_717 : decode cL_law 717 = .ok (.iload 20, 2) := by decide +kernel
theorem dL_law_719 : decode cL_law 719 = .ok (.ifCond .lt 23, 3) := by decide +kernel
theorem dL_law_722 : decode cL_law 722 = .ok (.iload 21, 2) := by decide +kernel
theorem dL_law_724 : decode cL_law 724 = .ok (.ifCond .eq 18, 3) := by decide +kernel
theorem dL_law_727 : decode cL_law 727 = .ok (.aload 6, 2) := by decide +kernel
theorem dL_law_729 : decode cL_law 729 = .ok (.getfield 202, 3) := by decide +kernel
theorem dL_law_732 : decode cL_law 732 = .ok (.arraylength, 1) := by decide +kernel
theorem dL_law_733 : decode cL_law 733 = .ok (.bipush 16, 2) := by decide +kernel
theorem dL_law_735 : decode cL_law 735 = .ok (.if_icmp .ge 7, 3) := by decide +kernel
theorem dL_law_738 : decode cL_law 738 = .ok (.iconst 1, 1) := by decide +kernel
theorem dL_law_739 : decode cL_law 739 = .ok (.goto 4, 3) := by decide +kernel
theorem dL_law_742 : decode cL_law 742 = .ok (.iconst 0, 1) := by decide +kernel
theorem dL_law_743 : decode cL_law 743 = .ok (.istore 12, 2) := by decide +kernel
theorem dL_law_745 : decode cL_law 745 = .ok (.aload 6, 2) := by decide +kernel
theorem dL_law_747 : decode cL_law 747 = .ok (.getfield 282, 3) := by decide +kernel
theorem dL_law_750 : decode cL_law 750 = .ok (.iload 20, 2) := by decide +kernel
theorem dL_law_752 : decode cL_law 752 = .ok (.iadd, 1) := by decide +kernel
theorem dL_law_753 : decode cL_law 753 = .ok (.istore 22, 2) := by decide +kernel
theorem dL_law_755 : decode cL_law 755 = .ok (.iload 12, 2) := by decide +kernel
theorem dL_law_757 : decode cL_law 757 = .ok (.ifCond .eq 34, 3) := by decide +kernel
theorem dL_law_760 : decode cL_law 760 = .ok (.aload 6, 2) := by decide +kernel
theorem dL_law_762 : decode cL_law 762 = .ok (.aload 6, 2) := by decide +kernel
theorem dL_law_764 : decode cL_law 764 = .ok (.getfield 202, 3) := by decide +kernel
theorem dL_law_767 : decode cL_law 767 = .ok (.iconst 3, 1) := by decide +kernel
theorem dL_law_768 : decode cL_law 768 = .ok (.newarray .int, 2) := by decide +kernel
theorem dL_law_770 : decode cL_law 770 = .ok (.dup, 1) := by decide +kernel
theorem dL_law_771 : decode cL_law 771 = .ok (.iconst 0, 1) := by decide +kernel
theorem dL_law_772 : decode cL_law 772 = .ok (.iload 22, 2) := by decide +kernel
theorem dL_law_774 : decode cL_law 774 = .ok (.iastore, 1) := by decide +kernel
theorem dL_law_775 : decode cL_law 775 = .ok (.dup, 1) := by decide +kernel
theorem dL_law_776 : decode cL_law 776 = .ok (.iconst 1, 1) := by decide +kernel
theorem dL_law_777 : decode cL_law 777 = .ok (.iload 13, 2) := by decide +kernel
theorem dL_law_779 : decode cL_law 779 = .ok (.iastore, 1) := by decide +kernel
theorem dL_law_780 : decode cL_law 780 = .ok (.dup, 1) := by decide +kernel
theorem dL_law_781 : decode cL_law 781 = .ok (.iconst 2, 1) := by decide +kernel
theorem dL_law_782 : decode cL_law 782 = .ok (.iload 21, 2) := by decide +kernel
theorem dL_law_784 : decode cL_law 784 = .ok (.iastore, 1) := by decide +kernel
theorem dL_law_785 : decode cL_law 785 = .ok (.invokestatic 206, 3) := by decide +kernel
theorem dL_law_788 : decode cL_law 788 = .ok (.putfield 202, 3) := by decide +kernel
theorem dL_law_791 : decode cL_law 791 = .ok (.aload_n 3, 1) := by decide +kernel
theorem dL_law_792 : decode cL_law 792 = .ok (.iload 22, 2) := by decide +kernel
theorem dL_law_794 : decode cL_law 794 = .ok (.iload 13, 2) := by decide +kernel
theorem dL_law_796 : decode cL_law 796 = .ok (.iload 21, 2) := by decide +kernel
theorem dL_law_798 : decode cL_law 798 = .ok (.invokestatic 254, 3) := by decide +kernel
theorem dL_law_801 : decode cL_law 801 = .ok (.iload 12, 2) := by decide +kernel
theorem dL_law_803 : decode cL_law 803 = .ok (.ifCond .eq 12, 3) := by decide +kernel
theorem dL_law_806 : decode cL_law 806 = .ok (.aload 6, 2) := by decide +kernel
theorem dL_law_808 : decode cL_law 808 = .ok (.getfield 202, 3) := by decide +kernel
theorem dL_law_811 : decode cL_law 811 = .ok (.arraylength, 1) := by decide +kernel
theorem dL_law_812 : decode cL_law 812 = .ok (.goto 30, 3) := by decide +kernel
theorem dL_law_815 : decode cL_law 815 = .ok (.iload 14, 2) := by decide +kernel
theorem dL_law_817 : decode cL_law 817 = .ok (.ifCond .ne 8, 3) := by decide +kernel
theorem dL_law_820 : decode cL_law 820 = .ok (.ldc 58, 2) := by decide +kernel
theorem dL_law_822 : decode cL_law 822 = .ok (.goto 20, 3) := by decide +kernel
theorem dL_law_825 : decode cL_law 825 = .ok (.iload 20, 2) := by decide +kernel
theorem dL_law_827 : decode cL_law 827 = .ok (.ifCond .lt 8, 3) := by decide +kernel
theorem dL_law_830 : decode cL_law 830 = .ok (.iload 21, 2) := by decide +kernel
theorem dL_law_832 : decode cL_law 832 = .ok (.ifCond .ne 8, 3) := by decide +kernel
theorem dL_law_835 : decode cL_law 835 = .ok (.ldc 42, 2) := by decide +kernel
theorem dL_law_837 : decode cL_law 837 = .ok (.goto 5, 3) := by decide +kernel
theorem dL_law_840 : decode cL_law 840 = .ok (.ldc 95, 2) := by decide +kernel
theorem dL_law_842 : decode cL_law 842 = .ok (.if_icmp .ne 7, 3) := by decide +kernel
theorem dL_law_845 : decode cL_law 845 = .ok (.iconst 1, 1) := by decide +kernel
theorem dL_law_846 : decode cL_law 846 = .ok (.goto 4, 3) := by decide +kernel
theorem dL_law_849 : decode cL_law 849 = .ok (.iconst 0, 1) := by decide +kernel
theorem dL_law_850 : decode cL_law 850 = .ok (.istore_n 1, 1) := by decide +kernel
theorem dL_law_851 : decode cL_law 851 = .ok (.goto 291, 3) := by decide +kernel
theorem dL_law_854 : decode cL_law 854 = .ok (.aload 5, 2) := by decide +kernel
theorem dL_law_856 : decode cL_law 856 = .ok (.sipush 1050, 3) := by decide +kernel
theorem dL_law_859 : decode cL_law 859 = .ok (.invokevirtual 131, 3) := by decide +kernel
theorem dL_law_862 : decode cL_law 862 = .ok (.istore 23, 2) := by decide +kernel
theorem dL_law_864 : decode cL_law 864 = .ok (.iload 23, 2) := by decide +kernel
theorem dL_law_866 : decode cL_law 866 = .ok (.sipush 1000, 3) := by decide +kernel
theorem dL_law_869 : decode cL_law 869 = .ok (.if_icmp .ge 7, 3) := by decide +kernel
theorem dL_law_872 : decode cL_law 872 = .ok (.iconst 1, 1) := by decide +kernel
theorem dL_law_873 : decode cL_law 873 = .ok (.goto 4, 3) := by decide +kernel
theorem dL_law_876 : decode cL_law 876 = .ok (.iconst 0, 1) := by decide +kernel
theorem dL_law_877 : decode cL_law 877 = .ok (.istore 12, 2) := by decide +kernel
theorem dL_law_879 : decode cL_law 879 = .ok (.aload 6, 2) := by decide +kernel
theorem dL_law_881 : decode cL_law 881 = .ok (.getfield 160, 3) := by decide +kernel
theorem dL_law_884 : decode cL_law 884 = .ok (.iload 13, 2) := by decide +kernel
theorem dL_law_886 : decode cL_law 886 = .ok (.aaload, 1) := by decide +kernel
theorem dL_law_887 : decode cL_law 887 = .ok (.getfield 164, 3) := by decide +kernel
theorem dL_law_890 : decode cL_law 890 = .ok (.istore 24, 2) := by decide +kernel
theorem dL_law_892 : decode cL_law 892 = .ok (.iload 12, 2) := by decide +kernel
theorem dL_law_894 : decode cL_law 894 = .ok (.ifCond .eq 16, 3) := by decide +kernel
theorem dL_law_897 : decode cL_law 897 = .ok (.aload 6, 2) := by decide +kernel
theorem dL_law_899 : decode cL_law 899 = .ok (.getfield 160, 3) := by decide +kernel
theorem dL_law_902 : decode cL_law 902 = .ok (.iload 13, 2) := by decide +kernel
theorem dL_law_904 : decode cL_law 904 = .ok (.aaload, 1) := by decide +kernel
theorem dL_law_905 : decode cL_law 905 = .ok (.iload 23, 2) := by decide +kernel
theorem dL_law_907 : decode cL_law 907 = .ok (.putfield 164, 3) := by decide +kernel
theorem dL_law_910 : decode cL_law 910 = .ok (.aload_n 3, 1) := by decide +kernel
theorem dL_law_911 : decode cL_law 911 = .ok (.iload 13, 2) := by decide +kernel
theorem dL_law_913 : decode cL_law 913 = .ok (.iload 23, 2) := by decide +kernel
theorem dL_law_915 : decode cL_law 915 = .ok (.invokestatic 257, 3) := by decide +kernel
theorem dL_law_918 : decode cL_law 918 = .ok (.iload 12, 2) := by decide +kernel
theorem dL_law_920 : decode cL_law 920 = .ok (.ifCond .eq 8, 3) := by decide +kernel
theorem dL_law_923 : decode cL_law 923 = .ok (.iload 24, 2) := by decide +kernel
theorem dL_law_925 : decode cL_law 925 = .ok (.goto 5, 3) := by decide +kernel
theorem dL_law_928 : decode cL_law 928 = .ok (.ldc 42, 2) := by decide +kernel
theorem dL_law_930 : decode cL_law 930 = .ok (.if_icmp .ne 7, 3) := by decide +kernel
theorem dL_law_933 : decode cL_law 933 = .ok (.iconst 1, 1) := by decide +kernel
theorem dL_law_934 : decode cL_law 934 = .ok (.goto 4, 3) := by decide +kernel
theorem dL_law_937 : decode cL_law 937 = .ok (.iconst 0, 1) := by decide +kernel
theorem dL_law_938 : decode cL_law 938 = .ok (.istore_n 1, 1) := by decide +kernel
theorem dL_law_939 : decode cL_law 939 = .ok (.goto 203, 3) := by decide +kernel
theorem dL_law_942 : decode cL_law 942 = .ok (.aload 6, 2) := by decide +kernel
theorem dL_law_944 : decode cL_law 944 = .ok (.getfield 160, 3) := by decide +kernel
theorem dL_law_947 : decode cL_law 947 = .ok (.iload 13, 2) := by decide +kernel
theorem dL_law_949 : decode cL_law 949 = .ok (.aaload, 1) := by decide +kernel
theorem dL_law_950 : decode cL_law 950 = .ok (.getfield 285, 3) := by decide +kernel
theorem dL_law_953 : decode cL_law 953 = .ok (.istore 12, 2) := by decide +kernel
theorem dL_law_955 : decode cL_law 955 = .ok (.aload 6, 2) := by decide +kernel
theorem dL_law_957 : decode cL_law 957 = .ok (.getfield 160, 3) := by decide +kernel
theorem dL_law_960 : decode cL_law 960 = .ok (.iload 13, 2) := by decide +kernel
theorem dL_law_962 : decode cL_law 962 = .ok (.aaload, 1) := by decide +kernel
theorem dL_law_963 : decode cL_law 963 = .ok (.iconst 0, 1) := by decide +kernel
theorem dL_law_964 : decode cL_law 964 = .ok (.putfield 285, 3) := by decide +kernel
theorem dL_law_967 : decode cL_law 967 = .ok (.aload_n 3, 1) := by decide +kernel
theorem dL_law_968 : decode cL_law 968 = .ok (.iload 13, 2) := by decide +kernel
theorem dL_law_970 : decode cL_law 970 = .ok (.invokestatic 259, 3) := by decide +kernel
theorem dL_law_973 : decode cL_law 973 = .ok (.iload 12, 2) := by decide +kernel
theorem dL_law_975 : decode cL_law 975 = .ok (.ifCond .eq 11, 3) := by decide +kernel
theorem dL_law_978 : decode cL_law 978 = .ok (.aload 6, 2) := by decide +kernel
theorem dL_law_980 : decode cL_law 980 = .ok (.invokevirtual 289, 3) := by decide +kernel
theorem dL_law_983 : decode cL_law 983 = .ok (.goto 5, 3) := by decide +kernel
theorem dL_law_986 : decode cL_law 986 = .ok (.ldc 95, 2) := by decide +kernel
theorem dL_law_988 : decode cL_law 988 = .ok (.if_icmp .ne 7, 3) := by decide +kernel
theorem dL_law_991 : decode cL_law 991 = .ok (.iconst 1, 1) := by decide +kernel
theorem dL_law_992 : decode cL_law 992 = .ok (.goto 4, 3) := by decide +kernel
theorem dL_law_995 : decode cL_law 995 = .ok (.iconst 0, 1) := by decide +kernel
theorem dL_law_996 : decode cL_law 996 = .ok (.istore_n 1, 1) := by decide +kernel
theorem dL_law_997 : decode cL_law 997 = .ok (.goto 145, 3) := by decide +kernel
theorem dL_law_1000 : decode cL_law 1000 = .ok (.aload 5, 2) := by decide +kernel
theorem dL_law_1002 : decode cL_law 1002 = .ok (.iconst 2, 1) := by decide +kernel
theorem dL_law_1003 : decode cL_law 1003 = .ok (.invokevirtual 131, 3) := by decide +kernel
theorem dL_law_1006 : decode cL_law 1006 = .ok (.ifCond .ne 7, 3) := by decide +kernel
theorem dL_law_1009 : decode cL_law 1009 = .ok (.iconst 1, 1) := by decide +kernel
theorem dL_law_1010 : decode cL_law 1010 = .ok (.goto 4, 3) := by decide +kernel
theorem dL_law_1013 : decode cL_law 1013 = .ok (.iconst 0, 1) := by decide +kernel
theorem dL_law_1014 : decode cL_law 1014 = .ok (.istore 25, 2) := by decide +kernel
theorem dL_law_1016 : decode cL_law 1016 = .ok (.aload 5, 2) := by decide +kernel
theorem dL_law_1018 : decode cL_law 1018 = .ok (.sipush 3001, 3) := by decide +kernel
theorem dL_law_1021 : decode cL_law 1021 = .ok (.invokevirtual 131, 3) := by decide +kernel
theorem dL_law_1024 : decode cL_law 1024 = .ok (.sipush 1500, 3) := by decide +kernel
theorem dL_law_1027 : decode cL_law 1027 = .ok (.isub, 1) := by decide +kernel
theorem dL_law_1028 : decode cL_law 1028 = .ok (.istore 26, 2) := by decide +kernel
theorem dL_law_1030 : decode cL_law 1030 = .ok (.iload 25, 2) := by decide +kernel
theorem dL_law_1032 : decode cL_law 1032 = .ok (.ifCond .eq 11, 3) := by decide +kernel
theorem dL_law_1035 : decode cL_law 1035 = .ok (.aload 6, 2) := by decide +kernel
theorem dL_law_1037 : decode cL_law 1037 = .ok (.getfield 292, 3) := by decide +kernel
theorem dL_law_1040 : decode cL_law 1040 = .ok (.goto 8, 3) := by decide +kernel
theorem dL_law_1043 : decode cL_law 1043 = .ok (.aload 6, 2) := by decide +kernel
theorem dL_law_1045 : decode cL_law 1045 = .ok (.getfield 197, 3) := by decide +kernel
theorem dL_law_1048 : decode cL_law 1048 = .ok (.istore 27, 2) := by decide +kernel
theorem dL_law_1050 : decode cL_law 1050 = .ok (.iload 25, 2) := by decide +kernel
theorem dL_law_1052 : decode cL_law 1052 = .ok (.ifCond .eq 13, 3) := by decide +kernel
theorem dL_law_1055 : decode cL_law 1055 = .ok (.aload 6, 2) := by decide +kernel
theorem dL_law_1057 : decode cL_law 1057 = .ok (.iload 26, 2) := by decide +kernel
theorem dL_law_1059 : decode cL_law 1059 = .ok (.putfield 292, 3) := by decide +kernel
theorem dL_law_1062 : decode cL_law 1062 = .ok (.goto 10, 3) := by decide +kernel
theorem dL_law_1065 : decode cL_law 1065 = .ok (.aload 6, 2) := by decide +kernel
theorem dL_law_1067 : decode cL_law 1067 = .ok (.iload 26, 2) := by decide +kernel
theorem dL_law_1069 : decode cL_law 1069 = .ok (.putfield 197, 3) := by decide +kernel
theorem dL_law_1072 : decode cL_law 1072 = .ok (.aload_n 3, 1) := by decide +kernel
theorem dL_law_1073 : decode cL_law 1073 = .ok (.iload 25, 2) := by decide +kernel
theorem dL_law_1075 : decode cL_law 1075 = .ok (.iload 26, 2) := by decide +kernel
theorem dL_law_1077 : decode cL_law 1077 = .ok (.invokestatic 261, 3) := by decide +kernel
theorem dL_law_1080 : decode cL_law 1080 = .ok (.iload 27, 2) := by decide +kernel
theorem dL_law_1082 : decode cL_law 1082 = .ok (.if_icmp .ne 7, 3) := by decide +kernel
theorem dL_law_1085 : decode cL_law 1085 = .ok (.iconst 1, 1) := by decide +kernel
theorem dL_law_1086 : decode cL_law 1086 = .ok (.goto 4, 3) := by decide +kernel
theorem dL_law_1089 : decode cL_law 1089 = .ok (.iconst 0, 1) := by decide +kernel
theorem dL_law_1090 : decode cL_law 1090 = .ok (.istore_n 1, 1) := by decide +kernel
theorem dL_law_1091 : decode cL_law 1091 = .ok (.goto 51, 3) := by decide +kernel
theorem dL_law_1094 : decode cL_law 1094 = .ok (.iconst 0, 1) := by decide +kernel
theorem dL_law_1095 : decode cL_law 1095 = .ok (.istore 12, 2) := by decide +kernel
theorem dL_law_1097 : decode cL_law 1097 = .ok (.aload_n 3, 1) := by decide +kernel
theorem dL_law_1098 : decode cL_law 1098 = .ok (.aload 6, 2) := by decide +kernel
theorem dL_law_1100 : decode cL_law 1100 = .ok (.getfield 202, 3) := by decide +kernel
theorem dL_law_1103 : decode cL_law 1103 = .ok (.arraylength, 1) := by decide +kernel
theorem dL_law_1104 : decode cL_law 1104 = .ok (.iconst 0, 1) := by decide +kernel
theorem dL_law_1105 : decode cL_law 1105 = .ok (.invokestatic 295, 3) := by decide +kernel
theorem dL_law_1108 : decode cL_law 1108 = .ok (.ldc 67, 2) := by decide +kernel
theorem dL_law_1110 : decode cL_law 1110 = .ok (.if_icmp .ne 30, 3) := by decide +kernel
theorem dL_law_1113 : decode cL_law 1113 = .ok (.aload_n 3, 1) := by decide +kernel
theorem dL_law_1114 : decode cL_law 1114 = .ok (.iconst 0, 1) := by decide +kernel
theorem dL_law_1115 : decode cL_law 1115 = .ok (.sipush 301, 3) := by decide +kernel
theorem dL_law_1118 : decode cL_law 1118 = .ok (.invokestatic 297, 3) := by decide +kernel
theorem dL_law_1121 : decode cL_law 1121 = .ok (.ldc 42, 2) := by decide +kernel
theorem dL_law_1123 : decode cL_law 1123 = .ok (.if_icmp .ne 17, 3) := by decide +kernel
theorem dL_law_1126 : decode cL_law 1126 = .ok (.aload_n 3, 1) := by decide +kernel
theorem dL_law_1127 : decode cL_law 1127 = .ok (.iconst 0, 1) := by decide +kernel
theorem dL_law_1128 : decode cL_law 1128 = .ok (.invokestatic 299, 3) := by decide +kernel
theorem dL_law_1131 : decode cL_law 1131 = .ok (.ldc 42, 2) := by decide +kernel
theorem dL_law_1133 : decode cL_law 1133 = .ok (.if_icmp .ne 7, 3) := by decide +kernel
theorem dL_law_1136 : decode cL_law 1136 = .ok (.iconst 1, 1) := by decide +kernel
theorem dL_law_1137 : decode cL_law 1137 = .ok (.goto 4, 3) := by decide +kernel
theorem dL_law_1140 : decode cL_law 1140 = .ok (.iconst 0, 1) := by decide +kernel
theorem dL_law_1141 : decode cL_law 1141 = .ok (.istore_n 1, 1) := by decide +kernel
theorem dL_law_1142 : decode cL_law 1142 = .ok (.iload 12, 2) := by decide +kernel
theorem dL_law_1144 : decode cL_law 1144 = .ok (.ifCond .eq 39, 3) := by decide +kernel
theorem dL_law_1147 : decode cL_law 1147 = .ok (.bipush 8, 2) := by decide +kernel
theorem dL_law_1149 : decode cL_law 1149 = .ok (.istore 15, 2) := by decide +kernel
theorem dL_law_1151 : decode cL_law 1151 = .ok (.iload 15, 2) := by decide +kernel
theorem dL_law_1153 : decode cL_law 1153 = .ok (.ifCond .le 21, 3) := by decide +kernel
theorem dL_law_1156 : decode cL_law 1156 = .ok (.aload 8, 2) := by decide +kernel
theorem dL_law_1158 : decode cL_law 1158 = .ok (.iload 15, 2) := by decide +kernel
theorem dL_law_1160 : decode cL_law 1160 = .ok (.aload 8, 2) := by decide +kernel
theorem dL_law_1162 : decode cL_law 1162 = .ok (.iload 15, 2) := by decide +kernel
theorem dL_law_1164 : decode cL_law 1164 = .ok (.iconst 1, 1) := by decide +kernel
theorem dL_law_1165 : decode cL_law 1165 = .ok (.isub, 1) := by decide +kernel
theorem dL_law_1166 : decode cL_law 1166 = .ok (.aaload, 1) := by decide +kernel
theorem dL_law_1167 : decode cL_law 1167 = .ok (.aastore, 1) := by decide +kernel
theorem dL_law_1168 : decode cL_law 1168 = .ok (.iinc 15 (-1), 3) := by decide +kernel
theorem dL_law_1171 : decode cL_law 1171 = .ok (.goto (-20), 3) := by decide +kernel
theorem dL_law_1174 : decode cL_law 1174 = .ok (.aload 8, 2) := by decide +kernel
theorem dL_law_1176 : decode cL_law 1176 = .ok (.iconst 0, 1) := by decide +kernel
theorem dL_law_1177 : decode cL_law 1177 = .ok (.aload 11, 2) := by decide +kernel
theorem dL_law_1179 : decode cL_law 1179 = .ok (.aastore, 1) := by decide +kernel
theorem dL_law_1180 : decode cL_law 1180 = .ok (.iinc 9 1, 3) := by decide +kernel
theorem dL_law_1183 : decode cL_law 1183 = .ok (.iload_n 1, 1) := by decide +kernel
theorem dL_law_1184 : decode cL_law 1184 = .ok (.ifCond .eq 16, 3) := by decide +kernel
theorem dL_law_1187 : decode cL_law 1187 = .ok (.aload_n 3, 1) := by decide +kernel
theorem dL_law_1188 : decode cL_law 1188 = .ok (.aload 6, 2) := by decide +kernel
theorem dL_law_1190 : decode cL_law 1190 = .ok (.invokestatic 239, 3) := by decide +kernel
theorem dL_law_1193 : decode cL_law 1193 = .ok (.ifCond .eq 7, 3) := by decide +kernel
theorem dL_law_1196 : decode cL_law 1196 = .ok (.iconst 1, 1) := by decide +kernel
theorem dL_law_1197 : decode cL_law 1197 = .ok (.goto 4, 3) := by decide +kernel
theorem dL_law_1200 : decode cL_law 1200 = .ok (.iconst 0, 1) := by decide +kernel
theorem dL_law_1201 : decode cL_law 1201 = .ok (.istore_n 1, 1) := by decide +kernel
theorem dL_law_1202 : decode cL_law 1202 = .ok (.iinc 10 1, 3) := by decide +kernel
theorem dL_law_1205 : decode cL_law 1205 = .ok (.goto (-943), 3) := by decide +kernel
theorem dL_law_1208 : decode cL_law 1208 = .ok (.iconst 0, 1) := by decide +kernel
theorem dL_law_1209 : decode cL_law 1209 = .ok (.istore 10, 2) := by decide +kernel
theorem dL_law_1211 : decode cL_law 1211 = .ok (.iload 10, 2) := by decide +kernel
theorem dL_law_1213 : decode cL_law 1213 = .ok (.bipush 8, 2) := by decide +kernel
theorem dL_law_1215 : decode cL_law 1215 = .ok (.if_icmp .ge 45, 3) := by decide +kernel
theorem dL_law_1218 : decode cL_law 1218 = .ok (.iload 10, 2) := by decide +kernel
theorem dL_law_1220 : decode cL_law 1220 = .ok (.iload 9, 2) := by decide +kernel
theorem dL_law_1222 : decode cL_law 1222 = .ok (.if_icmp .ge 38, 3) := by decide +kernel
theorem dL_law_1225 : decode cL_law 1225 = .ok (.iload_n 1, 1) := by decide +kernel
theorem dL_law_1226 : decode cL_law 1226 = .ok (.ifCond .eq 34, 3) := by decide +kernel
theorem dL_law_1229 : decode cL_law 1229 = .ok (.aload_n 3, 1) := by decide +kernel
theorem dL_law_1230 : decode cL_law 1230 = .ok (.invokevirtual 246, 3) := by decide +kernel
theorem dL_law_1233 : decode cL_law 1233 = .ok (.ifCond .lt 19, 3) := by decide +kernel
theorem dL_law_1236 : decode cL_law 1236 = .ok (.aload_n 3, 1) := by decide +kernel
theorem dL_law_1237 : decode cL_law 1237 = .ok (.aload 8, 2) := by decide +kernel
theorem dL_law_1239 : decode cL_law 1239 = .ok (.iload 10, 2) := by decide +kernel
theorem dL_law_1241 : decode cL_law 1241 = .ok (.aaload, 1) := by decide +kernel
theorem dL_law_1242 : decode cL_law 1242 = .ok (.invokestatic 239, 3) := by decide +kernel
theorem dL_law_1245 : decode cL_law 1245 = .ok (.ifCond .eq 7, 3) := by decide +kernel
theorem dL_law_1248 : decode cL_law 1248 = .ok (.iconst 1, 1) := by decide +kernel
theorem dL_law_1249 : decode cL_law 1249 = .ok (.goto 4, 3) := by decide +kernel
theorem dL_law_1252 : decode cL_law 1252 = .ok (.iconst 0, 1) := by decide +kernel
theorem dL_law_1253 : decode cL_law 1253 = .ok (.istore_n 1, 1) := by decide +kernel
theorem dL_law_1254 : decode cL_law 1254 = .ok (.iinc 10 1, 3) := by decide +kernel
theorem dL_law_1257 : decode cL_law 1257 = .ok (.goto (-46), 3) := by decide +kernel
theorem dL_law_1260 : decode cL_law 1260 = .ok (.iload_n 1, 1) := by decide +kernel
theorem dL_law_1261 : decode cL_law 1261 = .ok (.ifCond .eq 91, 3) := by decide +kernel
theorem dL_law_1264 : decode cL_law 1264 = .ok (.aload_n 3, 1) := by decide +kernel
theorem dL_law_1265 : decode cL_law 1265 = .ok (.sipush 501, 3) := by decide +kernel
theorem dL_law_1268 : decode cL_law 1268 = .ok (.invokestatic 19, 3) := by decide +kernel
theorem dL_law_1271 : decode cL_law 1271 = .ok (.ldc 42, 2) := by decide +kernel
theorem dL_law_1273 : decode cL_law 1273 = .ok (.if_icmp .ne 79, 3) := by decide +kernel
theorem dL_law_1276 : decode cL_law 1276 = .ok (.aload_n 3, 1) := by decide +kernel
theorem dL_law_1277 : decode cL_law 1277 = .ok (.iconst 1, 1) := by decide +kernel
theorem dL_law_1278 : decode cL_law 1278 = .ok (.bipush 12, 2) := by decide +kernel
theorem dL_law_1280 : decode cL_law 1280 = .ok (.iconst 0, 1) := by decide +kernel
theorem dL_law_1281 : decode cL_law 1281 = .ok (.invokestatic 301, 3) := by decide +kernel
theorem dL_law_1284 : decode cL_law 1284 = .ok (.ldc 58, 2) := by decide +kernel
theorem dL_law_1286 : decode cL_law 1286 = .ok (.if_icmp .ne 66, 3) := by decide +kernel
theorem dL_law_1289 : decode cL_law 1289 = .ok (.aload_n 3, 1) := by decide +kernel
theorem dL_law_1290 : decode cL_law 1290 = .ok (.sipush 201, 3) := by decide +kernel
theorem dL_law_1293 : decode cL_law 1293 = .ok (.iconst 0, 1) := by decide +kernel
theorem dL_law_1294 : decode cL_law 1294 = .ok (.iconst 0, 1) := by decide +kernel
theorem dL_law_1295 : decode cL_law 1295 = .ok (.invokestatic 301, 3) := by decide +kernel
theorem dL_law_1298 : decode cL_law 1298 = .ok (.ldc 42, 2) := by decide +kernel
theorem dL_law_1300 : decode cL_law 1300 = .ok (.if_icmp .ne 52, 3) := by decide +kernel
theorem dL_law_1303 : decode cL_law 1303 = .ok (.aload_n 3, 1) := by decide +kernel
theorem dL_law_1304 : decode cL_law 1304 = .ok (.iconst (-1), 1) := by decide +kernel
theorem dL_law_1305 : decode cL_law 1305 = .ok (.iconst 5, 1) := by decide +kernel
theorem dL_law_1306 : decode cL_law 1306 = .ok (.invokestatic 297, 3) := by decide +kernel
theorem dL_law_1309 : decode cL_law 1309 = .ok (.ldc 58, 2) := by decide +kernel
theorem dL_law_1311 : decode cL_law 1311 = .ok (.if_icmp .ne 41, 3) := by decide +kernel
theorem dL_law_1314 : decode cL_law 1314 = .ok (.aload_n 3, 1) := by decide +kernel
theorem dL_law_1315 : decode cL_law 1315 = .ok (.iconst (-1), 1) := by decide +kernel
theorem dL_law_1316 : decode cL_law 1316 = .ok (.iconst 0, 1) := by decide +kernel
theorem dL_law_1317 : decode cL_law 1317 = .ok (.invokestatic 295, 3) := by decide +kernel
theorem dL_law_1320 : decode cL_law 1320 = .ok (.ldc 67, 2) := by decide +kernel
theorem dL_law_1322 : decode cL_law 1322 = .ok (.if_icmp .ne 30, 3) := by decide +kernel
theorem dL_law_1325 : decode cL_law 1325 = .ok (.aload_n 3, 1) := by decide +kernel
theorem dL_law_1326 : decode cL_law 1326 = .ok (.iconst (-1), 1) := by decide +kernel
theorem dL_law_1327 : decode cL_law 1327 = .ok (.iconst 0, 1) := by decide +kernel
theorem dL_law_1328 : decode cL_law 1328 = .ok (.invokestatic 230, 3) := by decide +kernel
theorem dL_law_1331 : decode cL_law 1331 = .ok (.ldc 67, 2) := by decide +kernel
theorem dL_law_1333 : decode cL_law 1333 = .ok (.if_icmp .ne 19, 3) := by decide +kernel
theorem dL_law_1336 : decode cL_law 1336 = .ok (.aload_n 3, 1) := by decide +kernel
theorem dL_law_1337 : decode cL_law 1337 = .ok (.sipush 201, 3) := by decide +kernel
theorem dL_law_1340 : decode cL_law 1340 = .ok (.invokestatic 299, 3) := by decide +kernel
theorem dL_law_1343 : decode cL_law 1343 = .ok (.ldc 42, 2) := by decide +kernel
theorem dL_law_1345 : decode cL_law 1345 = .ok (.if_icmp .ne 7, 3) := by decide +kernel
theorem dL_law_1348 : decode cL_law 1348 = .ok (.iconst 1, 1) := by decide +kernel
theorem dL_law_1349 : decode cL_law 1349 = .ok (.goto 4, 3) := by decide +kernel
theorem dL_law_1352 : decode cL_law 1352 = .ok (.iconst 0, 1) := by decide +kernel
theorem dL_law_1353 : decode cL_law 1353 = .ok (.istore_n 1, 1) := by decide +kernel
theorem dL_law_1354 : decode cL_law 1354 = .ok (.iinc 2 1, 3) := by decide +kernel
theorem dL_law_1357 : decode cL_law 1357 = .ok (.goto (-1353), 3) := by decide +kernel
theorem dL_law_1360 : decode cL_law 1360 = .ok (.iload_n 1, 1) := by decide +kernel
theorem dL_law_1361 : decode cL_law 1361 = .ok (.ireturn, 1) := by decide +kernel
