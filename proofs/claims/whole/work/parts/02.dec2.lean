theorem dX7_readImpulse_100 : decode cX7_readImpulse 100 = .ok (.invokestatic 132, 3) := by decide +kernel
theorem dX7_readImpulse_103 : decode cX7_readImpulse 103 = .ok (.return_, 1) := by decide +kernel
theorem dX7_statement_0 : decode cX7_statement 0 = .ok (.aload_n 0, 1) := by decide +kernel
theorem dX7_statement_1 : decode cX7_statement 1 = .ok (.invokevirtual 73, 3) := by decide +kernel
theorem dX7_statement_4 : decode cX7_statement 4 = .ok (.pop, 1) := by decide +kernel
theorem dX7_statement_5 : decode cX7_statement 5 = .ok (.aload_n 0, 1) := by decide +kernel
theorem dX7_statement_6 : decode cX7_statement 6 = .ok (.getfield 52, 3) := by decide +kernel
theorem dX7_statement_9 : decode cX7_statement 9 = .ok (.istore_n 1, 1) := by decide +kernel
theorem dX7_statement_10 : decode cX7_statement 10 = .ok (.aload_n 0, 1) := by decide +kernel
theorem dX7_statement_11 : decode cX7_statement 11 = .ok (.ldc 136, 2) := by decide +kernel
theorem dX7_statement_13 : decode cX7_statement 13 = .ok (.invokevirtual 107, 3) := by decide +kernel
theorem dX7_statement_16 : decode cX7_statement 16 = .ok (.ifCond .eq 41, 3) := by decide +kernel
theorem dX7_statement_19 : decode cX7_statement 19 = .ok (.aload_n 0, 1) := by decide +kernel
theorem dX7_statement_20 : decode cX7_statement 20 = .ok (.invokevirtual 112, 3) := by decide +kernel
theorem dX7_statement_23 : decode cX7_statement 23 = .ok (.istore_n 2, 1) := by decide +kernel
theorem dX7_statement_24 : decode cX7_statement 24 = .ok (.aload_n 0, 1) := by decide +kernel
theorem dX7_statement_25 : decode cX7_statement 25 = .ok (.iconst 1, 1) := by decide +kernel
theorem dX7_statement_26 : decode cX7_statement 26 = .ok (.bipush 99, 2) := by decide +kernel
theorem dX7_statement_28 : decode cX7_statement 28 = .ok (.invokevirtual 102, 3) := by decide +kernel
theorem dX7_statement_31 : decode cX7_statement 31 = .ok (.istore_n 3, 1) := by decide +kernel
theorem dX7_statement_32 : decode cX7_statement 32 = .ok (.aload_n 0, 1) := by decide +kernel
theorem dX7_statement_33 : decode cX7_statement 33 = .ok (.invokevirtual 69, 3) := by decide +kernel
theorem dX7_statement_36 : decode cX7_statement 36 = .ok (.ifCond .eq 18, 3) := by decide +kernel
theorem dX7_statement_39 : decode cX7_statement 39 = .ok (.aload_n 0, 1) := by decide +kernel
theorem dX7_statement_40 : decode cX7_statement 40 = .ok (.getfield 21, 3) := by decide +kernel
theorem dX7_statement_43 : decode cX7_statement 43 = .ok (.bipush 12, 2) := by decide +kernel
theorem dX7_statement_45 : decode cX7_statement 45 = .ok (.iconst 3, 1) := by decide +kernel
theorem dX7_statement_46 : decode cX7_statement 46 = .ok (.iload_n 2, 1) := by decide +kernel
theorem dX7_statement_47 : decode cX7_statement 47 = .ok (.imul, 1) := by decide +kernel
theorem dX7_statement_48 : decode cX7_statement 48 = .ok (.iadd, 1) := by decide +kernel
theorem dX7_statement_49 : decode cX7_statement 49 = .ok (.iconst 0, 1) := by decide +kernel
theorem dX7_statement_50 : decode cX7_statement 50 = .ok (.iadd, 1) := by decide +kernel
theorem dX7_statement_51 : decode cX7_statement 51 = .ok (.iload_n 3, 1) := by decide +kernel
theorem dX7_statement_52 : decode cX7_statement 52 = .ok (.i2l, 1) := by decide +kernel
theorem dX7_statement_53 : decode cX7_statement 53 = .ok (.lastore, 1) := by decide +kernel
theorem dX7_statement_54 : decode cX7_statement 54 = .ok (.goto 169, 3) := by decide +kernel
theorem dX7_statement_57 : decode cX7_statement 57 = .ok (.aload_n 0, 1) := by decide +kernel
theorem dX7_statement_58 : decode cX7_statement 58 = .ok (.ldc 138, 2) := by decide +kernel
theorem dX7_statement_60 : decode cX7_statement 60 = .ok (.invokevirtual 107, 3) := by decide +kernel
theorem dX7_statement_63 : decode cX7_statement 63 = .ok (.ifCond .eq 10, 3) := by decide +kernel
theorem dX7_statement_66 : decode cX7_statement 66 = .ok (.aload_n 0, 1) := by decide +kernel
theorem dX7_statement_67 : decode cX7_statement 67 = .ok (.invokevirtual 140, 3) := by decide +kernel
theorem dX7_statement_70 : decode cX7_statement 70 = .ok (.goto 153, 3) := by decide +kernel
theorem dX7_statement_73 : decode cX7_statement 73 = .ok (.aload_n 0, 1) := by decide +kernel
theorem dX7_statement_74 : decode cX7_statement 74 = .ok (.ldc 143, 2) := by decide +kernel
theorem dX7_statement_76 : decode cX7_statement 76 = .ok (.invokevirtual 107, 3) := by decide +kernel
theorem dX7_statement_79 : decode cX7_statement 79 = .ok (.ifCond .eq 10, 3) := by decide +kernel
theorem dX7_statement_82 : decode cX7_statement 82 = .ok (.aload_n 0, 1) := by decide +kernel
theorem dX7_statement_83 : decode cX7_statement 83 = .ok (.invokevirtual 145, 3) := by decide +kernel
theorem dX7_statement_86 : decode cX7_statement 86 = .ok (.goto 137, 3) := by decide +kernel
theorem dX7_statement_89 : decode cX7_statement 89 = .ok (.aload_n 0, 1) := by decide +kernel
theorem dX7_statement_90 : decode cX7_statement 90 = .ok (.ldc 148, 2) := by decide +kernel
theorem dX7_statement_92 : decode cX7_statement 92 = .ok (.invokevirtual 107, 3) := by decide +kernel
theorem dX7_statement_95 : decode cX7_statement 95 = .ok (.ifCond .eq 10, 3) := by decide +kernel
theorem dX7_statement_98 : decode cX7_statement 98 = .ok (.aload_n 0, 1) := by decide +kernel
theorem dX7_statement_99 : decode cX7_statement 99 = .ok (.invokevirtual 150, 3) := by decide +kernel
theorem dX7_statement_102 : decode cX7_statement 102 = .ok (.goto 121, 3) := by decide +kernel
theorem dX7_statement_105 : decode cX7_statement 105 = .ok (.aload_n 0, 1) := by decide +kernel
theorem dX7_statement_106 : decode cX7_statement 106 = .ok (.ldc 153, 2) := by decide +kernel
theorem dX7_statement_108 : decode cX7_statement 108 = .ok (.invokevirtual 107, 3) := by decide +kernel
theorem dX7_statement_111 : decode cX7_statement 111 = .ok (.ifCond .eq 40, 3) := by decide +kernel
theorem dX7_statement_114 : decode cX7_statement 114 = .ok (.aload_n 0, 1) := by decide +kernel
theorem dX7_statement_115 : decode cX7_statement 115 = .ok (.getfield 155, 3) := by decide +kernel
theorem dX7_statement_118 : decode cX7_statement 118 = .ok (.ifCond .eq 10, 3) := by decide +kernel
theorem dX7_statement_121 : decode cX7_statement 121 = .ok (.aload_n 0, 1) := by decide +kernel
theorem dX7_statement_122 : decode cX7_statement 122 = .ok (.bipush (-2), 2) := by decide +kernel
theorem dX7_statement_124 : decode cX7_statement 124 = .ok (.iload_n 1, 1) := by decide +kernel
theorem dX7_statement_125 : decode cX7_statement 125 = .ok (.invokevirtual 86, 3) := by decide +kernel
theorem dX7_statement_128 : decode cX7_statement 128 = .ok (.aload_n 0, 1) := by decide +kernel
theorem dX7_statement_129 : decode cX7_statement 129 = .ok (.iconst 1, 1) := by decide +kernel
theorem dX7_statement_130 : decode cX7_statement 130 = .ok (.putfield 155, 3) := by decide +kernel
theorem dX7_statement_133 : decode cX7_statement 133 = .ok (.aload_n 0, 1) := by decide +kernel
theorem dX7_statement_134 : decode cX7_statement 134 = .ok (.getfield 21, 3) := by decide +kernel
theorem dX7_statement_137 : decode cX7_statement 137 = .ok (.iconst 4, 1) := by decide +kernel
theorem dX7_statement_138 : decode cX7_statement 138 = .ok (.aload_n 0, 1) := by decide +kernel
theorem dX7_statement_139 : decode cX7_statement 139 = .ok (.iconst 0, 1) := by decide +kernel
theorem dX7_statement_140 : decode cX7_statement 140 = .ok (.sipush 999, 3) := by decide +kernel
theorem dX7_statement_143 : decode cX7_statement 143 = .ok (.invokevirtual 102, 3) := by decide +kernel
theorem dX7_statement_146 : decode cX7_statement 146 = .ok (.i2l, 1) := by decide +kernel
theorem dX7_statement_147 : decode cX7_statement 147 = .ok (.lastore, 1) := by decide +kernel
theorem dX7_statement_148 : decode cX7_statement 148 = .ok (.goto 75, 3) := by decide +kernel
theorem dX7_statement_151 : decode cX7_statement 151 = .ok (.aload_n 0, 1) := by decide +kernel
theorem dX7_statement_152 : decode cX7_statement 152 = .ok (.ldc 159, 2) := by decide +kernel
theorem dX7_statement_154 : decode cX7_statement 154 = .ok (.invokevirtual 107, 3) := by decide +kernel
theorem dX7_statement_157 : decode cX7_statement 157 = .ok (.ifCond .eq 10, 3) := by decide +kernel
theorem dX7_statement_160 : decode cX7_statement 160 = .ok (.aload_n 0, 1) := by decide +kernel
theorem dX7_statement_161 : decode cX7_statement 161 = .ok (.invokevirtual 161, 3) := by decide +kernel
theorem dX7_statement_164 : decode cX7_statement 164 = .ok (.goto 59, 3) := by decide +kernel
theorem dX7_statement_167 : decode cX7_statement 167 = .ok (.aload_n 0, 1) := by decide +kernel
theorem dX7_statement_168 : decode cX7_statement 168 = .ok (.ldc 164, 2) := by decide +kernel
theorem dX7_statement_170 : decode cX7_statement 170 = .ok (.invokevirtual 107, 3) := by decide +kernel
theorem dX7_statement_173 : decode cX7_statement 173 = .ok (.ifCond .eq 10, 3) := by decide +kernel
theorem dX7_statement_176 : decode cX7_statement 176 = .ok (.aload_n 0, 1) := by decide +kernel
theorem dX7_statement_177 : decode cX7_statement 177 = .ok (.invokevirtual 166, 3) := by decide +kernel
theorem dX7_statement_180 : decode cX7_statement 180 = .ok (.goto 43, 3) := by decide +kernel
theorem dX7_statement_183 : decode cX7_statement 183 = .ok (.aload_n 0, 1) := by decide +kernel
theorem dX7_statement_184 : decode cX7_statement 184 = .ok (.ldc 169, 2) := by decide +kernel
theorem dX7_statement_186 : decode cX7_statement 186 = .ok (.invokevirtual 107, 3) := by decide +kernel
theorem dX7_statement_189 : decode cX7_statement 189 = .ok (.ifCond .eq 10, 3) := by decide +kernel
theorem dX7_statement_192 : decode cX7_statement 192 = .ok (.aload_n 0, 1) := by decide +kernel
theorem dX7_statement_193 : decode cX7_statement 193 = .ok (.invokevirtual 171, 3) := by decide +kernel
theorem dX7_statement_196 : decode cX7_statement 196 = .ok (.goto 27, 3) := by decide +kernel
theorem dX7_statement_199 : decode cX7_statement 199 = .ok (.aload_n 0, 1) := by decide +kernel
theorem dX7_statement_200 : decode cX7_statement 200 = .ok (.ldc 174, 2) := by decide +kernel
theorem dX7_statement_202 : decode cX7_statement 202 = .ok (.invokevirtual 107, 3) := by decide +kernel
theorem dX7_statement_205 : decode cX7_statement 205 = .ok (.ifCond .eq 11, 3) := by decide +kernel
theorem dX7_statement_208 : decode cX7_statement 208 = .ok (.aload_n 0, 1) := by decide +kernel
theorem dX7_statement_209 : decode cX7_statement 209 = .ok (.iload_n 1, 1) := by decide +kernel
theorem dX7_statement_210 : decode cX7_statement 210 = .ok (.invokevirtual 176, 3) := by decide +kernel
theorem dX7_statement_213 : decode cX7_statement 213 = .ok (.goto 10, 3) := by decide +kernel
theorem dX7_statement_216 : decode cX7_statement 216 = .ok (.aload_n 0, 1) := by decide +kernel
theorem dX7_statement_217 : decode cX7_statement 217 = .ok (.bipush (-2), 2) := by decide +kernel
theorem dX7_statement_219 : decode cX7_statement 219 = .ok (.iload_n 1, 1) := by decide +kernel
theorem dX7_statement_220 : decode cX7_statement 220 = .ok (.invokevirtual 86, 3) := by decide +kernel
theorem dX7_statement_223 : decode cX7_statement 223 = .ok (.aload_n 0, 1) := by decide +kernel
theorem dX7_statement_224 : decode cX7_statement 224 = .ok (.bipush 59, 2) := by decide +kernel
theorem dX7_statement_226 : decode cX7_statement 226 = .ok (.invokevirtual 180, 3) := by decide +kernel
theorem dX7_statement_229 : decode cX7_statement 229 = .ok (.return_, 1) := by decide +kernel
theorem dX7_load_0 : decode cX7_load 0 = .ok (.aload_n 0, 1) := by decide +kernel
theorem dX7_load_1 : decode cX7_load 1 = .ok (.iconst 0, 1) := by decide +kernel
theorem dX7_load_2 : decode cX7_load 2 = .ok (.putfield 39, 3) := by decide +kernel
theorem dX7_load_5 : decode cX7_load 5 = .ok (.aload_n 0, 1) := by decide +kernel
theorem dX7_load_6 : decode cX7_load 6 = .ok (.iload_n 1, 1) := by decide +kernel
theorem dX7_load_7 : decode cX7_load 7 = .ok (.iconst 0, 1) := by decide +kernel
theorem dX7_load_8 : decode cX7_load 8 = .ok (.aload_n 0, 1) := by decide +kernel
theorem dX7_load_9 : decode cX7_load 9 = .ok (.getfield 46, 3) := by decide +kernel
theorem dX7_load_12 : decode cX7_load 12 = .ok (.invokestatic 65, 3) := by decide +kernel
theorem dX7_load_15 : decode cX7_load 15 = .ok (.ifCond .ne 7, 3) := by decide +kernel
theorem dX7_load_18 : decode cX7_load 18 = .ok (.iconst 1, 1) := by decide +kernel
theorem dX7_load_19 : decode cX7_load 19 = .ok (.goto 4, 3) := by decide +kernel
theorem dX7_load_22 : decode cX7_load 22 = .ok (.iconst 0, 1) := by decide +kernel
theorem dX7_load_23 : decode cX7_load 23 = .ok (.iconst 1, 1) := by decide +kernel
theorem dX7_load_24 : decode cX7_load 24 = .ok (.invokevirtual 183, 3) := by decide +kernel
theorem dX7_load_27 : decode cX7_load 27 = .ok (.ifCond .eq 5, 3) := by decide +kernel
theorem dX7_load_30 : decode cX7_load 30 = .ok (.iconst 0, 1) := by decide +kernel
theorem dX7_load_31 : decode cX7_load 31 = .ok (.ireturn, 1) := by decide +kernel
theorem dX7_load_32 : decode cX7_load 32 = .ok (.aload_n 0, 1) := by decide +kernel
theorem dX7_load_33 : decode cX7_load 33 = .ok (.iconst 0, 1) := by decide +kernel
theorem dX7_load_34 : decode cX7_load 34 = .ok (.putfield 46, 3) := by decide +kernel
theorem dX7_load_37 : decode cX7_load 37 = .ok (.aload_n 0, 1) := by decide +kernel
theorem dX7_load_38 : decode cX7_load 38 = .ok (.iload_n 1, 1) := by decide +kernel
theorem dX7_load_39 : decode cX7_load 39 = .ok (.putfield 49, 3) := by decide +kernel
theorem dX7_load_42 : decode cX7_load 42 = .ok (.aload_n 0, 1) := by decide +kernel
theorem dX7_load_43 : decode cX7_load 43 = .ok (.iconst 0, 1) := by decide +kernel
theorem dX7_load_44 : decode cX7_load 44 = .ok (.putfield 52, 3) := by decide +kernel
theorem dX7_load_47 : decode cX7_load 47 = .ok (.aload_n 0, 1) := by decide +kernel
theorem dX7_load_48 : decode cX7_load 48 = .ok (.iconst 0, 1) := by decide +kernel
theorem dX7_load_49 : decode cX7_load 49 = .ok (.putfield 59, 3) := by decide +kernel
theorem dX7_load_52 : decode cX7_load 52 = .ok (.aload_n 0, 1) := by decide +kernel
theorem dX7_load_53 : decode cX7_load 53 = .ok (.iconst (-1), 1) := by decide +kernel
theorem dX7_load_54 : decode cX7_load 54 = .ok (.putfield 62, 3) := by decide +kernel
theorem dX7_load_57 : decode cX7_load 57 = .ok (.aload_n 0, 1) := by decide +kernel
theorem dX7_load_58 : decode cX7_load 58 = .ok (.iconst 0, 1) := by decide +kernel
theorem dX7_load_59 : decode cX7_load 59 = .ok (.putfield 115, 3) := by decide +kernel
theorem dX7_load_62 : decode cX7_load 62 = .ok (.aload_n 0, 1) := by decide +kernel
theorem dX7_load_63 : decode cX7_load 63 = .ok (.iconst 0, 1) := by decide +kernel
theorem dX7_load_64 : decode cX7_load 64 = .ok (.putfield 121, 3) := by decide +kernel
theorem dX7_load_67 : decode cX7_load 67 = .ok (.aload_n 0, 1) := by decide +kernel
theorem dX7_load_68 : decode cX7_load 68 = .ok (.iconst 0, 1) := by decide +kernel
theorem dX7_load_69 : decode cX7_load 69 = .ok (.putfield 155, 3) := by decide +kernel
theorem dX7_load_72 : decode cX7_load 72 = .ok (.aload_n 0, 1) := by decide +kernel
theorem dX7_load_73 : decode cX7_load 73 = .ok (.ldc 187, 2) := by decide +kernel
theorem dX7_load_75 : decode cX7_load 75 = .ok (.invokevirtual 107, 3) := by decide +kernel
theorem dX7_load_78 : decode cX7_load 78 = .ok (.ifCond .ne 13, 3) := by decide +kernel
theorem dX7_load_81 : decode cX7_load 81 = .ok (.aload_n 0, 1) := by decide +kernel
theorem dX7_load_82 : decode cX7_load 82 = .ok (.bipush (-2), 2) := by decide +kernel
theorem dX7_load_84 : decode cX7_load 84 = .ok (.aload_n 0, 1) := by decide +kernel
theorem dX7_load_85 : decode cX7_load 85 = .ok (.getfield 52, 3) := by decide +kernel
theorem dX7_load_88 : decode cX7_load 88 = .ok (.invokevirtual 86, 3) := by decide +kernel
theorem dX7_load_91 : decode cX7_load 91 = .ok (.aload_n 0, 1) := by decide +kernel
theorem dX7_load_92 : decode cX7_load 92 = .ok (.iconst 1, 1) := by decide +kernel
theorem dX7_load_93 : decode cX7_load 93 = .ok (.bipush 12, 2) := by decide +kernel
theorem dX7_load_95 : decode cX7_load 95 = .ok (.invokevirtual 102, 3) := by decide +kernel
theorem dX7_load_98 : decode cX7_load 98 = .ok (.istore_n 2, 1) := by decide +kernel
theorem dX7_load_99 : decode cX7_load 99 = .ok (.aload_n 0, 1) := by decide +kernel
theorem dX7_load_100 : decode cX7_load 100 = .ok (.getfield 21, 3) := by decide +kernel
theorem dX7_load_103 : decode cX7_load 103 = .ok (.iload_n 2, 1) := by decide +kernel
theorem dX7_load_104 : decode cX7_load 104 = .ok (.invokestatic 35, 3) := by decide +kernel
theorem dX7_load_107 : decode cX7_load 107 = .ok (.aload_n 0, 1) := by decide +kernel
theorem dX7_load_108 : decode cX7_load 108 = .ok (.bipush 59, 2) := by decide +kernel
theorem dX7_load_110 : decode cX7_load 110 = .ok (.invokevirtual 180, 3) := by decide +kernel
theorem dX7_load_113 : decode cX7_load 113 = .ok (.aload_n 0, 1) := by decide +kernel
theorem dX7_load_114 : decode cX7_load 114 = .ok (.invokevirtual 69, 3) := by decide +kernel
theorem dX7_load_117 : decode cX7_load 117 = .ok (.ifCond .eq 18, 3) := by decide +kernel
theorem dX7_load_120 : decode cX7_load 120 = .ok (.aload_n 0, 1) := by decide +kernel
theorem dX7_load_121 : decode cX7_load 121 = .ok (.invokevirtual 73, 3) := by decide +kernel
theorem dX7_load_124 : decode cX7_load 124 = .ok (.iconst (-1), 1) := by decide +kernel
theorem dX7_load_125 : decode cX7_load 125 = .ok (.if_icmp .eq 10, 3) := by decide +kernel
theorem dX7_load_128 : decode cX7_load 128 = .ok (.aload_n 0, 1) := by decide +kernel
theorem dX7_load_129 : decode cX7_load 129 = .ok (.invokevirtual 189, 3) := by decide +kernel
theorem dX7_load_132 : decode cX7_load 132 = .ok (.goto (-19), 3) := by decide +kernel
theorem dX7_load_135 : decode cX7_load 135 = .ok (.aload_n 0, 1) := by decide +kernel
theorem dX7_load_136 : decode cX7_load 136 = .ok (.aload_n 0, 1) := by decide +kernel
theorem dX7_load_137 : decode cX7_load 137 = .ok (.getfield 62, 3) := by decide +kernel
theorem dX7_load_140 : decode cX7_load 140 = .ok (.putfield 13, 3) := by decide +kernel
theorem dX7_load_143 : decode cX7_load 143 = .ok (.aload_n 0, 1) := by decide +kernel
theorem dX7_load_144 : decode cX7_load 144 = .ok (.invokevirtual 69, 3) := by decide +kernel
theorem dX7_load_147 : decode cX7_load 147 = .ok (.ifCond .ne 8, 3) := by decide +kernel
theorem dX7_load_150 : decode cX7_load 150 = .ok (.aload_n 0, 1) := by decide +kernel
theorem dX7_load_151 : decode cX7_load 151 = .ok (.getfield 59, 3) := by decide +kernel
theorem dX7_load_154 : decode cX7_load 154 = .ok (.ireturn, 1) := by decide +kernel
theorem dX7_load_155 : decode cX7_load 155 = .ok (.aload_n 0, 1) := by decide +kernel
theorem dX7_load_156 : decode cX7_load 156 = .ok (.invokevirtual 192, 3) := by decide +kernel
theorem dX7_load_159 : decode cX7_load 159 = .ok (.aload_n 0, 1) := by decide +kernel
theorem dX7_load_160 : decode cX7_load 160 = .ok (.getfield 21, 3) := by decide +kernel
theorem dX7_load_163 : decode cX7_load 163 = .ok (.aload_n 0, 1) := by decide +kernel
theorem dX7_load_164 : decode cX7_load 164 = .ok (.getfield 17, 3) := by decide +kernel
theorem dX7_load_167 : decode cX7_load 167 = .ok (.invokestatic 195, 3) := by decide +kernel
theorem dX7_load_170 : decode cX7_load 170 = .ok (.aload_n 0, 1) := by decide +kernel
theorem dX7_load_171 : decode cX7_load 171 = .ok (.invokevirtual 199, 3) := by decide +kernel
theorem dX7_load_174 : decode cX7_load 174 = .ok (.ireturn, 1) := by decide +kernel
theorem dX7_errorOffset_0 : decode cX7_errorOffset 0 = .ok (.aload_n 0, 1) := by decide +kernel
theorem dX7_errorOffset_1 : decode cX7_errorOffset 1 = .ok (.iconst 0, 1) := by decide +kernel
theorem dX7_errorOffset_2 : decode cX7_errorOffset 2 = .ok (.putfield 39, 3) := by decide +kernel
theorem dX7_errorOffset_5 : decode cX7_errorOffset 5 = .ok (.aload_n 0, 1) := by decide +kernel
theorem dX7_errorOffset_6 : decode cX7_errorOffset 6 = .ok (.getfield 13, 3) := by decide +kernel
theorem dX7_errorOffset_9 : decode cX7_errorOffset 9 = .ok (.ireturn, 1) := by decide +kernel
theorem dX7_masses_0 : decode cX7_masses 0 = .ok (.aload_n 0, 1) := by decide +kernel
theorem dX7_masses_1 : decode cX7_masses 1 = .ok (.getfield 17, 3) := by decide +kernel
theorem dX7_masses_4 : decode cX7_masses 4 = .ok (.iconst 1, 1) := by decide +kernel
theorem dX7_masses_5 : decode cX7_masses 5 = .ok (.laload, 1) := by decide +kernel
theorem dX7_masses_6 : decode cX7_masses 6 = .ok (.l2i, 1) := by decide +kernel
theorem dX7_masses_7 : decode cX7_masses 7 = .ok (.ireturn, 1) := by decide +kernel
theorem dX7_of_0 : decode cX7_of 0 = .ok (.aload_n 0, 1) := by decide +kernel
theorem dX7_of_1 : decode cX7_of 1 = .ok (.getfield 17, 3) := by decide +kernel
theorem dX7_of_4 : decode cX7_of 4 = .ok (.bipush 12, 2) := by decide +kernel
theorem dX7_of_6 : decode cX7_of 6 = .ok (.iconst 3, 1) := by decide +kernel
theorem dX7_of_7 : decode cX7_of 7 = .ok (.iload_n 1, 1) := by decide +kernel
theorem dX7_of_8 : decode cX7_of 8 = .ok (.imul, 1) := by decide +kernel
theorem dX7_of_9 : decode cX7_of 9 = .ok (.iadd, 1) := by decide +kernel
theorem dX7_of_10 : decode cX7_of 10 = .ok (.iload_n 2, 1) := by decide +kernel
theorem dX7_of_11 : decode cX7_of 11 = .ok (.iadd, 1) := by decide +kernel
theorem dX7_of_12 : decode cX7_of 12 = .ok (.laload, 1) := by decide +kernel
theorem dX7_of_13 : decode cX7_of 13 = .ok (.lreturn, 1) := by decide +kernel
theorem dX7_set_0 : decode cX7_set 0 = .ok (.aload_n 0, 1) := by decide +kernel
theorem dX7_set_1 : decode cX7_set 1 = .ok (.getfield 17, 3) := by decide +kernel
theorem dX7_set_4 : decode cX7_set 4 = .ok (.bipush 12, 2) := by decide +kernel
theorem dX7_set_6 : decode cX7_set 6 = .ok (.iconst 3, 1) := by decide +kernel
theorem dX7_set_7 : decode cX7_set 7 = .ok (.iload_n 1, 1) := by decide +kernel
theorem dX7_set_8 : decode cX7_set 8 = .ok (.imul, 1) := by decide +kernel
theorem dX7_set_9 : decode cX7_set 9 = .ok (.iadd, 1) := by decide +kernel
theorem dX7_set_10 : decode cX7_set 10 = .ok (.iload_n 2, 1) := by decide +kernel
theorem dX7_set_11 : decode cX7_set 11 = .ok (.iadd, 1) := by decide +kernel
theorem dX7_set_12 : decode cX7_set 12 = .ok (.lload_n 3, 1) := by decide +kernel
theorem dX7_set_13 : decode cX7_set 13 = .ok (.lastore, 1) := by decide +kernel
theorem dX7_set_14 : decode cX7_set 14 = .ok (.return_, 1) := by decide +kernel
theorem dX7_ofSpring_0 : decode cX7_ofSpring 0 = .ok (.aload_n 0, 1) := by decide +kernel
theorem dX7_ofSpring_1 : decode cX7_ofSpring 1 = .ok (.getfield 17, 3) := by decide +kernel
theorem dX7_ofSpring_4 : decode cX7_ofSpring 4 = .ok (.bipush 48, 2) := by decide +kernel
theorem dX7_ofSpring_6 : decode cX7_ofSpring 6 = .ok (.iconst 3, 1) := by decide +kernel
theorem dX7_ofSpring_7 : decode cX7_ofSpring 7 = .ok (.iload_n 1, 1) := by decide +kernel
theorem dX7_ofSpring_8 : decode cX7_ofSpring 8 = .ok (.imul, 1) := by decide +kernel
theorem dX7_ofSpring_9 : decode cX7_ofSpring 9 = .ok (.iadd, 1) := by decide +kernel
theorem dX7_ofSpring_10 : decode cX7_ofSpring 10 = .ok (.iload_n 2, 1) := by decide +kernel
theorem dX7_ofSpring_11 : decode cX7_ofSpring 11 = .ok (.iadd, 1) := by decide +kernel
theorem dX7_ofSpring_12 : decode cX7_ofSpring 12 = .ok (.laload, 1) := by decide +kernel
theorem dX7_ofSpring_13 : decode cX7_ofSpring 13 = .ok (.lreturn, 1) := by decide +kernel
theorem dX7_placeAt_0 : decode cX7_placeAt 0 = .ok (.iload_n 1, 1) := by decide +kernel
theorem dX7_placeAt_1 : decode cX7_placeAt 1 = .ok (.ifCond .ge 12, 3) := by decide +kernel
theorem dX7_placeAt_4 : decode cX7_placeAt 4 = .ok (.aload_n 0, 1) := by decide +kernel
theorem dX7_placeAt_5 : decode cX7_placeAt 5 = .ok (.getfield 17, 3) := by decide +kernel
theorem dX7_placeAt_8 : decode cX7_placeAt 8 = .ok (.iconst 2, 1) := by decide +kernel
theorem dX7_placeAt_9 : decode cX7_placeAt 9 = .ok (.laload, 1) := by decide +kernel
theorem dX7_placeAt_10 : decode cX7_placeAt 10 = .ok (.goto 26, 3) := by decide +kernel
theorem dX7_placeAt_13 : decode cX7_placeAt 13 = .ok (.iload_n 1, 1) := by decide +kernel
theorem dX7_placeAt_14 : decode cX7_placeAt 14 = .ok (.aload_n 0, 1) := by decide +kernel
theorem dX7_placeAt_15 : decode cX7_placeAt 15 = .ok (.invokevirtual 199, 3) := by decide +kernel
theorem dX7_placeAt_18 : decode cX7_placeAt 18 = .ok (.if_icmp .ne 12, 3) := by decide +kernel
theorem dX7_placeAt_21 : decode cX7_placeAt 21 = .ok (.aload_n 0, 1) := by decide +kernel
theorem dX7_placeAt_22 : decode cX7_placeAt 22 = .ok (.getfield 17, 3) := by decide +kernel
theorem dX7_placeAt_25 : decode cX7_placeAt 25 = .ok (.iconst 3, 1) := by decide +kernel
theorem dX7_placeAt_26 : decode cX7_placeAt 26 = .ok (.laload, 1) := by decide +kernel
theorem dX7_placeAt_27 : decode cX7_placeAt 27 = .ok (.goto 9, 3) := by decide +kernel
theorem dX7_placeAt_30 : decode cX7_placeAt 30 = .ok (.aload_n 0, 1) := by decide +kernel
theorem dX7_placeAt_31 : decode cX7_placeAt 31 = .ok (.iload_n 1, 1) := by decide +kernel
theorem dX7_placeAt_32 : decode cX7_placeAt 32 = .ok (.iconst 1, 1) := by decide +kernel
theorem dX7_placeAt_33 : decode cX7_placeAt 33 = .ok (.invokevirtual 201, 3) := by decide +kernel
theorem dX7_placeAt_36 : decode cX7_placeAt 36 = .ok (.lreturn, 1) := by decide +kernel
theorem dX7_stretch_0 : decode cX7_stretch 0 = .ok (.aload_n 0, 1) := by decide +kernel
theorem dX7_stretch_1 : decode cX7_stretch 1 = .ok (.iload_n 1, 1) := by decide +kernel
theorem dX7_stretch_2 : decode cX7_stretch 2 = .ok (.invokevirtual 205, 3) := by decide +kernel
theorem dX7_stretch_5 : decode cX7_stretch 5 = .ok (.aload_n 0, 1) := by decide +kernel
theorem dX7_stretch_6 : decode cX7_stretch 6 = .ok (.iload_n 1, 1) := by decide +kernel
theorem dX7_stretch_7 : decode cX7_stretch 7 = .ok (.iconst 1, 1) := by decide +kernel
theorem dX7_stretch_8 : decode cX7_stretch 8 = .ok (.isub, 1) := by decide +kernel
theorem dX7_stretch_9 : decode cX7_stretch 9 = .ok (.invokevirtual 205, 3) := by decide +kernel
theorem dX7_stretch_12 : decode cX7_stretch 12 = .ok (.lsub, 1) := by decide +kernel
theorem dX7_stretch_13 : decode cX7_stretch 13 = .ok (.lreturn, 1) := by decide +kernel
theorem dX7_isWhole_0 : decode cX7_isWhole 0 = .ok (.aload_n 0, 1) := by decide +kernel
theorem dX7_isWhole_1 : decode cX7_isWhole 1 = .ok (.iload_n 1, 1) := by decide +kernel
theorem dX7_isWhole_2 : decode cX7_isWhole 2 = .ok (.iconst 2, 1) := by decide +kernel
theorem dX7_isWhole_3 : decode cX7_isWhole 3 = .ok (.invokevirtual 209, 3) := by decide +kernel
theorem dX7_isWhole_6 : decode cX7_isWhole 6 = .ok (.lconst 0, 1) := by decide +kernel
theorem dX7_isWhole_7 : decode cX7_isWhole 7 = .ok (.lcmp, 1) := by decide +kernel
theorem dX7_isWhole_8 : decode cX7_isWhole 8 = .ok (.ifCond .ne 7, 3) := by decide +kernel
theorem dX7_isWhole_11 : decode cX7_isWhole 11 = .ok (.iconst 1, 1) := by decide +kernel
theorem dX7_isWhole_12 : decode cX7_isWhole 12 = .ok (.goto 4, 3) := by decide +kernel
theorem dX7_isWhole_15 : decode cX7_isWhole 15 = .ok (.iconst 0, 1) := by decide +kernel
theorem dX7_isWhole_16 : decode cX7_isWhole 16 = .ok (.ireturn, 1) := by decide +kernel
theorem dX7_pull_0 : decode cX7_pull 0 = .ok (.aload_n 0, 1) := by decide +kernel
theorem dX7_pull_1 : decode cX7_pull 1 = .ok (.iload_n 1, 1) := by decide +kernel
theorem dX7_pull_2 : decode cX7_pull 2 = .ok (.invokevirtual 212, 3) := by decide +kernel
theorem dX7_pull_5 : decode cX7_pull 5 = .ok (.ifCond .eq 22, 3) := by decide +kernel
theorem dX7_pull_8 : decode cX7_pull 8 = .ok (.aload_n 0, 1) := by decide +kernel
theorem dX7_pull_9 : decode cX7_pull 9 = .ok (.iload_n 1, 1) := by decide +kernel
theorem dX7_pull_10 : decode cX7_pull 10 = .ok (.iconst 0, 1) := by decide +kernel
theorem dX7_pull_11 : decode cX7_pull 11 = .ok (.invokevirtual 209, 3) := by decide +kernel
theorem dX7_pull_14 : decode cX7_pull 14 = .ok (.aload_n 0, 1) := by decide +kernel
theorem dX7_pull_15 : decode cX7_pull 15 = .ok (.iload_n 1, 1) := by decide +kernel
theorem dX7_pull_16 : decode cX7_pull 16 = .ok (.invokevirtual 215, 3) := by decide +kernel
theorem dX7_pull_19 : decode cX7_pull 19 = .ok (.lmul, 1) := by decide +kernel
theorem dX7_pull_20 : decode cX7_pull 20 = .ok (.ldc2_w 44, 3) := by decide +kernel
theorem dX7_pull_23 : decode cX7_pull 23 = .ok (.ldiv, 1) := by decide +kernel
theorem dX7_pull_24 : decode cX7_pull 24 = .ok (.goto 4, 3) := by decide +kernel
theorem dX7_pull_27 : decode cX7_pull 27 = .ok (.lconst 0, 1) := by decide +kernel
theorem dX7_pull_28 : decode cX7_pull 28 = .ok (.lreturn, 1) := by decide +kernel
theorem dX7_patternNow_0 : decode cX7_patternNow 0 = .ok (.iconst 0, 1) := by decide +kernel
theorem dX7_patternNow_1 : decode cX7_patternNow 1 = .ok (.istore_n 1, 1) := by decide +kernel
theorem dX7_patternNow_2 : decode cX7_patternNow 2 = .ok (.aload_n 0, 1) := by decide +kernel
theorem dX7_patternNow_3 : decode cX7_patternNow 3 = .ok (.invokevirtual 199, 3) := by decide +kernel
theorem dX7_patternNow_6 : decode cX7_patternNow 6 = .ok (.iconst 1, 1) := by decide +kernel
theorem dX7_patternNow_7 : decode cX7_patternNow 7 = .ok (.isub, 1) := by decide +kernel
theorem dX7_patternNow_8 : decode cX7_patternNow 8 = .ok (.istore_n 2, 1) := by decide +kernel
theorem dX7_patternNow_9 : decode cX7_patternNow 9 = .ok (.iload_n 2, 1) := by decide +kernel
theorem dX7_patternNow_10 : decode cX7_patternNow 10 = .ok (.ifCond .lt 45, 3) := by decide +kernel
theorem dX7_patternNow_13 : decode cX7_patternNow 13 = .ok (.iconst 3, 1) := by decide +kernel
theorem dX7_patternNow_14 : decode cX7_patternNow 14 = .ok (.iload_n 1, 1) := by decide +kernel
theorem dX7_patternNow_15 : decode cX7_patternNow 15 = .ok (.imul, 1) := by decide +kernel
theorem dX7_patternNow_16 : decode cX7_patternNow 16 = .ok (.aload_n 0, 1) := by decide +kernel
theorem dX7_patternNow_17 : decode cX7_patternNow 17 = .ok (.iload_n 2, 1) := by decide +kernel
theorem dX7_patternNow_18 : decode cX7_patternNow 18 = .ok (.iconst 1, 1) := by decide +kernel
theorem dX7_patternNow_19 : decode cX7_patternNow 19 = .ok (.invokevirtual 201, 3) := by decide +kernel
theorem dX7_patternNow_22 : decode cX7_patternNow 22 = .ok (.lconst 0, 1) := by decide +kernel
theorem dX7_patternNow_23 : decode cX7_patternNow 23 = .ok (.lcmp, 1) := by decide +kernel
theorem dX7_patternNow_24 : decode cX7_patternNow 24 = .ok (.ifCond .ne 7, 3) := by decide +kernel
theorem dX7_patternNow_27 : decode cX7_patternNow 27 = .ok (.iconst 0, 1) := by decide +kernel
theorem dX7_patternNow_28 : decode cX7_patternNow 28 = .ok (.goto 19, 3) := by decide +kernel
theorem dX7_patternNow_31 : decode cX7_patternNow 31 = .ok (.aload_n 0, 1) := by decide +kernel
theorem dX7_patternNow_32 : decode cX7_patternNow 32 = .ok (.iload_n 2, 1) := by decide +kernel
theorem dX7_patternNow_33 : decode cX7_patternNow 33 = .ok (.iconst 1, 1) := by decide +kernel
theorem dX7_patternNow_34 : decode cX7_patternNow 34 = .ok (.invokevirtual 201, 3) := by decide +kernel
theorem dX7_patternNow_37 : decode cX7_patternNow 37 = .ok (.lconst 0, 1) := by decide +kernel
theorem dX7_patternNow_38 : decode cX7_patternNow 38 = .ok (.lcmp, 1) := by decide +kernel
theorem dX7_patternNow_39 : decode cX7_patternNow 39 = .ok (.ifCond .le 7, 3) := by decide +kernel
theorem dX7_patternNow_42 : decode cX7_patternNow 42 = .ok (.iconst 1, 1) := by decide +kernel
theorem dX7_patternNow_43 : decode cX7_patternNow 43 = .ok (.goto 4, 3) := by decide +kernel
theorem dX7_patternNow_46 : decode cX7_patternNow 46 = .ok (.iconst 2, 1) := by decide +kernel
theorem dX7_patternNow_47 : decode cX7_patternNow 47 = .ok (.iadd, 1) := by decide +kernel
theorem dX7_patternNow_48 : decode cX7_patternNow 48 = .ok (.istore_n 1, 1) := by decide +kernel
theorem dX7_patternNow_49 : decode cX7_patternNow 49 = .ok (.iinc 2 (-1), 3) := by decide +kernel
theorem dX7_patternNow_52 : decode cX7_patternNow 52 = .ok (.goto (-43), 3) := by decide +kernel
theorem dX7_patternNow_55 : decode cX7_patternNow 55 = .ok (.iload_n 1, 1) := by decide +kernel
theorem dX7_patternNow_56 : decode cX7_patternNow 56 = .ok (.ireturn, 1) := by decide +kernel
theorem dX7_nodes_0 : decode cX7_nodes 0 = .ok (.iconst 0, 1) := by decide +kernel
theorem dX7_nodes_1 : decode cX7_nodes 1 = .ok (.istore_n 1, 1) := by decide +kernel
theorem dX7_nodes_2 : decode cX7_nodes 2 = .ok (.iconst 0, 1) := by decide +kernel
theorem dX7_nodes_3 : decode cX7_nodes 3 = .ok (.istore_n 2, 1) := by decide +kernel
theorem dX7_nodes_4 : decode cX7_nodes 4 = .ok (.iconst 0, 1) := by decide +kernel
theorem dX7_nodes_5 : decode cX7_nodes 5 = .ok (.istore_n 3, 1) := by decide +kernel
theorem dX7_nodes_6 : decode cX7_nodes 6 = .ok (.iload_n 3, 1) := by decide +kernel
theorem dX7_nodes_7 : decode cX7_nodes 7 = .ok (.aload_n 0, 1) := by decide +kernel
theorem dX7_nodes_8 : decode cX7_nodes 8 = .ok (.invokevirtual 199, 3) := by decide +kernel
theorem dX7_nodes_11 : decode cX7_nodes 11 = .ok (.if_icmp .ge 69, 3) := by decide +kernel
theorem dX7_nodes_14 : decode cX7_nodes 14 = .ok (.aload_n 0, 1) := by decide +kernel
theorem dX7_nodes_15 : decode cX7_nodes 15 = .ok (.iload_n 3, 1) := by decide +kernel
theorem dX7_nodes_16 : decode cX7_nodes 16 = .ok (.iconst 1, 1) := by decide +kernel
theorem dX7_nodes_17 : decode cX7_nodes 17 = .ok (.invokevirtual 201, 3) := by decide +kernel
theorem dX7_nodes_20 : decode cX7_nodes 20 = .ok (.lconst 0, 1) := by decide +kernel
theorem dX7_nodes_21 : decode cX7_nodes 21 = .ok (.lcmp, 1) := by decide +kernel
theorem dX7_nodes_22 : decode cX7_nodes 22 = .ok (.ifCond .le 7, 3) := by decide +kernel
theorem dX7_nodes_25 : decode cX7_nodes 25 = .ok (.iconst 1, 1) := by decide +kernel
theorem dX7_nodes_26 : decode cX7_nodes 26 = .ok (.goto 19, 3) := by decide +kernel
theorem dX7_nodes_29 : decode cX7_nodes 29 = .ok (.aload_n 0, 1) := by decide +kernel
theorem dX7_nodes_30 : decode cX7_nodes 30 = .ok (.iload_n 3, 1) := by decide +kernel
theorem dX7_nodes_31 : decode cX7_nodes 31 = .ok (.iconst 1, 1) := by decide +kernel
theorem dX7_nodes_32 : decode cX7_nodes 32 = .ok (.invokevirtual 201, 3) := by decide +kernel
theorem dX7_nodes_35 : decode cX7_nodes 35 = .ok (.lconst 0, 1) := by decide +kernel
theorem dX7_nodes_36 : decode cX7_nodes 36 = .ok (.lcmp, 1) := by decide +kernel
theorem dX7_nodes_37 : decode cX7_nodes 37 = .ok (.ifCond .ge 7, 3) := by decide +kernel
theorem dX7_nodes_40 : decode cX7_nodes 40 = .ok (.iconst (-1), 1) := by decide +kernel
theorem dX7_nodes_41 : decode cX7_nodes 41 = .ok (.goto 4, 3) := by decide +kernel
theorem dX7_nodes_44 : decode cX7_nodes 44 = .ok (.iconst 0, 1) := by decide +kernel
theorem dX7_nodes_45 : decode cX7_nodes 45 = .ok (.istore 4, 2) := by decide +kernel
theorem dX7_nodes_47 : decode cX7_nodes 47 = .ok (.iload_n 1, 1) := by decide +kernel
theorem dX7_nodes_48 : decode cX7_nodes 48 = .ok (.iload_n 2, 1) := by decide +kernel
theorem dX7_nodes_49 : decode cX7_nodes 49 = .ok (.iload 4, 2) := by decide +kernel
theorem dX7_nodes_51 : decode cX7_nodes 51 = .ok (.imul, 1) := by decide +kernel
theorem dX7_nodes_52 : decode cX7_nodes 52 = .ok (.ifCond .ge 7, 3) := by decide +kernel
theorem dX7_nodes_55 : decode cX7_nodes 55 = .ok (.iconst 1, 1) := by decide +kernel
theorem dX7_nodes_56 : decode cX7_nodes 56 = .ok (.goto 4, 3) := by decide +kernel
theorem dX7_nodes_59 : decode cX7_nodes 59 = .ok (.iconst 0, 1) := by decide +kernel
theorem dX7_nodes_60 : decode cX7_nodes 60 = .ok (.iadd, 1) := by decide +kernel
theorem dX7_nodes_61 : decode cX7_nodes 61 = .ok (.istore_n 1, 1) := by decide +kernel
theorem dX7_nodes_62 : decode cX7_nodes 62 = .ok (.iload 4, 2) := by decide +kernel
theorem dX7_nodes_64 : decode cX7_nodes 64 = .ok (.ifCond .ne 7, 3) := by decide +kernel
theorem dX7_nodes_67 : decode cX7_nodes 67 = .ok (.iload_n 2, 1) := by decide +kernel
theorem dX7_nodes_68 : decode cX7_nodes 68 = .ok (.goto 5, 3) := by decide +kernel
theorem dX7_nodes_71 : decode cX7_nodes 71 = .ok (.iload 4, 2) := by decide +kernel
theorem dX7_nodes_73 : decode cX7_nodes 73 = .ok (.istore_n 2, 1) := by decide +kernel
theorem dX7_nodes_74 : decode cX7_nodes 74 = .ok (.iinc 3 1, 3) := by decide +kernel
theorem dX7_nodes_77 : decode cX7_nodes 77 = .ok (.goto (-71), 3) := by decide +kernel
theorem dX7_nodes_80 : decode cX7_nodes 80 = .ok (.iload_n 1, 1) := by decide +kernel
theorem dX7_nodes_81 : decode cX7_nodes 81 = .ok (.ireturn, 1) := by decide +kernel
theorem dX7_note_0 : decode cX7_note 0 = .ok (.aload_n 0, 1) := by decide +kernel
theorem dX7_note_1 : decode cX7_note 1 = .ok (.invokevirtual 218, 3) := by decide +kernel
theorem dX7_note_4 : decode cX7_note 4 = .ok (.istore_n 1, 1) := by decide +kernel
theorem dX7_note_5 : decode cX7_note 5 = .ok (.aload_n 0, 1) := by decide +kernel
theorem dX7_note_6 : decode cX7_note 6 = .ok (.getfield 17, 3) := by decide +kernel
theorem dX7_note_9 : decode cX7_note 9 = .ok (.bipush 6, 2) := by decide +kernel
theorem dX7_note_11 : decode cX7_note 11 = .ok (.laload, 1) := by decide +kernel
theorem dX7_note_12 : decode cX7_note 12 = .ok (.l2i, 1) := by decide +kernel
theorem dX7_note_13 : decode cX7_note 13 = .ok (.istore_n 2, 1) := by decide +kernel
theorem dX7_note_14 : decode cX7_note 14 = .ok (.iconst 0, 1) := by decide +kernel
theorem dX7_note_15 : decode cX7_note 15 = .ok (.istore_n 3, 1) := by decide +kernel
theorem dX7_note_16 : decode cX7_note 16 = .ok (.iload_n 3, 1) := by decide +kernel
theorem dX7_note_17 : decode cX7_note 17 = .ok (.iload_n 2, 1) := by decide +kernel
theorem dX7_note_18 : decode cX7_note 18 = .ok (.if_icmp .ge 27, 3) := by decide +kernel
theorem dX7_note_21 : decode cX7_note 21 = .ok (.aload_n 0, 1) := by decide +kernel
theorem dX7_note_22 : decode cX7_note 22 = .ok (.getfield 17, 3) := by decide +kernel
theorem dX7_note_25 : decode cX7_note 25 = .ok (.sipush 135, 3) := by decide +kernel
theorem dX7_note_28 : decode cX7_note 28 = .ok (.iconst 2, 1) := by decide +kernel
theorem dX7_note_29 : decode cX7_note 29 = .ok (.iload_n 3, 1) := by decide +kernel
theorem dX7_note_30 : decode cX7_note 30 = .ok (.imul, 1) := by decide +kernel
theorem dX7_note_31 : decode cX7_note 31 = .ok (.iadd, 1) := by decide +kernel
theorem dX7_note_32 : decode cX7_note 32 = .ok (.laload, 1) := by decide +kernel
theorem dX7_note_33 : decode cX7_note 33 = .ok (.iload_n 1, 1) := by decide +kernel
theorem dX7_note_34 : decode cX7_note 34 = .ok (.i2l, 1) := by decide +kernel
theorem dX7_note_35 : decode cX7_note 35 = .ok (.lcmp, 1) := by decide +kernel
theorem dX7_note_36 : decode cX7_note 36 = .ok (.ifCond .eq 9, 3) := by decide +kernel
theorem dX7_note_39 : decode cX7_note 39 = .ok (.iinc 3 1, 3) := by decide +kernel
theorem dX7_note_42 : decode cX7_note 42 = .ok (.goto (-26), 3) := by decide +kernel
theorem dX7_note_45 : decode cX7_note 45 = .ok (.iload_n 3, 1) := by decide +kernel
theorem dX7_note_46 : decode cX7_note 46 = .ok (.bipush 32, 2) := by decide +kernel
theorem dX7_note_48 : decode cX7_note 48 = .ok (.if_icmp .ne 4, 3) := by decide +kernel
theorem dX7_note_51 : decode cX7_note 51 = .ok (.return_, 1) := by decide +kernel
theorem dX7_note_52 : decode cX7_note 52 = .ok (.iload_n 3, 1) := by decide +kernel
theorem dX7_note_53 : decode cX7_note 53 = .ok (.iload_n 2, 1) := by decide +kernel
theorem dX7_note_54 : decode cX7_note 54 = .ok (.if_icmp .ne 43, 3) := by decide +kernel
theorem dX7_note_57 : decode cX7_note 57 = .ok (.aload_n 0, 1) := by decide +kernel
theorem dX7_note_58 : decode cX7_note 58 = .ok (.getfield 17, 3) := by decide +kernel
theorem dX7_note_61 : decode cX7_note 61 = .ok (.sipush 135, 3) := by decide +kernel
theorem dX7_note_64 : decode cX7_note 64 = .ok (.iconst 2, 1) := by decide +kernel
theorem dX7_note_65 : decode cX7_note 65 = .ok (.iload_n 3, 1) := by decide +kernel
theorem dX7_note_66 : decode cX7_note 66 = .ok (.imul, 1) := by decide +kernel
theorem dX7_note_67 : decode cX7_note 67 = .ok (.iadd, 1) := by decide +kernel
theorem dX7_note_68 : decode cX7_note 68 = .ok (.iload_n 1, 1) := by decide +kernel
theorem dX7_note_69 : decode cX7_note 69 = .ok (.i2l, 1) := by decide +kernel
theorem dX7_note_70 : decode cX7_note 70 = .ok (.lastore, 1) := by decide +kernel
theorem dX7_note_71 : decode cX7_note 71 = .ok (.aload_n 0, 1) := by decide +kernel
theorem dX7_note_72 : decode cX7_note 72 = .ok (.getfield 17, 3) := by decide +kernel
theorem dX7_note_75 : decode cX7_note 75 = .ok (.sipush 135, 3) := by decide +kernel
theorem dX7_note_78 : decode cX7_note 78 = .ok (.iconst 2, 1) := by decide +kernel
theorem dX7_note_79 : decode cX7_note 79 = .ok (.iload_n 3, 1) := by decide +kernel
theorem dX7_note_80 : decode cX7_note 80 = .ok (.imul, 1) := by decide +kernel
theorem dX7_note_81 : decode cX7_note 81 = .ok (.iadd, 1) := by decide +kernel
theorem dX7_note_82 : decode cX7_note 82 = .ok (.iconst 1, 1) := by decide +kernel
theorem dX7_note_83 : decode cX7_note 83 = .ok (.iadd, 1) := by decide +kernel
theorem dX7_note_84 : decode cX7_note 84 = .ok (.lconst 0, 1) := by decide +kernel
theorem dX7_note_85 : decode cX7_note 85 = .ok (.lastore, 1) := by decide +kernel
theorem dX7_note_86 : decode cX7_note 86 = .ok (.aload_n 0, 1) := by decide +kernel
theorem dX7_note_87 : decode cX7_note 87 = .ok (.getfield 17, 3) := by decide +kernel
theorem dX7_note_90 : decode cX7_note 90 = .ok (.bipush 6, 2) := by decide +kernel
theorem dX7_note_92 : decode cX7_note 92 = .ok (.dup2, 1) := by decide +kernel
theorem dX7_note_93 : decode cX7_note 93 = .ok (.laload, 1) := by decide +kernel
theorem dX7_note_94 : decode cX7_note 94 = .ok (.lconst 1, 1) := by decide +kernel
theorem dX7_note_95 : decode cX7_note 95 = .ok (.ladd, 1) := by decide +kernel
theorem dX7_note_96 : decode cX7_note 96 = .ok (.lastore, 1) := by decide +kernel
theorem dX7_note_97 : decode cX7_note 97 = .ok (.aload_n 0, 1) := by decide +kernel
theorem dX7_note_98 : decode cX7_note 98 = .ok (.getfield 17, 3) := by decide +kernel
theorem dX7_note_101 : decode cX7_note 101 = .ok (.sipush 135, 3) := by decide +kernel
theorem dX7_note_104 : decode cX7_note 104 = .ok (.iconst 2, 1) := by decide +kernel
theorem dX7_note_105 : decode cX7_note 105 = .ok (.iload_n 3, 1) := by decide +kernel
theorem dX7_note_106 : decode cX7_note 106 = .ok (.imul, 1) := by decide +kernel
theorem dX7_note_107 : decode cX7_note 107 = .ok (.iadd, 1) := by decide +kernel
theorem dX7_note_108 : decode cX7_note 108 = .ok (.iconst 1, 1) := by decide +kernel
theorem dX7_note_109 : decode cX7_note 109 = .ok (.iadd, 1) := by decide +kernel
theorem dX7_note_110 : decode cX7_note 110 = .ok (.dup2, 1) := by decide +kernel
theorem dX7_note_111 : decode cX7_note 111 = .ok (.laload, 1) := by decide +kernel
theorem dX7_note_112 : decode cX7_note 112 = .ok (.lconst 1, 1) := by decide +kernel
theorem dX7_note_113 : decode cX7_note 113 = .ok (.ladd, 1) := by decide +kernel
theorem dX7_note_114 : decode cX7_note 114 = .ok (.lastore, 1) := by decide +kernel
theorem dX7_note_115 : decode cX7_note 115 = .ok (.return_, 1) := by decide +kernel
theorem dX7_push_0 : decode cX7_push 0 = .ok (.iconst 0, 1) := by decide +kernel
theorem dX7_push_1 : decode cX7_push 1 = .ok (.istore_n 1, 1) := by decide +kernel
theorem dX7_push_2 : decode cX7_push 2 = .ok (.iconst 0, 1) := by decide +kernel
theorem dX7_push_3 : decode cX7_push 3 = .ok (.istore_n 2, 1) := by decide +kernel
theorem dX7_push_4 : decode cX7_push 4 = .ok (.iload_n 2, 1) := by decide +kernel
theorem dX7_push_5 : decode cX7_push 5 = .ok (.aload_n 0, 1) := by decide +kernel
theorem dX7_push_6 : decode cX7_push 6 = .ok (.getfield 17, 3) := by decide +kernel
theorem dX7_push_9 : decode cX7_push 9 = .ok (.iconst 5, 1) := by decide +kernel
theorem dX7_push_10 : decode cX7_push 10 = .ok (.laload, 1) := by decide +kernel
theorem dX7_push_11 : decode cX7_push 11 = .ok (.l2i, 1) := by decide +kernel
theorem dX7_push_12 : decode cX7_push 12 = .ok (.if_icmp .ge 135, 3) := by decide +kernel
theorem dX7_push_15 : decode cX7_push 15 = .ok (.bipush 87, 2) := by decide +kernel
theorem dX7_push_17 : decode cX7_push 17 = .ok (.iconst 3, 1) := by decide +kernel
theorem dX7_push_18 : decode cX7_push 18 = .ok (.iload_n 2, 1) := by decide +kernel
theorem dX7_push_19 : decode cX7_push 19 = .ok (.imul, 1) := by decide +kernel
theorem dX7_push_20 : decode cX7_push 20 = .ok (.iadd, 1) := by decide +kernel
theorem dX7_push_21 : decode cX7_push 21 = .ok (.istore_n 3, 1) := by decide +kernel
theorem dX7_push_22 : decode cX7_push 22 = .ok (.bipush 87, 2) := by decide +kernel
theorem dX7_push_24 : decode cX7_push 24 = .ok (.iconst 3, 1) := by decide +kernel
theorem dX7_push_25 : decode cX7_push 25 = .ok (.iload_n 1, 1) := by decide +kernel
theorem dX7_push_26 : decode cX7_push 26 = .ok (.imul, 1) := by decide +kernel
theorem dX7_push_27 : decode cX7_push 27 = .ok (.iadd, 1) := by decide +kernel
theorem dX7_push_28 : decode cX7_push 28 = .ok (.istore 4, 2) := by decide +kernel
theorem dX7_push_30 : decode cX7_push 30 = .ok (.aload_n 0, 1) := by decide +kernel
theorem dX7_push_31 : decode cX7_push 31 = .ok (.getfield 17, 3) := by decide +kernel
theorem dX7_push_34 : decode cX7_push 34 = .ok (.iload_n 3, 1) := by decide +kernel
theorem dX7_push_35 : decode cX7_push 35 = .ok (.laload, 1) := by decide +kernel
theorem dX7_push_36 : decode cX7_push 36 = .ok (.aload_n 0, 1) := by decide +kernel
theorem dX7_push_37 : decode cX7_push 37 = .ok (.getfield 17, 3) := by decide +kernel
theorem dX7_push_40 : decode cX7_push 40 = .ok (.iconst 0, 1) := by decide +kernel
theorem dX7_push_41 : decode cX7_push 41 = .ok (.laload, 1) := by decide +kernel
theorem dX7_push_42 : decode cX7_push 42 = .ok (.lcmp, 1) := by decide +kernel
theorem dX7_push_43 : decode cX7_push 43 = .ok (.ifCond .ne 61, 3) := by decide +kernel
theorem dX7_push_46 : decode cX7_push 46 = .ok (.aload_n 0, 1) := by decide +kernel
theorem dX7_push_47 : decode cX7_push 47 = .ok (.aload_n 0, 1) := by decide +kernel
theorem dX7_push_48 : decode cX7_push 48 = .ok (.getfield 17, 3) := by decide +kernel
theorem dX7_push_51 : decode cX7_push 51 = .ok (.iload_n 3, 1) := by decide +kernel
theorem dX7_push_52 : decode cX7_push 52 = .ok (.iconst 1, 1) := by decide +kernel
theorem dX7_push_53 : decode cX7_push 53 = .ok (.iadd, 1) := by decide +kernel
theorem dX7_push_54 : decode cX7_push 54 = .ok (.laload, 1) := by decide +kernel
theorem dX7_push_55 : decode cX7_push 55 = .ok (.l2i, 1) := by decide +kernel
theorem dX7_push_56 : decode cX7_push 56 = .ok (.iconst 2, 1) := by decide +kernel
theorem dX7_push_57 : decode cX7_push 57 = .ok (.aload_n 0, 1) := by decide +kernel
theorem dX7_push_58 : decode cX7_push 58 = .ok (.aload_n 0, 1) := by decide +kernel
theorem dX7_push_59 : decode cX7_push 59 = .ok (.getfield 17, 3) := by decide +kernel
theorem dX7_push_62 : decode cX7_push 62 = .ok (.iload_n 3, 1) := by decide +kernel
theorem dX7_push_63 : decode cX7_push 63 = .ok (.iconst 1, 1) := by decide +kernel
theorem dX7_push_64 : decode cX7_push 64 = .ok (.iadd, 1) := by decide +kernel
theorem dX7_push_65 : decode cX7_push 65 = .ok (.laload, 1) := by decide +kernel
theorem dX7_push_66 : decode cX7_push 66 = .ok (.l2i, 1) := by decide +kernel
theorem dX7_push_67 : decode cX7_push 67 = .ok (.iconst 2, 1) := by decide +kernel
theorem dX7_push_68 : decode cX7_push 68 = .ok (.invokevirtual 201, 3) := by decide +kernel
theorem dX7_push_71 : decode cX7_push 71 = .ok (.aload_n 0, 1) := by decide +kernel
theorem dX7_push_72 : decode cX7_push 72 = .ok (.getfield 17, 3) := by decide +kernel
theorem dX7_push_75 : decode cX7_push 75 = .ok (.iload_n 3, 1) := by decide +kernel
theorem dX7_push_76 : decode cX7_push 76 = .ok (.iconst 2, 1) := by decide +kernel
theorem dX7_push_77 : decode cX7_push 77 = .ok (.iadd, 1) := by decide +kernel
theorem dX7_push_78 : decode cX7_push 78 = .ok (.laload, 1) := by decide +kernel
theorem dX7_push_79 : decode cX7_push 79 = .ok (.ladd, 1) := by decide +kernel
theorem dX7_push_80 : decode cX7_push 80 = .ok (.invokevirtual 221, 3) := by decide +kernel
theorem dX7_push_83 : decode cX7_push 83 = .ok (.aload_n 0, 1) := by decide +kernel
theorem dX7_push_84 : decode cX7_push 84 = .ok (.getfield 17, 3) := by decide +kernel
theorem dX7_push_87 : decode cX7_push 87 = .ok (.bipush 9, 2) := by decide +kernel
theorem dX7_push_89 : decode cX7_push 89 = .ok (.dup2, 1) := by decide +kernel
theorem dX7_push_90 : decode cX7_push 90 = .ok (.laload, 1) := by decide +kernel
theorem dX7_push_91 : decode cX7_push 91 = .ok (.aload_n 0, 1) := by decide +kernel
theorem dX7_push_92 : decode cX7_push 92 = .ok (.getfield 17, 3) := by decide +kernel
theorem dX7_push_95 : decode cX7_push 95 = .ok (.iload_n 3, 1) := by decide +kernel
theorem dX7_push_96 : decode cX7_push 96 = .ok (.iconst 2, 1) := by decide +kernel
theorem dX7_push_97 : decode cX7_push 97 = .ok (.iadd, 1) := by decide +kernel
theorem dX7_push_98 : decode cX7_push 98 = .ok (.laload, 1) := by decide +kernel
theorem dX7_push_99 : decode cX7_push 99 = .ok (.ladd, 1) := by decide +kernel
theorem dX7_push_100 : decode cX7_push 100 = .ok (.lastore, 1) := by decide +kernel
theorem dX7_push_101 : decode cX7_push 101 = .ok (.goto 40, 3) := by decide +kernel
theorem dX7_push_104 : decode cX7_push 104 = .ok (.iconst 0, 1) := by decide +kernel
theorem dX7_push_105 : decode cX7_push 105 = .ok (.istore 5, 2) := by decide +kernel
theorem dX7_push_107 : decode cX7_push 107 = .ok (.iload 5, 2) := by decide +kernel
theorem dX7_push_109 : decode cX7_push 109 = .ok (.iconst 3, 1) := by decide +kernel
theorem dX7_push_110 : decode cX7_push 110 = .ok (.if_icmp .ge 28, 3) := by decide +kernel
theorem dX7_push_113 : decode cX7_push 113 = .ok (.aload_n 0, 1) := by decide +kernel
theorem dX7_push_114 : decode cX7_push 114 = .ok (.getfield 17, 3) := by decide +kernel
theorem dX7_push_117 : decode cX7_push 117 = .ok (.iload 4, 2) := by decide +kernel
theorem dX7_push_119 : decode cX7_push 119 = .ok (.iload 5, 2) := by decide +kernel
theorem dX7_push_121 : decode cX7_push 121 = .ok (.iadd, 1) := by decide +kernel
theorem dX7_push_122 : decode cX7_push 122 = .ok (.aload_n 0, 1) := by decide +kernel
theorem dX7_push_123 : decode cX7_push 123 = .ok (.getfield 17, 3) := by decide +kernel
theorem dX7_push_126 : decode cX7_push 126 = .ok (.iload_n 3, 1) := by decide +kernel
theorem dX7_push_127 : decode cX7_push 127 = .ok (.iload 5, 2) := by decide +kernel
theorem dX7_push_129 : decode cX7_push 129 = .ok (.iadd, 1) := by decide +kernel
theorem dX7_push_130 : decode cX7_push 130 = .ok (.laload, 1) := by decide +kernel
theorem dX7_push_131 : decode cX7_push 131 = .ok (.lastore, 1) := by decide +kernel
theorem dX7_push_132 : decode cX7_push 132 = .ok (.iinc 5 1, 3) := by decide +kernel
theorem dX7_push_135 : decode cX7_push 135 = .ok (.goto (-28), 3) := by decide +kernel
theorem dX7_push_138 : decode cX7_push 138 = .ok (.iinc 1 1, 3) := by decide +kernel
theorem dX7_push_141 : decode cX7_push 141 = .ok (.iinc 2 1, 3) := by decide +kernel
theorem dX7_push_144 : decode cX7_push 144 = .ok (.goto (-140), 3) := by decide +kernel
theorem dX7_push_147 : decode cX7_push 147 = .ok (.bipush 87, 2) := by decide +kernel
theorem dX7_push_149 : decode cX7_push 149 = .ok (.iconst 3, 1) := by decide +kernel
theorem dX7_push_150 : decode cX7_push 150 = .ok (.iload_n 1, 1) := by decide +kernel
theorem dX7_push_151 : decode cX7_push 151 = .ok (.imul, 1) := by decide +kernel
theorem dX7_push_152 : decode cX7_push 152 = .ok (.iadd, 1) := by decide +kernel
theorem dX7_push_153 : decode cX7_push 153 = .ok (.istore_n 2, 1) := by decide +kernel
theorem dX7_push_154 : decode cX7_push 154 = .ok (.iload_n 2, 1) := by decide +kernel
theorem dX7_push_155 : decode cX7_push 155 = .ok (.bipush 87, 2) := by decide +kernel
theorem dX7_push_157 : decode cX7_push 157 = .ok (.iconst 3, 1) := by decide +kernel
theorem dX7_push_158 : decode cX7_push 158 = .ok (.aload_n 0, 1) := by decide +kernel
theorem dX7_push_159 : decode cX7_push 159 = .ok (.getfield 17, 3) := by decide +kernel
theorem dX7_push_162 : decode cX7_push 162 = .ok (.iconst 5, 1) := by decide +kernel
theorem dX7_push_163 : decode cX7_push 163 = .ok (.laload, 1) := by decide +kernel
theorem dX7_push_164 : decode cX7_push 164 = .ok (.l2i, 1) := by decide +kernel
theorem dX7_push_165 : decode cX7_push 165 = .ok (.imul, 1) := by decide +kernel
theorem dX7_push_166 : decode cX7_push 166 = .ok (.iadd, 1) := by decide +kernel
theorem dX7_push_167 : decode cX7_push 167 = .ok (.if_icmp .ge 16, 3) := by decide +kernel
theorem dX7_push_170 : decode cX7_push 170 = .ok (.aload_n 0, 1) := by decide +kernel
theorem dX7_push_171 : decode cX7_push 171 = .ok (.getfield 17, 3) := by decide +kernel
theorem dX7_push_174 : decode cX7_push 174 = .ok (.iload_n 2, 1) := by decide +kernel
theorem dX7_push_175 : decode cX7_push 175 = .ok (.lconst 0, 1) := by decide +kernel
theorem dX7_push_176 : decode cX7_push 176 = .ok (.lastore, 1) := by decide +kernel
theorem dX7_push_177 : decode cX7_push 177 = .ok (.iinc 2 1, 3) := by decide +kernel
theorem dX7_push_180 : decode cX7_push 180 = .ok (.goto (-26), 3) := by decide +kernel
theorem dX7_push_183 : decode cX7_push 183 = .ok (.aload_n 0, 1) := by decide +kernel
theorem dX7_push_184 : decode cX7_push 184 = .ok (.getfield 17, 3) := by decide +kernel
theorem dX7_push_187 : decode cX7_push 187 = .ok (.iconst 5, 1) := by decide +kernel
theorem dX7_push_188 : decode cX7_push 188 = .ok (.iload_n 1, 1) := by decide +kernel
theorem dX7_push_189 : decode cX7_push 189 = .ok (.i2l, 1) := by decide +kernel
theorem dX7_push_190 : decode cX7_push 190 = .ok (.lastore, 1) := by decide +kernel
theorem dX7_push_191 : decode cX7_push 191 = .ok (.return_, 1) := by decide +kernel
theorem dX7_tick_0 : decode cX7_tick 0 = .ok (.aload_n 0, 1) := by decide +kernel
theorem dX7_tick_1 : decode cX7_tick 1 = .ok (.invokevirtual 199, 3) := by decide +kernel
theorem dX7_tick_4 : decode cX7_tick 4 = .ok (.istore_n 1, 1) := by decide +kernel
theorem dX7_tick_5 : decode cX7_tick 5 = .ok (.iconst 0, 1) := by decide +kernel
theorem dX7_tick_6 : decode cX7_tick 6 = .ok (.istore_n 2, 1) := by decide +kernel
theorem dX7_tick_7 : decode cX7_tick 7 = .ok (.iconst 0, 1) := by decide +kernel
theorem dX7_tick_8 : decode cX7_tick 8 = .ok (.istore_n 3, 1) := by decide +kernel
theorem dX7_tick_9 : decode cX7_tick 9 = .ok (.iload_n 3, 1) := by decide +kernel
theorem dX7_tick_10 : decode cX7_tick 10 = .ok (.iload_n 1, 1) := by decide +kernel
theorem dX7_tick_11 : decode cX7_tick 11 = .ok (.if_icmp .gt 20, 3) := by decide +kernel
theorem dX7_tick_14 : decode cX7_tick 14 = .ok (.aload_n 0, 1) := by decide +kernel
theorem dX7_tick_15 : decode cX7_tick 15 = .ok (.getfield 32, 3) := by decide +kernel
theorem dX7_tick_18 : decode cX7_tick 18 = .ok (.iload_n 3, 1) := by decide +kernel
theorem dX7_tick_19 : decode cX7_tick 19 = .ok (.aload_n 0, 1) := by decide +kernel
theorem dX7_tick_20 : decode cX7_tick 20 = .ok (.iload_n 3, 1) := by decide +kernel
theorem dX7_tick_21 : decode cX7_tick 21 = .ok (.invokevirtual 225, 3) := by decide +kernel
theorem dX7_tick_24 : decode cX7_tick 24 = .ok (.lastore, 1) := by decide +kernel
theorem dX7_tick_25 : decode cX7_tick 25 = .ok (.iinc 3 1, 3) := by decide +kernel
theorem dX7_tick_28 : decode cX7_tick 28 = .ok (.goto (-19), 3) := by decide +kernel
theorem dX7_tick_31 : decode cX7_tick 31 = .ok (.iconst 0, 1) := by decide +kernel
theorem dX7_tick_32 : decode cX7_tick 32 = .ok (.istore_n 3, 1) := by decide +kernel
theorem dX7_tick_33 : decode cX7_tick 33 = .ok (.iload_n 3, 1) := by decide +kernel
theorem dX7_tick_34 : decode cX7_tick 34 = .ok (.iload_n 1, 1) := by decide +kernel
theorem dX7_tick_35 : decode cX7_tick 35 = .ok (.if_icmp .ge 37, 3) := by decide +kernel
theorem dX7_tick_38 : decode cX7_tick 38 = .ok (.aload_n 0, 1) := by decide +kernel
theorem dX7_tick_39 : decode cX7_tick 39 = .ok (.iload_n 3, 1) := by decide +kernel
theorem dX7_tick_40 : decode cX7_tick 40 = .ok (.iconst 2, 1) := by decide +kernel
theorem dX7_tick_41 : decode cX7_tick 41 = .ok (.aload_n 0, 1) := by decide +kernel
theorem dX7_tick_42 : decode cX7_tick 42 = .ok (.iload_n 3, 1) := by decide +kernel
theorem dX7_tick_43 : decode cX7_tick 43 = .ok (.iconst 2, 1) := by decide +kernel
theorem dX7_tick_44 : decode cX7_tick 44 = .ok (.invokevirtual 201, 3) := by decide +kernel
theorem dX7_tick_47 : decode cX7_tick 47 = .ok (.aload_n 0, 1) := by decide +kernel
theorem dX7_tick_48 : decode cX7_tick 48 = .ok (.getfield 32, 3) := by decide +kernel
theorem dX7_tick_51 : decode cX7_tick 51 = .ok (.iload_n 3, 1) := by decide +kernel
theorem dX7_tick_52 : decode cX7_tick 52 = .ok (.iconst 1, 1) := by decide +kernel
theorem dX7_tick_53 : decode cX7_tick 53 = .ok (.iadd, 1) := by decide +kernel
theorem dX7_tick_54 : decode cX7_tick 54 = .ok (.laload, 1) := by decide +kernel
theorem dX7_tick_55 : decode cX7_tick 55 = .ok (.ladd, 1) := by decide +kernel
theorem dX7_tick_56 : decode cX7_tick 56 = .ok (.aload_n 0, 1) := by decide +kernel
theorem dX7_tick_57 : decode cX7_tick 57 = .ok (.getfield 32, 3) := by decide +kernel
theorem dX7_tick_60 : decode cX7_tick 60 = .ok (.iload_n 3, 1) := by decide +kernel
theorem dX7_tick_61 : decode cX7_tick 61 = .ok (.laload, 1) := by decide +kernel
theorem dX7_tick_62 : decode cX7_tick 62 = .ok (.lsub, 1) := by decide +kernel
theorem dX7_tick_63 : decode cX7_tick 63 = .ok (.invokevirtual 221, 3) := by decide +kernel
theorem dX7_tick_66 : decode cX7_tick 66 = .ok (.iinc 3 1, 3) := by decide +kernel
theorem dX7_tick_69 : decode cX7_tick 69 = .ok (.goto (-36), 3) := by decide +kernel
theorem dX7_tick_72 : decode cX7_tick 72 = .ok (.aload_n 0, 1) := by decide +kernel
theorem dX7_tick_73 : decode cX7_tick 73 = .ok (.getfield 17, 3) := by decide +kernel
theorem dX7_tick_76 : decode cX7_tick 76 = .ok (.bipush 7, 2) := by decide +kernel
theorem dX7_tick_78 : decode cX7_tick 78 = .ok (.dup2, 1) := by decide +kernel
theorem dX7_tick_79 : decode cX7_tick 79 = .ok (.laload, 1) := by decide +kernel
theorem dX7_tick_80 : decode cX7_tick 80 = .ok (.aload_n 0, 1) := by decide +kernel
theorem dX7_tick_81 : decode cX7_tick 81 = .ok (.getfield 32, 3) := by decide +kernel
theorem dX7_tick_84 : decode cX7_tick 84 = .ok (.iconst 0, 1) := by decide +kernel
theorem dX7_tick_85 : decode cX7_tick 85 = .ok (.laload, 1) := by decide +kernel
theorem dX7_tick_86 : decode cX7_tick 86 = .ok (.lsub, 1) := by decide +kernel
theorem dX7_tick_87 : decode cX7_tick 87 = .ok (.lastore, 1) := by decide +kernel
theorem dX7_tick_88 : decode cX7_tick 88 = .ok (.aload_n 0, 1) := by decide +kernel
theorem dX7_tick_89 : decode cX7_tick 89 = .ok (.getfield 17, 3) := by decide +kernel
theorem dX7_tick_92 : decode cX7_tick 92 = .ok (.bipush 8, 2) := by decide +kernel
theorem dX7_tick_94 : decode cX7_tick 94 = .ok (.dup2, 1) := by decide +kernel
theorem dX7_tick_95 : decode cX7_tick 95 = .ok (.laload, 1) := by decide +kernel
theorem dX7_tick_96 : decode cX7_tick 96 = .ok (.aload_n 0, 1) := by decide +kernel
theorem dX7_tick_97 : decode cX7_tick 97 = .ok (.getfield 32, 3) := by decide +kernel
theorem dX7_tick_100 : decode cX7_tick 100 = .ok (.iload_n 1, 1) := by decide +kernel
theorem dX7_tick_101 : decode cX7_tick 101 = .ok (.laload, 1) := by decide +kernel
theorem dX7_tick_102 : decode cX7_tick 102 = .ok (.ladd, 1) := by decide +kernel
theorem dX7_tick_103 : decode cX7_tick 103 = .ok (.lastore, 1) := by decide +kernel
theorem dX7_tick_104 : decode cX7_tick 104 = .ok (.aload_n 0, 1) := by decide +kernel
theorem dX7_tick_105 : decode cX7_tick 105 = .ok (.invokevirtual 228, 3) := by decide +kernel
theorem dX7_tick_108 : decode cX7_tick 108 = .ok (.iconst 0, 1) := by decide +kernel
theorem dX7_tick_109 : decode cX7_tick 109 = .ok (.istore_n 3, 1) := by decide +kernel
theorem dX7_tick_110 : decode cX7_tick 110 = .ok (.iload_n 3, 1) := by decide +kernel
theorem dX7_tick_111 : decode cX7_tick 111 = .ok (.iload_n 1, 1) := by decide +kernel
theorem dX7_tick_112 : decode cX7_tick 112 = .ok (.if_icmp .ge 84, 3) := by decide +kernel
theorem dX7_tick_115 : decode cX7_tick 115 = .ok (.aload_n 0, 1) := by decide +kernel
theorem dX7_tick_116 : decode cX7_tick 116 = .ok (.iload_n 3, 1) := by decide +kernel
theorem dX7_tick_117 : decode cX7_tick 117 = .ok (.iconst 2, 1) := by decide +kernel
theorem dX7_tick_118 : decode cX7_tick 118 = .ok (.invokevirtual 201, 3) := by decide +kernel
theorem dX7_tick_121 : decode cX7_tick 121 = .ok (.aload_n 0, 1) := by decide +kernel
theorem dX7_tick_122 : decode cX7_tick 122 = .ok (.getfield 17, 3) := by decide +kernel
theorem dX7_tick_125 : decode cX7_tick 125 = .ok (.iconst 4, 1) := by decide +kernel
theorem dX7_tick_126 : decode cX7_tick 126 = .ok (.laload, 1) := by decide +kernel
theorem dX7_tick_127 : decode cX7_tick 127 = .ok (.lmul, 1) := by decide +kernel
theorem dX7_tick_128 : decode cX7_tick 128 = .ok (.ldc2_w 231, 3) := by decide +kernel
theorem dX7_tick_131 : decode cX7_tick 131 = .ok (.ldiv, 1) := by decide +kernel
theorem dX7_tick_132 : decode cX7_tick 132 = .ok (.lstore 4, 2) := by decide +kernel
theorem dX7_tick_134 : decode cX7_tick 134 = .ok (.aload_n 0, 1) := by decide +kernel
theorem dX7_tick_135 : decode cX7_tick 135 = .ok (.iload_n 3, 1) := by decide +kernel
theorem dX7_tick_136 : decode cX7_tick 136 = .ok (.iconst 2, 1) := by decide +kernel
theorem dX7_tick_137 : decode cX7_tick 137 = .ok (.invokevirtual 201, 3) := by decide +kernel
theorem dX7_tick_140 : decode cX7_tick 140 = .ok (.lload 4, 2) := by decide +kernel
theorem dX7_tick_142 : decode cX7_tick 142 = .ok (.lsub, 1) := by decide +kernel
theorem dX7_tick_143 : decode cX7_tick 143 = .ok (.lstore 6, 2) := by decide +kernel
theorem dX7_tick_145 : decode cX7_tick 145 = .ok (.lload 6, 2) := by decide +kernel
theorem dX7_tick_147 : decode cX7_tick 147 = .ok (.ldc2_w 233, 3) := by decide +kernel
theorem dX7_tick_150 : decode cX7_tick 150 = .ok (.invokestatic 235, 3) := by decide +kernel
theorem dX7_tick_153 : decode cX7_tick 153 = .ok (.lstore 8, 2) := by decide +kernel
theorem dX7_tick_155 : decode cX7_tick 155 = .ok (.aload_n 0, 1) := by decide +kernel
theorem dX7_tick_156 : decode cX7_tick 156 = .ok (.getfield 17, 3) := by decide +kernel
theorem dX7_tick_159 : decode cX7_tick 159 = .ok (.bipush 10, 2) := by decide +kernel
theorem dX7_tick_161 : decode cX7_tick 161 = .ok (.dup2, 1) := by decide +kernel
theorem dX7_tick_162 : decode cX7_tick 162 = .ok (.laload, 1) := by decide +kernel
theorem dX7_tick_163 : decode cX7_tick 163 = .ok (.lload 4, 2) := by decide +kernel
theorem dX7_tick_165 : decode cX7_tick 165 = .ok (.ladd, 1) := by decide +kernel
theorem dX7_tick_166 : decode cX7_tick 166 = .ok (.lastore, 1) := by decide +kernel
theorem dX7_tick_167 : decode cX7_tick 167 = .ok (.aload_n 0, 1) := by decide +kernel
theorem dX7_tick_168 : decode cX7_tick 168 = .ok (.getfield 17, 3) := by decide +kernel
theorem dX7_tick_171 : decode cX7_tick 171 = .ok (.bipush 11, 2) := by decide +kernel
theorem dX7_tick_173 : decode cX7_tick 173 = .ok (.dup2, 1) := by decide +kernel
theorem dX7_tick_174 : decode cX7_tick 174 = .ok (.laload, 1) := by decide +kernel
theorem dX7_tick_175 : decode cX7_tick 175 = .ok (.lload 6, 2) := by decide +kernel
theorem dX7_tick_177 : decode cX7_tick 177 = .ok (.lload 8, 2) := by decide +kernel
theorem dX7_tick_179 : decode cX7_tick 179 = .ok (.lsub, 1) := by decide +kernel
theorem dX7_tick_180 : decode cX7_tick 180 = .ok (.ladd, 1) := by decide +kernel
theorem dX7_tick_181 : decode cX7_tick 181 = .ok (.lastore, 1) := by decide +kernel
theorem dX7_tick_182 : decode cX7_tick 182 = .ok (.aload_n 0, 1) := by decide +kernel
theorem dX7_tick_183 : decode cX7_tick 183 = .ok (.iload_n 3, 1) := by decide +kernel
theorem dX7_tick_184 : decode cX7_tick 184 = .ok (.iconst 2, 1) := by decide +kernel
theorem dX7_tick_185 : decode cX7_tick 185 = .ok (.lload 8, 2) := by decide +kernel
theorem dX7_tick_187 : decode cX7_tick 187 = .ok (.invokevirtual 221, 3) := by decide +kernel
theorem dX7_tick_190 : decode cX7_tick 190 = .ok (.iinc 3 1, 3) := by decide +kernel
theorem dX7_tick_193 : decode cX7_tick 193 = .ok (.goto (-83), 3) := by decide +kernel
theorem dX7_tick_196 : decode cX7_tick 196 = .ok (.iconst 0, 1) := by decide +kernel
theorem dX7_tick_197 : decode cX7_tick 197 = .ok (.istore_n 3, 1) := by decide +kernel
theorem dX7_tick_198 : decode cX7_tick 198 = .ok (.iload_n 3, 1) := by decide +kernel
theorem dX7_tick_199 : decode cX7_tick 199 = .ok (.iload_n 1, 1) := by decide +kernel
theorem dX7_tick_200 : decode cX7_tick 200 = .ok (.if_icmp .ge 41, 3) := by decide +kernel
theorem dX7_tick_203 : decode cX7_tick 203 = .ok (.aload_n 0, 1) := by decide +kernel
theorem dX7_tick_204 : decode cX7_tick 204 = .ok (.iload_n 3, 1) := by decide +kernel
theorem dX7_tick_205 : decode cX7_tick 205 = .ok (.iconst 1, 1) := by decide +kernel
theorem dX7_tick_206 : decode cX7_tick 206 = .ok (.aload_n 0, 1) := by decide +kernel
theorem dX7_tick_207 : decode cX7_tick 207 = .ok (.iload_n 3, 1) := by decide +kernel
theorem dX7_tick_208 : decode cX7_tick 208 = .ok (.iconst 1, 1) := by decide +kernel
theorem dX7_tick_209 : decode cX7_tick 209 = .ok (.invokevirtual 201, 3) := by decide +kernel
theorem dX7_tick_212 : decode cX7_tick 212 = .ok (.aload_n 0, 1) := by decide +kernel
theorem dX7_tick_213 : decode cX7_tick 213 = .ok (.iload_n 3, 1) := by decide +kernel
theorem dX7_tick_214 : decode cX7_tick 214 = .ok (.iconst 2, 1) := by decide +kernel
theorem dX7_tick_215 : decode cX7_tick 215 = .ok (.invokevirtual 201, 3) := by decide +kernel
theorem dX7_tick_218 : decode cX7_tick 218 = .ok (.aload_n 0, 1) := by decide +kernel
theorem dX7_tick_219 : decode cX7_tick 219 = .ok (.iload_n 3, 1) := by decide +kernel
theorem dX7_tick_220 : decode cX7_tick 220 = .ok (.iconst 0, 1) := by decide +kernel
theorem dX7_tick_221 : decode cX7_tick 221 = .ok (.invokevirtual 201, 3) := by decide +kernel
theorem dX7_tick_224 : decode cX7_tick 224 = .ok (.ldiv, 1) := by decide +kernel
theorem dX7_tick_225 : decode cX7_tick 225 = .ok (.ladd, 1) := by decide +kernel
theorem dX7_tick_226 : decode cX7_tick 226 = .ok (.ldc2_w 239, 3) := by decide +kernel
theorem dX7_tick_229 : decode cX7_tick 229 = .ok (.invokestatic 235, 3) := by decide +kernel
theorem dX7_tick_232 : decode cX7_tick 232 = .ok (.invokevirtual 221, 3) := by decide +kernel
theorem dX7_tick_235 : decode cX7_tick 235 = .ok (.iinc 3 1, 3) := by decide +kernel
theorem dX7_tick_238 : decode cX7_tick 238 = .ok (.goto (-40), 3) := by decide +kernel
theorem dX7_tick_241 : decode cX7_tick 241 = .ok (.iconst 0, 1) := by decide +kernel
theorem dX7_tick_242 : decode cX7_tick 242 = .ok (.istore_n 3, 1) := by decide +kernel
theorem dX7_tick_243 : decode cX7_tick 243 = .ok (.iload_n 3, 1) := by decide +kernel
theorem dX7_tick_244 : decode cX7_tick 244 = .ok (.iload_n 1, 1) := by decide +kernel
theorem dX7_tick_245 : decode cX7_tick 245 = .ok (.if_icmp .gt 66, 3) := by decide +kernel
theorem dX7_tick_248 : decode cX7_tick 248 = .ok (.aload_n 0, 1) := by decide +kernel
theorem dX7_tick_249 : decode cX7_tick 249 = .ok (.iload_n 3, 1) := by decide +kernel
theorem dX7_tick_250 : decode cX7_tick 250 = .ok (.invokevirtual 212, 3) := by decide +kernel
theorem dX7_tick_253 : decode cX7_tick 253 = .ok (.ifCond .eq 52, 3) := by decide +kernel
theorem dX7_tick_256 : decode cX7_tick 256 = .ok (.aload_n 0, 1) := by decide +kernel
theorem dX7_tick_257 : decode cX7_tick 257 = .ok (.iload_n 3, 1) := by decide +kernel
theorem dX7_tick_258 : decode cX7_tick 258 = .ok (.iconst 1, 1) := by decide +kernel
theorem dX7_tick_259 : decode cX7_tick 259 = .ok (.invokevirtual 209, 3) := by decide +kernel
theorem dX7_tick_262 : decode cX7_tick 262 = .ok (.lconst 0, 1) := by decide +kernel
theorem dX7_tick_263 : decode cX7_tick 263 = .ok (.lcmp, 1) := by decide +kernel
theorem dX7_tick_264 : decode cX7_tick 264 = .ok (.ifCond .eq 41, 3) := by decide +kernel
theorem dX7_tick_267 : decode cX7_tick 267 = .ok (.aload_n 0, 1) := by decide +kernel
theorem dX7_tick_268 : decode cX7_tick 268 = .ok (.iload_n 3, 1) := by decide +kernel
theorem dX7_tick_269 : decode cX7_tick 269 = .ok (.invokevirtual 215, 3) := by decide +kernel
theorem dX7_tick_272 : decode cX7_tick 272 = .ok (.invokestatic 241, 3) := by decide +kernel
theorem dX7_tick_275 : decode cX7_tick 275 = .ok (.aload_n 0, 1) := by decide +kernel
theorem dX7_tick_276 : decode cX7_tick 276 = .ok (.iload_n 3, 1) := by decide +kernel
theorem dX7_tick_277 : decode cX7_tick 277 = .ok (.iconst 1, 1) := by decide +kernel
theorem dX7_tick_278 : decode cX7_tick 278 = .ok (.invokevirtual 209, 3) := by decide +kernel
theorem dX7_tick_281 : decode cX7_tick 281 = .ok (.lcmp, 1) := by decide +kernel
theorem dX7_tick_282 : decode cX7_tick 282 = .ok (.ifCond .gt 6, 3) := by decide +kernel
theorem dX7_tick_285 : decode cX7_tick 285 = .ok (.goto 20, 3) := by decide +kernel
theorem dX7_tick_288 : decode cX7_tick 288 = .ok (.aload_n 0, 1) := by decide +kernel
theorem dX7_tick_289 : decode cX7_tick 289 = .ok (.getfield 17, 3) := by decide +kernel
theorem dX7_tick_292 : decode cX7_tick 292 = .ok (.bipush 48, 2) := by decide +kernel
theorem dX7_tick_294 : decode cX7_tick 294 = .ok (.iconst 3, 1) := by decide +kernel
theorem dX7_tick_295 : decode cX7_tick 295 = .ok (.iload_n 3, 1) := by decide +kernel
theorem dX7_tick_296 : decode cX7_tick 296 = .ok (.imul, 1) := by decide +kernel
theorem dX7_tick_297 : decode cX7_tick 297 = .ok (.iadd, 1) := by decide +kernel
theorem dX7_tick_298 : decode cX7_tick 298 = .ok (.iconst 2, 1) := by decide +kernel
theorem dX7_tick_299 : decode cX7_tick 299 = .ok (.iadd, 1) := by decide +kernel
theorem dX7_tick_300 : decode cX7_tick 300 = .ok (.lconst 1, 1) := by decide +kernel
theorem dX7_tick_301 : decode cX7_tick 301 = .ok (.lastore, 1) := by decide +kernel
theorem dX7_tick_302 : decode cX7_tick 302 = .ok (.iinc 2 1, 3) := by decide +kernel
theorem dX7_tick_305 : decode cX7_tick 305 = .ok (.iinc 3 1, 3) := by decide +kernel
theorem dX7_tick_308 : decode cX7_tick 308 = .ok (.goto (-65), 3) := by decide +kernel
theorem dX7_tick_311 : decode cX7_tick 311 = .ok (.aload_n 0, 1) := by decide +kernel
theorem dX7_tick_312 : decode cX7_tick 312 = .ok (.invokevirtual 247, 3) := by decide +kernel
theorem dX7_tick_315 : decode cX7_tick 315 = .ok (.aload_n 0, 1) := by decide +kernel
theorem dX7_tick_316 : decode cX7_tick 316 = .ok (.getfield 17, 3) := by decide +kernel
theorem dX7_tick_319 : decode cX7_tick 319 = .ok (.iconst 0, 1) := by decide +kernel
theorem dX7_tick_320 : decode cX7_tick 320 = .ok (.dup2, 1) := by decide +kernel
theorem dX7_tick_321 : decode cX7_tick 321 = .ok (.laload, 1) := by decide +kernel
theorem dX7_tick_322 : decode cX7_tick 322 = .ok (.lconst 1, 1) := by decide +kernel
theorem dX7_tick_323 : decode cX7_tick 323 = .ok (.ladd, 1) := by decide +kernel
theorem dX7_tick_324 : decode cX7_tick 324 = .ok (.lastore, 1) := by decide +kernel
theorem dX7_tick_325 : decode cX7_tick 325 = .ok (.iload_n 2, 1) := by decide +kernel
theorem dX7_tick_326 : decode cX7_tick 326 = .ok (.ireturn, 1) := by decide +kernel
theorem dX7_brokenSprings_0 : decode cX7_brokenSprings 0 = .ok (.iconst 0, 1) := by decide +kernel
theorem dX7_brokenSprings_1 : decode cX7_brokenSprings 1 = .ok (.istore_n 1, 1) := by decide +kernel
theorem dX7_brokenSprings_2 : decode cX7_brokenSprings 2 = .ok (.iconst 0, 1) := by decide +kernel
theorem dX7_brokenSprings_3 : decode cX7_brokenSprings 3 = .ok (.istore_n 2, 1) := by decide +kernel
theorem dX7_brokenSprings_4 : decode cX7_brokenSprings 4 = .ok (.iload_n 2, 1) := by decide +kernel
theorem dX7_brokenSprings_5 : decode cX7_brokenSprings 5 = .ok (.aload_n 0, 1) := by decide +kernel
theorem dX7_brokenSprings_6 : decode cX7_brokenSprings 6 = .ok (.invokevirtual 199, 3) := by decide +kernel
theorem dX7_brokenSprings_9 : decode cX7_brokenSprings 9 = .ok (.if_icmp .gt 25, 3) := by decide +kernel
theorem dX7_brokenSprings_12 : decode cX7_brokenSprings 12 = .ok (.iload_n 1, 1) := by decide +kernel
theorem dX7_brokenSprings_13 : decode cX7_brokenSprings 13 = .ok (.aload_n 0, 1) := by decide +kernel
theorem dX7_brokenSprings_14 : decode cX7_brokenSprings 14 = .ok (.iload_n 2, 1) := by decide +kernel
theorem dX7_brokenSprings_15 : decode cX7_brokenSprings 15 = .ok (.invokevirtual 212, 3) := by decide +kernel
theorem dX7_brokenSprings_18 : decode cX7_brokenSprings 18 = .ok (.ifCond .eq 7, 3) := by decide +kernel
theorem dX7_brokenSprings_21 : decode cX7_brokenSprings 21 = .ok (.iconst 0, 1) := by decide +kernel
theorem dX7_brokenSprings_22 : decode cX7_brokenSprings 22 = .ok (.goto 4, 3) := by decide +kernel
theorem dX7_brokenSprings_25 : decode cX7_brokenSprings 25 = .ok (.iconst 1, 1) := by decide +kernel
theorem dX7_brokenSprings_26 : decode cX7_brokenSprings 26 = .ok (.iadd, 1) := by decide +kernel
theorem dX7_brokenSprings_27 : decode cX7_brokenSprings 27 = .ok (.istore_n 1, 1) := by decide +kernel
theorem dX7_brokenSprings_28 : decode cX7_brokenSprings 28 = .ok (.iinc 2 1, 3) := by decide +kernel
theorem dX7_brokenSprings_31 : decode cX7_brokenSprings 31 = .ok (.goto (-27), 3) := by decide +kernel
theorem dX7_brokenSprings_34 : decode cX7_brokenSprings 34 = .ok (.iload_n 1, 1) := by decide +kernel
theorem dX7_brokenSprings_35 : decode cX7_brokenSprings 35 = .ok (.ireturn, 1) := by decide +kernel
theorem dX7_still_0 : decode cX7_still 0 = .ok (.iconst 0, 1) := by decide +kernel
theorem dX7_still_1 : decode cX7_still 1 = .ok (.istore_n 1, 1) := by decide +kernel
theorem dX7_still_2 : decode cX7_still 2 = .ok (.iconst 0, 1) := by decide +kernel
theorem dX7_still_3 : decode cX7_still 3 = .ok (.istore_n 2, 1) := by decide +kernel
theorem dX7_still_4 : decode cX7_still 4 = .ok (.iload_n 2, 1) := by decide +kernel
theorem dX7_still_5 : decode cX7_still 5 = .ok (.aload_n 0, 1) := by decide +kernel
theorem dX7_still_6 : decode cX7_still 6 = .ok (.invokevirtual 199, 3) := by decide +kernel
theorem dX7_still_9 : decode cX7_still 9 = .ok (.if_icmp .ge 28, 3) := by decide +kernel
theorem dX7_still_12 : decode cX7_still 12 = .ok (.iload_n 1, 1) := by decide +kernel
theorem dX7_still_13 : decode cX7_still 13 = .ok (.aload_n 0, 1) := by decide +kernel
theorem dX7_still_14 : decode cX7_still 14 = .ok (.iload_n 2, 1) := by decide +kernel
theorem dX7_still_15 : decode cX7_still 15 = .ok (.iconst 2, 1) := by decide +kernel
theorem dX7_still_16 : decode cX7_still 16 = .ok (.invokevirtual 201, 3) := by decide +kernel
theorem dX7_still_19 : decode cX7_still 19 = .ok (.lconst 0, 1) := by decide +kernel
theorem dX7_still_20 : decode cX7_still 20 = .ok (.lcmp, 1) := by decide +kernel
theorem dX7_still_21 : decode cX7_still 21 = .ok (.ifCond .ne 7, 3) := by decide +kernel
theorem dX7_still_24 : decode cX7_still 24 = .ok (.iconst 1, 1) := by decide +kernel
theorem dX7_still_25 : decode cX7_still 25 = .ok (.goto 4, 3) := by decide +kernel
theorem dX7_still_28 : decode cX7_still 28 = .ok (.iconst 0, 1) := by decide +kernel
theorem dX7_still_29 : decode cX7_still 29 = .ok (.iadd, 1) := by decide +kernel
theorem dX7_still_30 : decode cX7_still 30 = .ok (.istore_n 1, 1) := by decide +kernel
theorem dX7_still_31 : decode cX7_still 31 = .ok (.iinc 2 1, 3) := by decide +kernel
theorem dX7_still_34 : decode cX7_still 34 = .ok (.goto (-30), 3) := by decide +kernel
theorem dX7_still_37 : decode cX7_still 37 = .ok (.iload_n 1, 1) := by decide +kernel
theorem dX7_still_38 : decode cX7_still 38 = .ok (.ireturn, 1) := by decide +kernel
theorem dX7_farthest_0 : decode cX7_farthest 0 = .ok (.iconst 0, 1) := by decide +kernel
theorem dX7_farthest_1 : decode cX7_farthest 1 = .ok (.istore_n 1, 1) := by decide +kernel
theorem dX7_farthest_2 : decode cX7_farthest 2 = .ok (.iconst 1, 1) := by decide +kernel
theorem dX7_farthest_3 : decode cX7_farthest 3 = .ok (.istore_n 2, 1) := by decide +kernel
theorem dX7_farthest_4 : decode cX7_farthest 4 = .ok (.iload_n 2, 1) := by decide +kernel
theorem dX7_farthest_5 : decode cX7_farthest 5 = .ok (.aload_n 0, 1) := by decide +kernel
theorem dX7_farthest_6 : decode cX7_farthest 6 = .ok (.invokevirtual 199, 3) := by decide +kernel
theorem dX7_farthest_9 : decode cX7_farthest 9 = .ok (.if_icmp .ge 33, 3) := by decide +kernel
theorem dX7_farthest_12 : decode cX7_farthest 12 = .ok (.aload_n 0, 1) := by decide +kernel
theorem dX7_farthest_13 : decode cX7_farthest 13 = .ok (.iload_n 2, 1) := by decide +kernel
theorem dX7_farthest_14 : decode cX7_farthest 14 = .ok (.iconst 1, 1) := by decide +kernel
theorem dX7_farthest_15 : decode cX7_farthest 15 = .ok (.invokevirtual 201, 3) := by decide +kernel
theorem dX7_farthest_18 : decode cX7_farthest 18 = .ok (.invokestatic 241, 3) := by decide +kernel
theorem dX7_farthest_21 : decode cX7_farthest 21 = .ok (.aload_n 0, 1) := by decide +kernel
theorem dX7_farthest_22 : decode cX7_farthest 22 = .ok (.iload_n 1, 1) := by decide +kernel
theorem dX7_farthest_23 : decode cX7_farthest 23 = .ok (.iconst 1, 1) := by decide +kernel
theorem dX7_farthest_24 : decode cX7_farthest 24 = .ok (.invokevirtual 201, 3) := by decide +kernel
theorem dX7_farthest_27 : decode cX7_farthest 27 = .ok (.invokestatic 241, 3) := by decide +kernel
theorem dX7_farthest_30 : decode cX7_farthest 30 = .ok (.lcmp, 1) := by decide +kernel
theorem dX7_farthest_31 : decode cX7_farthest 31 = .ok (.ifCond .le 5, 3) := by decide +kernel
theorem dX7_farthest_34 : decode cX7_farthest 34 = .ok (.iload_n 2, 1) := by decide +kernel
theorem dX7_farthest_35 : decode cX7_farthest 35 = .ok (.istore_n 1, 1) := by decide +kernel
theorem dX7_farthest_36 : decode cX7_farthest 36 = .ok (.iinc 2 1, 3) := by decide +kernel
theorem dX7_farthest_39 : decode cX7_farthest 39 = .ok (.goto (-35), 3) := by decide +kernel
theorem dX7_farthest_42 : decode cX7_farthest 42 = .ok (.iload_n 1, 1) := by decide +kernel
theorem dX7_farthest_43 : decode cX7_farthest 43 = .ok (.ireturn, 1) := by decide +kernel
theorem dX7_told_0 : decode cX7_told 0 = .ok (.iload_n 1, 1) := by decide +kernel
theorem dX7_told_1 : decode cX7_told 1 = .ok (.tableswitch 133 0 10 #[59, 67, 72, 77, 85, 93, 101, 109, 114, 119, 128], 59) := by decide +kernel
theorem dX7_told_60 : decode cX7_told 60 = .ok (.aload_n 0, 1) := by decide +kernel
theorem dX7_told_61 : decode cX7_told 61 = .ok (.getfield 17, 3) := by decide +kernel
theorem dX7_told_64 : decode cX7_told 64 = .ok (.iconst 0, 1) := by decide +kernel
theorem dX7_told_65 : decode cX7_told 65 = .ok (.laload, 1) := by decide +kernel
theorem dX7_told_66 : decode cX7_told 66 = .ok (.l2i, 1) := by decide +kernel
theorem dX7_told_67 : decode cX7_told 67 = .ok (.ireturn, 1) := by decide +kernel
theorem dX7_told_68 : decode cX7_told 68 = .ok (.aload_n 0, 1) := by decide +kernel
theorem dX7_told_69 : decode cX7_told 69 = .ok (.invokevirtual 199, 3) := by decide +kernel
theorem dX7_told_72 : decode cX7_told 72 = .ok (.ireturn, 1) := by decide +kernel
theorem dX7_told_73 : decode cX7_told 73 = .ok (.aload_n 0, 1) := by decide +kernel
theorem dX7_told_74 : decode cX7_told 74 = .ok (.invokevirtual 250, 3) := by decide +kernel
theorem dX7_told_77 : decode cX7_told 77 = .ok (.ireturn, 1) := by decide +kernel
theorem dX7_told_78 : decode cX7_told 78 = .ok (.aload_n 0, 1) := by decide +kernel
theorem dX7_told_79 : decode cX7_told 79 = .ok (.getfield 17, 3) := by decide +kernel
theorem dX7_told_82 : decode cX7_told 82 = .ok (.iconst 2, 1) := by decide +kernel
theorem dX7_told_83 : decode cX7_told 83 = .ok (.laload, 1) := by decide +kernel
theorem dX7_told_84 : decode cX7_told 84 = .ok (.l2i, 1) := by decide +kernel
theorem dX7_told_85 : decode cX7_told 85 = .ok (.ireturn, 1) := by decide +kernel
theorem dX7_told_86 : decode cX7_told 86 = .ok (.aload_n 0, 1) := by decide +kernel
theorem dX7_told_87 : decode cX7_told 87 = .ok (.getfield 17, 3) := by decide +kernel
theorem dX7_told_90 : decode cX7_told 90 = .ok (.iconst 3, 1) := by decide +kernel
theorem dX7_told_91 : decode cX7_told 91 = .ok (.laload, 1) := by decide +kernel
theorem dX7_told_92 : decode cX7_told 92 = .ok (.l2i, 1) := by decide +kernel
theorem dX7_told_93 : decode cX7_told 93 = .ok (.ireturn, 1) := by decide +kernel
theorem dX7_told_94 : decode cX7_told 94 = .ok (.aload_n 0, 1) := by decide +kernel
theorem dX7_told_95 : decode cX7_told 95 = .ok (.getfield 17, 3) := by decide +kernel
theorem dX7_told_98 : decode cX7_told 98 = .ok (.iconst 4, 1) := by decide +kernel
theorem dX7_told_99 : decode cX7_told 99 = .ok (.laload, 1) := by decide +kernel
theorem dX7_told_100 : decode cX7_told 100 = .ok (.l2i, 1) := by decide +kernel
theorem dX7_told_101 : decode cX7_told 101 = .ok (.ireturn, 1) := by decide +kernel
theorem dX7_told_102 : decode cX7_told 102 = .ok (.aload_n 0, 1) := by decide +kernel
theorem dX7_told_103 : decode cX7_told 103 = .ok (.getfield 17, 3) := by decide +kernel
theorem dX7_told_106 : decode cX7_told 106 = .ok (.iconst 5, 1) := by decide +kernel
theorem dX7_told_107 : decode cX7_told 107 = .ok (.laload, 1) := by decide +kernel
theorem dX7_told_108 : decode cX7_told 108 = .ok (.l2i, 1) := by decide +kernel
theorem dX7_told_109 : decode cX7_told 109 = .ok (.ireturn, 1) := by decide +kernel
theorem dX7_told_110 : decode cX7_told 110 = .ok (.aload_n 0, 1) := by decide +kernel
theorem dX7_told_111 : decode cX7_told 111 = .ok (.invokevirtual 218, 3) := by decide +kernel
theorem dX7_told_114 : decode cX7_told 114 = .ok (.ireturn, 1) := by decide +kernel
theorem dX7_told_115 : decode cX7_told 115 = .ok (.aload_n 0, 1) := by decide +kernel
theorem dX7_told_116 : decode cX7_told 116 = .ok (.invokevirtual 253, 3) := by decide +kernel
theorem dX7_told_119 : decode cX7_told 119 = .ok (.ireturn, 1) := by decide +kernel
theorem dX7_told_120 : decode cX7_told 120 = .ok (.aload_n 0, 1) := by decide +kernel
theorem dX7_told_121 : decode cX7_told 121 = .ok (.getfield 17, 3) := by decide +kernel
theorem dX7_told_124 : decode cX7_told 124 = .ok (.bipush 6, 2) := by decide +kernel
theorem dX7_told_126 : decode cX7_told 126 = .ok (.laload, 1) := by decide +kernel
theorem dX7_told_127 : decode cX7_told 127 = .ok (.l2i, 1) := by decide +kernel
theorem dX7_told_128 : decode cX7_told 128 = .ok (.ireturn, 1) := by decide +kernel
theorem dX7_told_129 : decode cX7_told 129 = .ok (.aload_n 0, 1) := by decide +kernel
theorem dX7_told_130 : decode cX7_told 130 = .ok (.invokevirtual 256, 3) := by decide +kernel
theorem dX7_told_133 : decode cX7_told 133 = .ok (.ireturn, 1) := by decide +kernel
theorem dX7_told_134 : decode cX7_told 134 = .ok (.aload_n 0, 1) := by decide +kernel
theorem dX7_told_135 : decode cX7_told 135 = .ok (.invokevirtual 259, 3) := by decide +kernel
theorem dX7_told_138 : decode cX7_told 138 = .ok (.ireturn, 1) := by decide +kernel
theorem dX7_state_0 : decode cX7_state 0 = .ok (.aload_n 0, 1) := by decide +kernel
theorem dX7_state_1 : decode cX7_state 1 = .ok (.iconst 0, 1) := by decide +kernel
theorem dX7_state_2 : decode cX7_state 2 = .ok (.putfield 39, 3) := by decide +kernel
theorem dX7_state_5 : decode cX7_state 5 = .ok (.aload_n 0, 1) := by decide +kernel
theorem dX7_state_6 : decode cX7_state 6 = .ok (.iload_n 1, 1) := by decide +kernel
theorem dX7_state_7 : decode cX7_state 7 = .ok (.iconst 0, 1) := by decide +kernel
theorem dX7_state_8 : decode cX7_state 8 = .ok (.bipush 11, 2) := by decide +kernel
theorem dX7_state_10 : decode cX7_state 10 = .ok (.invokestatic 65, 3) := by decide +kernel
theorem dX7_state_13 : decode cX7_state 13 = .ok (.ifCond .ne 7, 3) := by decide +kernel
theorem dX7_state_16 : decode cX7_state 16 = .ok (.iconst 1, 1) := by decide +kernel
theorem dX7_state_17 : decode cX7_state 17 = .ok (.goto 4, 3) := by decide +kernel
theorem dX7_state_20 : decode cX7_state 20 = .ok (.iconst 0, 1) := by decide +kernel
theorem dX7_state_21 : decode cX7_state 21 = .ok (.iconst 1, 1) := by decide +kernel
theorem dX7_state_22 : decode cX7_state 22 = .ok (.invokevirtual 183, 3) := by decide +kernel
theorem dX7_state_25 : decode cX7_state 25 = .ok (.ifCond .eq 7, 3) := by decide +kernel
theorem dX7_state_28 : decode cX7_state 28 = .ok (.iconst 0, 1) := by decide +kernel
theorem dX7_state_29 : decode cX7_state 29 = .ok (.goto 8, 3) := by decide +kernel
theorem dX7_state_32 : decode cX7_state 32 = .ok (.aload_n 0, 1) := by decide +kernel
theorem dX7_state_33 : decode cX7_state 33 = .ok (.iload_n 1, 1) := by decide +kernel
theorem dX7_state_34 : decode cX7_state 34 = .ok (.invokevirtual 262, 3) := by decide +kernel
theorem dX7_state_37 : decode cX7_state 37 = .ok (.ireturn, 1) := by decide +kernel
theorem dX7_toldAccount_0 : decode cX7_toldAccount 0 = .ok (.iload_n 1, 1) := by decide +kernel
theorem dX7_toldAccount_1 : decode cX7_toldAccount 1 = .ok (.iconst 1, 1) := by decide +kernel
theorem dX7_toldAccount_2 : decode cX7_toldAccount 2 = .ok (.iconst 5, 1) := by decide +kernel
theorem dX7_toldAccount_3 : decode cX7_toldAccount 3 = .ok (.invokestatic 65, 3) := by decide +kernel
theorem dX7_toldAccount_6 : decode cX7_toldAccount 6 = .ok (.ifCond .eq 13, 3) := by decide +kernel
theorem dX7_toldAccount_9 : decode cX7_toldAccount 9 = .ok (.aload_n 0, 1) := by decide +kernel
theorem dX7_toldAccount_10 : decode cX7_toldAccount 10 = .ok (.getfield 17, 3) := by decide +kernel
theorem dX7_toldAccount_13 : decode cX7_toldAccount 13 = .ok (.bipush 6, 2) := by decide +kernel
theorem dX7_toldAccount_15 : decode cX7_toldAccount 15 = .ok (.iload_n 1, 1) := by decide +kernel
theorem dX7_toldAccount_16 : decode cX7_toldAccount 16 = .ok (.iadd, 1) := by decide +kernel
theorem dX7_toldAccount_17 : decode cX7_toldAccount 17 = .ok (.laload, 1) := by decide +kernel
theorem dX7_toldAccount_18 : decode cX7_toldAccount 18 = .ok (.lreturn, 1) := by decide +kernel
theorem dX7_toldAccount_19 : decode cX7_toldAccount 19 = .ok (.lconst 0, 1) := by decide +kernel
theorem dX7_toldAccount_20 : decode cX7_toldAccount 20 = .ok (.lstore_n 2, 1) := by decide +kernel
theorem dX7_toldAccount_21 : decode cX7_toldAccount 21 = .ok (.iconst 0, 1) := by decide +kernel
theorem dX7_toldAccount_22 : decode cX7_toldAccount 22 = .ok (.istore 4, 2) := by decide +kernel
theorem dX7_toldAccount_24 : decode cX7_toldAccount 24 = .ok (.iload 4, 2) := by decide +kernel
theorem dX7_toldAccount_26 : decode cX7_toldAccount 26 = .ok (.aload_n 0, 1) := by decide +kernel
theorem dX7_toldAccount_27 : decode cX7_toldAccount 27 = .ok (.invokevirtual 199, 3) := by decide +kernel
theorem dX7_toldAccount_30 : decode cX7_toldAccount 30 = .ok (.if_icmp .ge 59, 3) := by decide +kernel
theorem dX7_toldAccount_33 : decode cX7_toldAccount 33 = .ok (.iload_n 1, 1) := by decide +kernel
theorem dX7_toldAccount_34 : decode cX7_toldAccount 34 = .ok (.bipush 7, 2) := by decide +kernel
theorem dX7_toldAccount_36 : decode cX7_toldAccount 36 = .ok (.if_icmp .ge 53, 3) := by decide +kernel
theorem dX7_toldAccount_39 : decode cX7_toldAccount 39 = .ok (.lload_n 2, 1) := by decide +kernel
theorem dX7_toldAccount_40 : decode cX7_toldAccount 40 = .ok (.iload_n 1, 1) := by decide +kernel
theorem dX7_toldAccount_41 : decode cX7_toldAccount 41 = .ok (.ifCond .ne 13, 3) := by decide +kernel
theorem dX7_toldAccount_44 : decode cX7_toldAccount 44 = .ok (.aload_n 0, 1) := by decide +kernel
theorem dX7_toldAccount_45 : decode cX7_toldAccount 45 = .ok (.iload 4, 2) := by decide +kernel
theorem dX7_toldAccount_47 : decode cX7_toldAccount 47 = .ok (.iconst 2, 1) := by decide +kernel
theorem dX7_toldAccount_48 : decode cX7_toldAccount 48 = .ok (.invokevirtual 201, 3) := by decide +kernel
theorem dX7_toldAccount_51 : decode cX7_toldAccount 51 = .ok (.goto 30, 3) := by decide +kernel
theorem dX7_toldAccount_54 : decode cX7_toldAccount 54 = .ok (.aload_n 0, 1) := by decide +kernel
theorem dX7_toldAccount_55 : decode cX7_toldAccount 55 = .ok (.iload 4, 2) := by decide +kernel
theorem dX7_toldAccount_57 : decode cX7_toldAccount 57 = .ok (.iconst 2, 1) := by decide +kernel
theorem dX7_toldAccount_58 : decode cX7_toldAccount 58 = .ok (.invokevirtual 201, 3) := by decide +kernel
theorem dX7_toldAccount_61 : decode cX7_toldAccount 61 = .ok (.aload_n 0, 1) := by decide +kernel
theorem dX7_toldAccount_62 : decode cX7_toldAccount 62 = .ok (.iload 4, 2) := by decide +kernel
theorem dX7_toldAccount_64 : decode cX7_toldAccount 64 = .ok (.iconst 2, 1) := by decide +kernel
theorem dX7_toldAccount_65 : decode cX7_toldAccount 65 = .ok (.invokevirtual 201, 3) := by decide +kernel
theorem dX7_toldAccount_68 : decode cX7_toldAccount 68 = .ok (.lmul, 1) := by decide +kernel
theorem dX7_toldAccount_69 : decode cX7_toldAccount 69 = .ok (.ldc2_w 265, 3) := by decide +kernel
theorem dX7_toldAccount_72 : decode cX7_toldAccount 72 = .ok (.aload_n 0, 1) := by decide +kernel
theorem dX7_toldAccount_73 : decode cX7_toldAccount 73 = .ok (.iload 4, 2) := by decide +kernel
theorem dX7_toldAccount_75 : decode cX7_toldAccount 75 = .ok (.iconst 0, 1) := by decide +kernel
theorem dX7_toldAccount_76 : decode cX7_toldAccount 76 = .ok (.invokevirtual 201, 3) := by decide +kernel
theorem dX7_toldAccount_79 : decode cX7_toldAccount 79 = .ok (.lmul, 1) := by decide +kernel
theorem dX7_toldAccount_80 : decode cX7_toldAccount 80 = .ok (.ldiv, 1) := by decide +kernel
theorem dX7_toldAccount_81 : decode cX7_toldAccount 81 = .ok (.ladd, 1) := by decide +kernel
theorem dX7_toldAccount_82 : decode cX7_toldAccount 82 = .ok (.lstore_n 2, 1) := by decide +kernel
theorem dX7_toldAccount_83 : decode cX7_toldAccount 83 = .ok (.iinc 4 1, 3) := by decide +kernel
theorem dX7_toldAccount_86 : decode cX7_toldAccount 86 = .ok (.goto (-62), 3) := by decide +kernel
theorem dX7_toldAccount_89 : decode cX7_toldAccount 89 = .ok (.iconst 0, 1) := by decide +kernel
theorem dX7_toldAccount_90 : decode cX7_toldAccount 90 = .ok (.istore 4, 2) := by decide +kernel
theorem dX7_toldAccount_92 : decode cX7_toldAccount 92 = .ok (.iload 4, 2) := by decide +kernel
theorem dX7_toldAccount_94 : decode cX7_toldAccount 94 = .ok (.aload_n 0, 1) := by decide +kernel
theorem dX7_toldAccount_95 : decode cX7_toldAccount 95 = .ok (.invokevirtual 199, 3) := by decide +kernel
theorem dX7_toldAccount_98 : decode cX7_toldAccount 98 = .ok (.if_icmp .gt 56, 3) := by decide +kernel
theorem dX7_toldAccount_101 : decode cX7_toldAccount 101 = .ok (.iload_n 1, 1) := by decide +kernel
theorem dX7_toldAccount_102 : decode cX7_toldAccount 102 = .ok (.bipush 7, 2) := by decide +kernel
theorem dX7_toldAccount_104 : decode cX7_toldAccount 104 = .ok (.if_icmp .ne 50, 3) := by decide +kernel
theorem dX7_toldAccount_107 : decode cX7_toldAccount 107 = .ok (.lload_n 2, 1) := by decide +kernel
theorem dX7_toldAccount_108 : decode cX7_toldAccount 108 = .ok (.aload_n 0, 1) := by decide +kernel
theorem dX7_toldAccount_109 : decode cX7_toldAccount 109 = .ok (.iload 4, 2) := by decide +kernel
theorem dX7_toldAccount_111 : decode cX7_toldAccount 111 = .ok (.invokevirtual 212, 3) := by decide +kernel
theorem dX7_toldAccount_114 : decode cX7_toldAccount 114 = .ok (.ifCond .eq 31, 3) := by decide +kernel
theorem dX7_toldAccount_117 : decode cX7_toldAccount 117 = .ok (.aload_n 0, 1) := by decide +kernel
theorem dX7_toldAccount_118 : decode cX7_toldAccount 118 = .ok (.iload 4, 2) := by decide +kernel
theorem dX7_toldAccount_120 : decode cX7_toldAccount 120 = .ok (.iconst 0, 1) := by decide +kernel
theorem dX7_toldAccount_121 : decode cX7_toldAccount 121 = .ok (.invokevirtual 209, 3) := by decide +kernel
theorem dX7_toldAccount_124 : decode cX7_toldAccount 124 = .ok (.aload_n 0, 1) := by decide +kernel
theorem dX7_toldAccount_125 : decode cX7_toldAccount 125 = .ok (.iload 4, 2) := by decide +kernel
theorem dX7_toldAccount_127 : decode cX7_toldAccount 127 = .ok (.invokevirtual 215, 3) := by decide +kernel
theorem dX7_toldAccount_130 : decode cX7_toldAccount 130 = .ok (.lmul, 1) := by decide +kernel
theorem dX7_toldAccount_131 : decode cX7_toldAccount 131 = .ok (.aload_n 0, 1) := by decide +kernel
theorem dX7_toldAccount_132 : decode cX7_toldAccount 132 = .ok (.iload 4, 2) := by decide +kernel
theorem dX7_toldAccount_134 : decode cX7_toldAccount 134 = .ok (.invokevirtual 215, 3) := by decide +kernel
theorem dX7_toldAccount_137 : decode cX7_toldAccount 137 = .ok (.lmul, 1) := by decide +kernel
theorem dX7_toldAccount_138 : decode cX7_toldAccount 138 = .ok (.ldc2_w 267, 3) := by decide +kernel
theorem dX7_toldAccount_141 : decode cX7_toldAccount 141 = .ok (.ldiv, 1) := by decide +kernel
theorem dX7_toldAccount_142 : decode cX7_toldAccount 142 = .ok (.goto 4, 3) := by decide +kernel
theorem dX7_toldAccount_145 : decode cX7_toldAccount 145 = .ok (.lconst 0, 1) := by decide +kernel
theorem dX7_toldAccount_146 : decode cX7_toldAccount 146 = .ok (.ladd, 1) := by decide +kernel
theorem dX7_toldAccount_147 : decode cX7_toldAccount 147 = .ok (.lstore_n 2, 1) := by decide +kernel
theorem dX7_toldAccount_148 : decode cX7_toldAccount 148 = .ok (.iinc 4 1, 3) := by decide +kernel
theorem dX7_toldAccount_151 : decode cX7_toldAccount 151 = .ok (.goto (-59), 3) := by decide +kernel
theorem dX7_toldAccount_154 : decode cX7_toldAccount 154 = .ok (.lload_n 2, 1) := by decide +kernel
theorem dX7_toldAccount_155 : decode cX7_toldAccount 155 = .ok (.lreturn, 1) := by decide +kernel
theorem dX7_account_0 : decode cX7_account 0 = .ok (.aload_n 0, 1) := by decide +kernel
theorem dX7_account_1 : decode cX7_account 1 = .ok (.iconst 0, 1) := by decide +kernel
theorem dX7_account_2 : decode cX7_account 2 = .ok (.putfield 39, 3) := by decide +kernel
theorem dX7_account_5 : decode cX7_account 5 = .ok (.aload_n 0, 1) := by decide +kernel
theorem dX7_account_6 : decode cX7_account 6 = .ok (.iload_n 1, 1) := by decide +kernel
theorem dX7_account_7 : decode cX7_account 7 = .ok (.iconst 0, 1) := by decide +kernel
theorem dX7_account_8 : decode cX7_account 8 = .ok (.bipush 7, 2) := by decide +kernel
theorem dX7_account_10 : decode cX7_account 10 = .ok (.invokestatic 65, 3) := by decide +kernel
theorem dX7_account_13 : decode cX7_account 13 = .ok (.ifCond .ne 7, 3) := by decide +kernel
theorem dX7_account_16 : decode cX7_account 16 = .ok (.iconst 1, 1) := by decide +kernel
theorem dX7_account_17 : decode cX7_account 17 = .ok (.goto 4, 3) := by decide +kernel
theorem dX7_account_20 : decode cX7_account 20 = .ok (.iconst 0, 1) := by decide +kernel
theorem dX7_account_21 : decode cX7_account 21 = .ok (.iconst 1, 1) := by decide +kernel
theorem dX7_account_22 : decode cX7_account 22 = .ok (.invokevirtual 183, 3) := by decide +kernel
theorem dX7_account_25 : decode cX7_account 25 = .ok (.ifCond .eq 7, 3) := by decide +kernel
theorem dX7_account_28 : decode cX7_account 28 = .ok (.lconst 0, 1) := by decide +kernel
theorem dX7_account_29 : decode cX7_account 29 = .ok (.goto 8, 3) := by decide +kernel
theorem dX7_account_32 : decode cX7_account 32 = .ok (.aload_n 0, 1) := by decide +kernel
theorem dX7_account_33 : decode cX7_account 33 = .ok (.iload_n 1, 1) := by decide +kernel
theorem dX7_account_34 : decode cX7_account 34 = .ok (.invokevirtual 269, 3) := by decide +kernel
theorem dX7_account_37 : decode cX7_account 37 = .ok (.lreturn, 1) := by decide +kernel
theorem dX7_noMass_0 : decode cX7_noMass 0 = .ok (.aload_n 0, 1) := by decide +kernel
theorem dX7_noMass_1 : decode cX7_noMass 1 = .ok (.iload_n 1, 1) := by decide +kernel
theorem dX7_noMass_2 : decode cX7_noMass 2 = .ok (.iconst 0, 1) := by decide +kernel
theorem dX7_noMass_3 : decode cX7_noMass 3 = .ok (.aload_n 0, 1) := by decide +kernel
theorem dX7_noMass_4 : decode cX7_noMass 4 = .ok (.invokevirtual 199, 3) := by decide +kernel
theorem dX7_noMass_7 : decode cX7_noMass 7 = .ok (.iconst 1, 1) := by decide +kernel
theorem dX7_noMass_8 : decode cX7_noMass 8 = .ok (.isub, 1) := by decide +kernel
theorem dX7_noMass_9 : decode cX7_noMass 9 = .ok (.invokestatic 65, 3) := by decide +kernel
theorem dX7_noMass_12 : decode cX7_noMass 12 = .ok (.ifCond .ne 7, 3) := by decide +kernel
theorem dX7_noMass_15 : decode cX7_noMass 15 = .ok (.iconst 1, 1) := by decide +kernel
theorem dX7_noMass_16 : decode cX7_noMass 16 = .ok (.goto 4, 3) := by decide +kernel
theorem dX7_noMass_19 : decode cX7_noMass 19 = .ok (.iconst 0, 1) := by decide +kernel
theorem dX7_noMass_20 : decode cX7_noMass 20 = .ok (.iconst 1, 1) := by decide +kernel
theorem dX7_noMass_21 : decode cX7_noMass 21 = .ok (.invokevirtual 183, 3) := by decide +kernel
theorem dX7_noMass_24 : decode cX7_noMass 24 = .ok (.ireturn, 1) := by decide +kernel
theorem dX7_noSpring_0 : decode cX7_noSpring 0 = .ok (.aload_n 0, 1) := by decide +kernel
theorem dX7_noSpring_1 : decode cX7_noSpring 1 = .ok (.iload_n 1, 1) := by decide +kernel
theorem dX7_noSpring_2 : decode cX7_noSpring 2 = .ok (.iconst 0, 1) := by decide +kernel
theorem dX7_noSpring_3 : decode cX7_noSpring 3 = .ok (.aload_n 0, 1) := by decide +kernel
theorem dX7_noSpring_4 : decode cX7_noSpring 4 = .ok (.invokevirtual 199, 3) := by decide +kernel
theorem dX7_noSpring_7 : decode cX7_noSpring 7 = .ok (.invokestatic 65, 3) := by decide +kernel
theorem dX7_noSpring_10 : decode cX7_noSpring 10 = .ok (.ifCond .ne 7, 3) := by decide +kernel
theorem dX7_noSpring_13 : decode cX7_noSpring 13 = .ok (.iconst 1, 1) := by decide +kernel
theorem dX7_noSpring_14 : decode cX7_noSpring 14 = .ok (.goto 4, 3) := by decide +kernel
theorem dX7_noSpring_17 : decode cX7_noSpring 17 = .ok (.iconst 0, 1) := by decide +kernel
theorem dX7_noSpring_18 : decode cX7_noSpring 18 = .ok (.iconst 1, 1) := by decide +kernel
theorem dX7_noSpring_19 : decode cX7_noSpring 19 = .ok (.invokevirtual 183, 3) := by decide +kernel
theorem dX7_noSpring_22 : decode cX7_noSpring 22 = .ok (.ireturn, 1) := by decide +kernel
theorem dX7_toldMass_0 : decode cX7_toldMass 0 = .ok (.iload_n 2, 1) := by decide +kernel
theorem dX7_toldMass_1 : decode cX7_toldMass 1 = .ok (.iconst 3, 1) := by decide +kernel
theorem dX7_toldMass_2 : decode cX7_toldMass 2 = .ok (.if_icmp .ne 19, 3) := by decide +kernel
theorem dX7_toldMass_5 : decode cX7_toldMass 5 = .ok (.aload_n 0, 1) := by decide +kernel
theorem dX7_toldMass_6 : decode cX7_toldMass 6 = .ok (.iload_n 1, 1) := by decide +kernel
theorem dX7_toldMass_7 : decode cX7_toldMass 7 = .ok (.iconst 2, 1) := by decide +kernel
theorem dX7_toldMass_8 : decode cX7_toldMass 8 = .ok (.invokevirtual 201, 3) := by decide +kernel
theorem dX7_toldMass_11 : decode cX7_toldMass 11 = .ok (.aload_n 0, 1) := by decide +kernel
theorem dX7_toldMass_12 : decode cX7_toldMass 12 = .ok (.iload_n 1, 1) := by decide +kernel
theorem dX7_toldMass_13 : decode cX7_toldMass 13 = .ok (.iconst 0, 1) := by decide +kernel
theorem dX7_toldMass_14 : decode cX7_toldMass 14 = .ok (.invokevirtual 201, 3) := by decide +kernel
theorem dX7_toldMass_17 : decode cX7_toldMass 17 = .ok (.ldiv, 1) := by decide +kernel
theorem dX7_toldMass_18 : decode cX7_toldMass 18 = .ok (.goto 9, 3) := by decide +kernel
theorem dX7_toldMass_21 : decode cX7_toldMass 21 = .ok (.aload_n 0, 1) := by decide +kernel
theorem dX7_toldMass_22 : decode cX7_toldMass 22 = .ok (.iload_n 1, 1) := by decide +kernel
theorem dX7_toldMass_23 : decode cX7_toldMass 23 = .ok (.iload_n 2, 1) := by decide +kernel
theorem dX7_toldMass_24 : decode cX7_toldMass 24 = .ok (.invokevirtual 201, 3) := by decide +kernel
theorem dX7_toldMass_27 : decode cX7_toldMass 27 = .ok (.l2i, 1) := by decide +kernel
theorem dX7_toldMass_28 : decode cX7_toldMass 28 = .ok (.ireturn, 1) := by decide +kernel
theorem dX7_mass_0 : decode cX7_mass 0 = .ok (.aload_n 0, 1) := by decide +kernel
theorem dX7_mass_1 : decode cX7_mass 1 = .ok (.iconst 0, 1) := by decide +kernel
theorem dX7_mass_2 : decode cX7_mass 2 = .ok (.putfield 39, 3) := by decide +kernel
theorem dX7_mass_5 : decode cX7_mass 5 = .ok (.aload_n 0, 1) := by decide +kernel
theorem dX7_mass_6 : decode cX7_mass 6 = .ok (.iload_n 1, 1) := by decide +kernel
theorem dX7_mass_7 : decode cX7_mass 7 = .ok (.invokevirtual 272, 3) := by decide +kernel
theorem dX7_mass_10 : decode cX7_mass 10 = .ok (.ifCond .ne 25, 3) := by decide +kernel
theorem dX7_mass_13 : decode cX7_mass 13 = .ok (.aload_n 0, 1) := by decide +kernel
theorem dX7_mass_14 : decode cX7_mass 14 = .ok (.iload_n 2, 1) := by decide +kernel
theorem dX7_mass_15 : decode cX7_mass 15 = .ok (.iconst 0, 1) := by decide +kernel
theorem dX7_mass_16 : decode cX7_mass 16 = .ok (.iconst 3, 1) := by decide +kernel
theorem dX7_mass_17 : decode cX7_mass 17 = .ok (.invokestatic 65, 3) := by decide +kernel
theorem dX7_mass_20 : decode cX7_mass 20 = .ok (.ifCond .ne 7, 3) := by decide +kernel
theorem dX7_mass_23 : decode cX7_mass 23 = .ok (.iconst 1, 1) := by decide +kernel
theorem dX7_mass_24 : decode cX7_mass 24 = .ok (.goto 4, 3) := by decide +kernel
theorem dX7_mass_27 : decode cX7_mass 27 = .ok (.iconst 0, 1) := by decide +kernel
theorem dX7_mass_28 : decode cX7_mass 28 = .ok (.iconst 2, 1) := by decide +kernel
theorem dX7_mass_29 : decode cX7_mass 29 = .ok (.invokevirtual 183, 3) := by decide +kernel
theorem dX7_mass_32 : decode cX7_mass 32 = .ok (.ifCond .eq 7, 3) := by decide +kernel
theorem dX7_mass_35 : decode cX7_mass 35 = .ok (.iconst 0, 1) := by decide +kernel
theorem dX7_mass_36 : decode cX7_mass 36 = .ok (.goto 9, 3) := by decide +kernel
theorem dX7_mass_39 : decode cX7_mass 39 = .ok (.aload_n 0, 1) := by decide +kernel
theorem dX7_mass_40 : decode cX7_mass 40 = .ok (.iload_n 1, 1) := by decide +kernel
theorem dX7_mass_41 : decode cX7_mass 41 = .ok (.iload_n 2, 1) := by decide +kernel
theorem dX7_mass_42 : decode cX7_mass 42 = .ok (.invokevirtual 275, 3) := by decide +kernel
theorem dX7_mass_45 : decode cX7_mass 45 = .ok (.ireturn, 1) := by decide +kernel
theorem dX7_toldSpring_0 : decode cX7_toldSpring 0 = .ok (.iload_n 2, 1) := by decide +kernel
theorem dX7_toldSpring_1 : decode cX7_toldSpring 1 = .ok (.iconst 3, 1) := by decide +kernel
theorem dX7_toldSpring_2 : decode cX7_toldSpring 2 = .ok (.if_icmp .ne 11, 3) := by decide +kernel
theorem dX7_toldSpring_5 : decode cX7_toldSpring 5 = .ok (.aload_n 0, 1) := by decide +kernel
theorem dX7_toldSpring_6 : decode cX7_toldSpring 6 = .ok (.iload_n 1, 1) := by decide +kernel
theorem dX7_toldSpring_7 : decode cX7_toldSpring 7 = .ok (.invokevirtual 215, 3) := by decide +kernel
theorem dX7_toldSpring_10 : decode cX7_toldSpring 10 = .ok (.goto 22, 3) := by decide +kernel
theorem dX7_toldSpring_13 : decode cX7_toldSpring 13 = .ok (.iload_n 2, 1) := by decide +kernel
theorem dX7_toldSpring_14 : decode cX7_toldSpring 14 = .ok (.iconst 4, 1) := by decide +kernel
theorem dX7_toldSpring_15 : decode cX7_toldSpring 15 = .ok (.if_icmp .ne 11, 3) := by decide +kernel
theorem dX7_toldSpring_18 : decode cX7_toldSpring 18 = .ok (.aload_n 0, 1) := by decide +kernel
theorem dX7_toldSpring_19 : decode cX7_toldSpring 19 = .ok (.iload_n 1, 1) := by decide +kernel
theorem dX7_toldSpring_20 : decode cX7_toldSpring 20 = .ok (.invokevirtual 225, 3) := by decide +kernel
theorem dX7_toldSpring_23 : decode cX7_toldSpring 23 = .ok (.goto 9, 3) := by decide +kernel
theorem dX7_toldSpring_26 : decode cX7_toldSpring 26 = .ok (.aload_n 0, 1) := by decide +kernel
theorem dX7_toldSpring_27 : decode cX7_toldSpring 27 = .ok (.iload_n 1, 1) := by decide +kernel
theorem dX7_toldSpring_28 : decode cX7_toldSpring 28 = .ok (.iload_n 2, 1) := by decide +kernel
theorem dX7_toldSpring_29 : decode cX7_toldSpring 29 = .ok (.invokevirtual 209, 3) := by decide +kernel
theorem dX7_toldSpring_32 : decode cX7_toldSpring 32 = .ok (.l2i, 1) := by decide +kernel
theorem dX7_toldSpring_33 : decode cX7_toldSpring 33 = .ok (.ireturn, 1) := by decide +kernel
theorem dX7_spring_0 : decode cX7_spring 0 = .ok (.aload_n 0, 1) := by decide +kernel
theorem dX7_spring_1 : decode cX7_spring 1 = .ok (.iconst 0, 1) := by decide +kernel
theorem dX7_spring_2 : decode cX7_spring 2 = .ok (.putfield 39, 3) := by decide +kernel
theorem dX7_spring_5 : decode cX7_spring 5 = .ok (.aload_n 0, 1) := by decide +kernel
theorem dX7_spring_6 : decode cX7_spring 6 = .ok (.iload_n 1, 1) := by decide +kernel
theorem dX7_spring_7 : decode cX7_spring 7 = .ok (.invokevirtual 278, 3) := by decide +kernel
theorem dX7_spring_10 : decode cX7_spring 10 = .ok (.ifCond .ne 25, 3) := by decide +kernel
theorem dX7_spring_13 : decode cX7_spring 13 = .ok (.aload_n 0, 1) := by decide +kernel
theorem dX7_spring_14 : decode cX7_spring 14 = .ok (.iload_n 2, 1) := by decide +kernel
theorem dX7_spring_15 : decode cX7_spring 15 = .ok (.iconst 0, 1) := by decide +kernel
theorem dX7_spring_16 : decode cX7_spring 16 = .ok (.iconst 4, 1) := by decide +kernel
theorem dX7_spring_17 : decode cX7_spring 17 = .ok (.invokestatic 65, 3) := by decide +kernel
theorem dX7_spring_20 : decode cX7_spring 20 = .ok (.ifCond .ne 7, 3) := by decide +kernel
theorem dX7_spring_23 : decode cX7_spring 23 = .ok (.iconst 1, 1) := by decide +kernel
theorem dX7_spring_24 : decode cX7_spring 24 = .ok (.goto 4, 3) := by decide +kernel
theorem dX7_spring_27 : decode cX7_spring 27 = .ok (.iconst 0, 1) := by decide +kernel
theorem dX7_spring_28 : decode cX7_spring 28 = .ok (.iconst 2, 1) := by decide +kernel
theorem dX7_spring_29 : decode cX7_spring 29 = .ok (.invokevirtual 183, 3) := by decide +kernel
theorem dX7_spring_32 : decode cX7_spring 32 = .ok (.ifCond .eq 7, 3) := by decide +kernel
theorem dX7_spring_35 : decode cX7_spring 35 = .ok (.iconst 0, 1) := by decide +kernel
theorem dX7_spring_36 : decode cX7_spring 36 = .ok (.goto 9, 3) := by decide +kernel
theorem dX7_spring_39 : decode cX7_spring 39 = .ok (.aload_n 0, 1) := by decide +kernel
theorem dX7_spring_40 : decode cX7_spring 40 = .ok (.iload_n 1, 1) := by decide +kernel
theorem dX7_spring_41 : decode cX7_spring 41 = .ok (.iload_n 2, 1) := by decide +kernel
theorem dX7_spring_42 : decode cX7_spring 42 = .ok (.invokevirtual 281, 3) := by decide +kernel
theorem dX7_spring_45 : decode cX7_spring 45 = .ok (.ireturn, 1) := by decide +kernel
theorem dX7_noted_0 : decode cX7_noted 0 = .ok (.aload_n 0, 1) := by decide +kernel
theorem dX7_noted_1 : decode cX7_noted 1 = .ok (.iconst 0, 1) := by decide +kernel
theorem dX7_noted_2 : decode cX7_noted 2 = .ok (.putfield 39, 3) := by decide +kernel
theorem dX7_noted_5 : decode cX7_noted 5 = .ok (.aload_n 0, 1) := by decide +kernel
theorem dX7_noted_6 : decode cX7_noted 6 = .ok (.iload_n 1, 1) := by decide +kernel
theorem dX7_noted_7 : decode cX7_noted 7 = .ok (.iconst 0, 1) := by decide +kernel
theorem dX7_noted_8 : decode cX7_noted 8 = .ok (.aload_n 0, 1) := by decide +kernel
theorem dX7_noted_9 : decode cX7_noted 9 = .ok (.getfield 17, 3) := by decide +kernel
theorem dX7_noted_12 : decode cX7_noted 12 = .ok (.bipush 6, 2) := by decide +kernel
theorem dX7_noted_14 : decode cX7_noted 14 = .ok (.laload, 1) := by decide +kernel
theorem dX7_noted_15 : decode cX7_noted 15 = .ok (.l2i, 1) := by decide +kernel
theorem dX7_noted_16 : decode cX7_noted 16 = .ok (.iconst 1, 1) := by decide +kernel
theorem dX7_noted_17 : decode cX7_noted 17 = .ok (.isub, 1) := by decide +kernel
theorem dX7_noted_18 : decode cX7_noted 18 = .ok (.invokestatic 65, 3) := by decide +kernel
theorem dX7_noted_21 : decode cX7_noted 21 = .ok (.ifCond .ne 7, 3) := by decide +kernel
theorem dX7_noted_24 : decode cX7_noted 24 = .ok (.iconst 1, 1) := by decide +kernel
theorem dX7_noted_25 : decode cX7_noted 25 = .ok (.goto 4, 3) := by decide +kernel
theorem dX7_noted_28 : decode cX7_noted 28 = .ok (.iconst 0, 1) := by decide +kernel
theorem dX7_noted_29 : decode cX7_noted 29 = .ok (.iconst 1, 1) := by decide +kernel
theorem dX7_noted_30 : decode cX7_noted 30 = .ok (.invokevirtual 183, 3) := by decide +kernel
theorem dX7_noted_33 : decode cX7_noted 33 = .ok (.ifCond .ne 25, 3) := by decide +kernel
theorem dX7_noted_36 : decode cX7_noted 36 = .ok (.aload_n 0, 1) := by decide +kernel
theorem dX7_noted_37 : decode cX7_noted 37 = .ok (.iload_n 2, 1) := by decide +kernel
theorem dX7_noted_38 : decode cX7_noted 38 = .ok (.iconst 0, 1) := by decide +kernel
theorem dX7_noted_39 : decode cX7_noted 39 = .ok (.iconst 1, 1) := by decide +kernel
theorem dX7_noted_40 : decode cX7_noted 40 = .ok (.invokestatic 65, 3) := by decide +kernel
theorem dX7_noted_43 : decode cX7_noted 43 = .ok (.ifCond .ne 7, 3) := by decide +kernel
theorem dX7_noted_46 : decode cX7_noted 46 = .ok (.iconst 1, 1) := by decide +kernel
theorem dX7_noted_47 : decode cX7_noted 47 = .ok (.goto 4, 3) := by decide +kernel
theorem dX7_noted_50 : decode cX7_noted 50 = .ok (.iconst 0, 1) := by decide +kernel
theorem dX7_noted_51 : decode cX7_noted 51 = .ok (.iconst 2, 1) := by decide +kernel
theorem dX7_noted_52 : decode cX7_noted 52 = .ok (.invokevirtual 183, 3) := by decide +kernel
theorem dX7_noted_55 : decode cX7_noted 55 = .ok (.ifCond .eq 7, 3) := by decide +kernel
theorem dX7_noted_58 : decode cX7_noted 58 = .ok (.iconst 0, 1) := by decide +kernel
theorem dX7_noted_59 : decode cX7_noted 59 = .ok (.goto 18, 3) := by decide +kernel
theorem dX7_noted_62 : decode cX7_noted 62 = .ok (.aload_n 0, 1) := by decide +kernel
theorem dX7_noted_63 : decode cX7_noted 63 = .ok (.getfield 17, 3) := by decide +kernel
theorem dX7_noted_66 : decode cX7_noted 66 = .ok (.sipush 135, 3) := by decide +kernel
theorem dX7_noted_69 : decode cX7_noted 69 = .ok (.iconst 2, 1) := by decide +kernel
theorem dX7_noted_70 : decode cX7_noted 70 = .ok (.iload_n 1, 1) := by decide +kernel
theorem dX7_noted_71 : decode cX7_noted 71 = .ok (.imul, 1) := by decide +kernel
theorem dX7_noted_72 : decode cX7_noted 72 = .ok (.iadd, 1) := by decide +kernel
theorem dX7_noted_73 : decode cX7_noted 73 = .ok (.iload_n 2, 1) := by decide +kernel
theorem dX7_noted_74 : decode cX7_noted 74 = .ok (.iadd, 1) := by decide +kernel
theorem dX7_noted_75 : decode cX7_noted 75 = .ok (.laload, 1) := by decide +kernel
theorem dX7_noted_76 : decode cX7_noted 76 = .ok (.l2i, 1) := by decide +kernel
theorem dX7_noted_77 : decode cX7_noted 77 = .ok (.ireturn, 1) := by decide +kernel
theorem dX7_isAhead_0 : decode cX7_isAhead 0 = .ok (.bipush 87, 2) := by decide +kernel
theorem dX7_isAhead_2 : decode cX7_isAhead 2 = .ok (.iconst 3, 1) := by decide +kernel
theorem dX7_isAhead_3 : decode cX7_isAhead 3 = .ok (.iload_n 1, 1) := by decide +kernel
theorem dX7_isAhead_4 : decode cX7_isAhead 4 = .ok (.imul, 1) := by decide +kernel
theorem dX7_isAhead_5 : decode cX7_isAhead 5 = .ok (.iadd, 1) := by decide +kernel
theorem dX7_isAhead_6 : decode cX7_isAhead 6 = .ok (.istore_n 3, 1) := by decide +kernel
theorem dX7_isAhead_7 : decode cX7_isAhead 7 = .ok (.bipush 87, 2) := by decide +kernel
theorem dX7_isAhead_9 : decode cX7_isAhead 9 = .ok (.iconst 3, 1) := by decide +kernel
theorem dX7_isAhead_10 : decode cX7_isAhead 10 = .ok (.iload_n 2, 1) := by decide +kernel
theorem dX7_isAhead_11 : decode cX7_isAhead 11 = .ok (.imul, 1) := by decide +kernel
theorem dX7_isAhead_12 : decode cX7_isAhead 12 = .ok (.iadd, 1) := by decide +kernel
theorem dX7_isAhead_13 : decode cX7_isAhead 13 = .ok (.istore 4, 2) := by decide +kernel
theorem dX7_isAhead_15 : decode cX7_isAhead 15 = .ok (.aload_n 0, 1) := by decide +kernel
theorem dX7_isAhead_16 : decode cX7_isAhead 16 = .ok (.getfield 17, 3) := by decide +kernel
theorem dX7_isAhead_19 : decode cX7_isAhead 19 = .ok (.iload_n 3, 1) := by decide +kernel
theorem dX7_isAhead_20 : decode cX7_isAhead 20 = .ok (.laload, 1) := by decide +kernel
theorem dX7_isAhead_21 : decode cX7_isAhead 21 = .ok (.aload_n 0, 1) := by decide +kernel
theorem dX7_isAhead_22 : decode cX7_isAhead 22 = .ok (.getfield 17, 3) := by decide +kernel
theorem dX7_isAhead_25 : decode cX7_isAhead 25 = .ok (.iload 4, 2) := by decide +kernel
theorem dX7_isAhead_27 : decode cX7_isAhead 27 = .ok (.laload, 1) := by decide +kernel
theorem dX7_isAhead_28 : decode cX7_isAhead 28 = .ok (.lcmp, 1) := by decide +kernel
theorem dX7_isAhead_29 : decode cX7_isAhead 29 = .ok (.ifCond .eq 28, 3) := by decide +kernel
theorem dX7_isAhead_32 : decode cX7_isAhead 32 = .ok (.aload_n 0, 1) := by decide +kernel
theorem dX7_isAhead_33 : decode cX7_isAhead 33 = .ok (.getfield 17, 3) := by decide +kernel
theorem dX7_isAhead_36 : decode cX7_isAhead 36 = .ok (.iload_n 3, 1) := by decide +kernel
theorem dX7_isAhead_37 : decode cX7_isAhead 37 = .ok (.laload, 1) := by decide +kernel
theorem dX7_isAhead_38 : decode cX7_isAhead 38 = .ok (.aload_n 0, 1) := by decide +kernel
theorem dX7_isAhead_39 : decode cX7_isAhead 39 = .ok (.getfield 17, 3) := by decide +kernel
theorem dX7_isAhead_42 : decode cX7_isAhead 42 = .ok (.iload 4, 2) := by decide +kernel
theorem dX7_isAhead_44 : decode cX7_isAhead 44 = .ok (.laload, 1) := by decide +kernel
theorem dX7_isAhead_45 : decode cX7_isAhead 45 = .ok (.lcmp, 1) := by decide +kernel
theorem dX7_isAhead_46 : decode cX7_isAhead 46 = .ok (.ifCond .ge 7, 3) := by decide +kernel
theorem dX7_isAhead_49 : decode cX7_isAhead 49 = .ok (.iconst 1, 1) := by decide +kernel
theorem dX7_isAhead_50 : decode cX7_isAhead 50 = .ok (.goto 67, 3) := by decide +kernel
theorem dX7_isAhead_53 : decode cX7_isAhead 53 = .ok (.iconst 0, 1) := by decide +kernel
theorem dX7_isAhead_54 : decode cX7_isAhead 54 = .ok (.goto 63, 3) := by decide +kernel
theorem dX7_isAhead_57 : decode cX7_isAhead 57 = .ok (.aload_n 0, 1) := by decide +kernel
theorem dX7_isAhead_58 : decode cX7_isAhead 58 = .ok (.getfield 17, 3) := by decide +kernel
theorem dX7_isAhead_61 : decode cX7_isAhead 61 = .ok (.iload_n 3, 1) := by decide +kernel
theorem dX7_isAhead_62 : decode cX7_isAhead 62 = .ok (.iconst 1, 1) := by decide +kernel
theorem dX7_isAhead_63 : decode cX7_isAhead 63 = .ok (.iadd, 1) := by decide +kernel
theorem dX7_isAhead_64 : decode cX7_isAhead 64 = .ok (.laload, 1) := by decide +kernel
theorem dX7_isAhead_65 : decode cX7_isAhead 65 = .ok (.aload_n 0, 1) := by decide +kernel
theorem dX7_isAhead_66 : decode cX7_isAhead 66 = .ok (.getfield 17, 3) := by decide +kernel
theorem dX7_isAhead_69 : decode cX7_isAhead 69 = .ok (.iload 4, 2) := by decide +kernel
theorem dX7_isAhead_71 : decode cX7_isAhead 71 = .ok (.iconst 1, 1) := by decide +kernel
theorem dX7_isAhead_72 : decode cX7_isAhead 72 = .ok (.iadd, 1) := by decide +kernel
theorem dX7_isAhead_73 : decode cX7_isAhead 73 = .ok (.laload, 1) := by decide +kernel
theorem dX7_isAhead_74 : decode cX7_isAhead 74 = .ok (.lcmp, 1) := by decide +kernel
theorem dX7_isAhead_75 : decode cX7_isAhead 75 = .ok (.ifCond .eq 32, 3) := by decide +kernel
theorem dX7_isAhead_78 : decode cX7_isAhead 78 = .ok (.aload_n 0, 1) := by decide +kernel
theorem dX7_isAhead_79 : decode cX7_isAhead 79 = .ok (.getfield 17, 3) := by decide +kernel
theorem dX7_isAhead_82 : decode cX7_isAhead 82 = .ok (.iload_n 3, 1) := by decide +kernel
theorem dX7_isAhead_83 : decode cX7_isAhead 83 = .ok (.iconst 1, 1) := by decide +kernel
theorem dX7_isAhead_84 : decode cX7_isAhead 84 = .ok (.iadd, 1) := by decide +kernel
theorem dX7_isAhead_85 : decode cX7_isAhead 85 = .ok (.laload, 1) := by decide +kernel
theorem dX7_isAhead_86 : decode cX7_isAhead 86 = .ok (.aload_n 0, 1) := by decide +kernel
theorem dX7_isAhead_87 : decode cX7_isAhead 87 = .ok (.getfield 17, 3) := by decide +kernel
theorem dX7_isAhead_90 : decode cX7_isAhead 90 = .ok (.iload 4, 2) := by decide +kernel
theorem dX7_isAhead_92 : decode cX7_isAhead 92 = .ok (.iconst 1, 1) := by decide +kernel
theorem dX7_isAhead_93 : decode cX7_isAhead 93 = .ok (.iadd, 1) := by decide +kernel
theorem dX7_isAhead_94 : decode cX7_isAhead 94 = .ok (.laload, 1) := by decide +kernel
theorem dX7_isAhead_95 : decode cX7_isAhead 95 = .ok (.lcmp, 1) := by decide +kernel
theorem dX7_isAhead_96 : decode cX7_isAhead 96 = .ok (.ifCond .ge 7, 3) := by decide +kernel
theorem dX7_isAhead_99 : decode cX7_isAhead 99 = .ok (.iconst 1, 1) := by decide +kernel
theorem dX7_isAhead_100 : decode cX7_isAhead 100 = .ok (.goto 17, 3) := by decide +kernel
theorem dX7_isAhead_103 : decode cX7_isAhead 103 = .ok (.iconst 0, 1) := by decide +kernel
theorem dX7_isAhead_104 : decode cX7_isAhead 104 = .ok (.goto 13, 3) := by decide +kernel
theorem dX7_isAhead_107 : decode cX7_isAhead 107 = .ok (.iload_n 1, 1) := by decide +kernel
theorem dX7_isAhead_108 : decode cX7_isAhead 108 = .ok (.iload_n 2, 1) := by decide +kernel
theorem dX7_isAhead_109 : decode cX7_isAhead 109 = .ok (.if_icmp .ge 7, 3) := by decide +kernel
theorem dX7_isAhead_112 : decode cX7_isAhead 112 = .ok (.iconst 1, 1) := by decide +kernel
theorem dX7_isAhead_113 : decode cX7_isAhead 113 = .ok (.goto 4, 3) := by decide +kernel
theorem dX7_isAhead_116 : decode cX7_isAhead 116 = .ok (.iconst 0, 1) := by decide +kernel
theorem dX7_isAhead_117 : decode cX7_isAhead 117 = .ok (.ireturn, 1) := by decide +kernel
theorem dX7_waiting_0 : decode cX7_waiting 0 = .ok (.aload_n 0, 1) := by decide +kernel
theorem dX7_waiting_1 : decode cX7_waiting 1 = .ok (.iconst 0, 1) := by decide +kernel
theorem dX7_waiting_2 : decode cX7_waiting 2 = .ok (.putfield 39, 3) := by decide +kernel
theorem dX7_waiting_5 : decode cX7_waiting 5 = .ok (.aload_n 0, 1) := by decide +kernel
theorem dX7_waiting_6 : decode cX7_waiting 6 = .ok (.getfield 17, 3) := by decide +kernel
theorem dX7_waiting_9 : decode cX7_waiting 9 = .ok (.iconst 5, 1) := by decide +kernel
theorem dX7_waiting_10 : decode cX7_waiting 10 = .ok (.laload, 1) := by decide +kernel
theorem dX7_waiting_11 : decode cX7_waiting 11 = .ok (.l2i, 1) := by decide +kernel
theorem dX7_waiting_12 : decode cX7_waiting 12 = .ok (.istore_n 3, 1) := by decide +kernel
theorem dX7_waiting_13 : decode cX7_waiting 13 = .ok (.aload_n 0, 1) := by decide +kernel
theorem dX7_waiting_14 : decode cX7_waiting 14 = .ok (.iload_n 1, 1) := by decide +kernel
theorem dX7_waiting_15 : decode cX7_waiting 15 = .ok (.iconst 0, 1) := by decide +kernel
theorem dX7_waiting_16 : decode cX7_waiting 16 = .ok (.iload_n 3, 1) := by decide +kernel
theorem dX7_waiting_17 : decode cX7_waiting 17 = .ok (.iconst 1, 1) := by decide +kernel
theorem dX7_waiting_18 : decode cX7_waiting 18 = .ok (.isub, 1) := by decide +kernel
theorem dX7_waiting_19 : decode cX7_waiting 19 = .ok (.invokestatic 65, 3) := by decide +kernel
theorem dX7_waiting_22 : decode cX7_waiting 22 = .ok (.ifCond .ne 7, 3) := by decide +kernel
theorem dX7_waiting_25 : decode cX7_waiting 25 = .ok (.iconst 1, 1) := by decide +kernel
theorem dX7_waiting_26 : decode cX7_waiting 26 = .ok (.goto 4, 3) := by decide +kernel
theorem dX7_waiting_29 : decode cX7_waiting 29 = .ok (.iconst 0, 1) := by decide +kernel
theorem dX7_waiting_30 : decode cX7_waiting 30 = .ok (.iconst 1, 1) := by decide +kernel
theorem dX7_waiting_31 : decode cX7_waiting 31 = .ok (.invokevirtual 183, 3) := by decide +kernel
theorem dX7_waiting_34 : decode cX7_waiting 34 = .ok (.ifCond .ne 25, 3) := by decide +kernel
theorem dX7_waiting_37 : decode cX7_waiting 37 = .ok (.aload_n 0, 1) := by decide +kernel
theorem dX7_waiting_38 : decode cX7_waiting 38 = .ok (.iload_n 2, 1) := by decide +kernel
theorem dX7_waiting_39 : decode cX7_waiting 39 = .ok (.iconst 0, 1) := by decide +kernel
theorem dX7_waiting_40 : decode cX7_waiting 40 = .ok (.iconst 2, 1) := by decide +kernel
theorem dX7_waiting_41 : decode cX7_waiting 41 = .ok (.invokestatic 65, 3) := by decide +kernel
theorem dX7_waiting_44 : decode cX7_waiting 44 = .ok (.ifCond .ne 7, 3) := by decide +kernel
theorem dX7_waiting_47 : decode cX7_waiting 47 = .ok (.iconst 1, 1) := by decide +kernel
theorem dX7_waiting_48 : decode cX7_waiting 48 = .ok (.goto 4, 3) := by decide +kernel
theorem dX7_waiting_51 : decode cX7_waiting 51 = .ok (.iconst 0, 1) := by decide +kernel
theorem dX7_waiting_52 : decode cX7_waiting 52 = .ok (.iconst 2, 1) := by decide +kernel
theorem dX7_waiting_53 : decode cX7_waiting 53 = .ok (.invokevirtual 183, 3) := by decide +kernel
theorem dX7_waiting_56 : decode cX7_waiting 56 = .ok (.ifCond .eq 5, 3) := by decide +kernel
theorem dX7_waiting_59 : decode cX7_waiting 59 = .ok (.iconst 0, 1) := by decide +kernel
theorem dX7_waiting_60 : decode cX7_waiting 60 = .ok (.ireturn, 1) := by decide +kernel
theorem dX7_waiting_61 : decode cX7_waiting 61 = .ok (.iconst 0, 1) := by decide +kernel
theorem dX7_waiting_62 : decode cX7_waiting 62 = .ok (.istore 4, 2) := by decide +kernel
theorem dX7_waiting_64 : decode cX7_waiting 64 = .ok (.iload 4, 2) := by decide +kernel
theorem dX7_waiting_66 : decode cX7_waiting 66 = .ok (.iload_n 3, 1) := by decide +kernel
theorem dX7_waiting_67 : decode cX7_waiting 67 = .ok (.if_icmp .ge 70, 3) := by decide +kernel
theorem dX7_waiting_70 : decode cX7_waiting 70 = .ok (.iconst 0, 1) := by decide +kernel
theorem dX7_waiting_71 : decode cX7_waiting 71 = .ok (.istore 5, 2) := by decide +kernel
theorem dX7_waiting_73 : decode cX7_waiting 73 = .ok (.iconst 0, 1) := by decide +kernel
theorem dX7_waiting_74 : decode cX7_waiting 74 = .ok (.istore 6, 2) := by decide +kernel
theorem dX7_waiting_76 : decode cX7_waiting 76 = .ok (.iload 6, 2) := by decide +kernel
theorem dX7_waiting_78 : decode cX7_waiting 78 = .ok (.iload_n 3, 1) := by decide +kernel
theorem dX7_waiting_79 : decode cX7_waiting 79 = .ok (.if_icmp .ge 30, 3) := by decide +kernel
theorem dX7_waiting_82 : decode cX7_waiting 82 = .ok (.iload 5, 2) := by decide +kernel
theorem dX7_waiting_84 : decode cX7_waiting 84 = .ok (.aload_n 0, 1) := by decide +kernel
theorem dX7_waiting_85 : decode cX7_waiting 85 = .ok (.iload 6, 2) := by decide +kernel
theorem dX7_waiting_87 : decode cX7_waiting 87 = .ok (.iload 4, 2) := by decide +kernel
theorem dX7_waiting_89 : decode cX7_waiting 89 = .ok (.invokevirtual 284, 3) := by decide +kernel
theorem dX7_waiting_92 : decode cX7_waiting 92 = .ok (.ifCond .eq 7, 3) := by decide +kernel
theorem dX7_waiting_95 : decode cX7_waiting 95 = .ok (.iconst 1, 1) := by decide +kernel
theorem dX7_waiting_96 : decode cX7_waiting 96 = .ok (.goto 4, 3) := by decide +kernel
theorem dX7_waiting_99 : decode cX7_waiting 99 = .ok (.iconst 0, 1) := by decide +kernel
theorem dX7_waiting_100 : decode cX7_waiting 100 = .ok (.iadd, 1) := by decide +kernel
theorem dX7_waiting_101 : decode cX7_waiting 101 = .ok (.istore 5, 2) := by decide +kernel
theorem dX7_waiting_103 : decode cX7_waiting 103 = .ok (.iinc 6 1, 3) := by decide +kernel
theorem dX7_waiting_106 : decode cX7_waiting 106 = .ok (.goto (-30), 3) := by decide +kernel
theorem dX7_waiting_109 : decode cX7_waiting 109 = .ok (.iload 5, 2) := by decide +kernel
theorem dX7_waiting_111 : decode cX7_waiting 111 = .ok (.iload_n 1, 1) := by decide +kernel
theorem dX7_waiting_112 : decode cX7_waiting 112 = .ok (.if_icmp .ne 19, 3) := by decide +kernel
theorem dX7_waiting_115 : decode cX7_waiting 115 = .ok (.aload_n 0, 1) := by decide +kernel
theorem dX7_waiting_116 : decode cX7_waiting 116 = .ok (.getfield 17, 3) := by decide +kernel
theorem dX7_waiting_119 : decode cX7_waiting 119 = .ok (.bipush 87, 2) := by decide +kernel
theorem dX7_waiting_121 : decode cX7_waiting 121 = .ok (.iconst 3, 1) := by decide +kernel
theorem dX7_waiting_122 : decode cX7_waiting 122 = .ok (.iload 4, 2) := by decide +kernel
theorem dX7_waiting_124 : decode cX7_waiting 124 = .ok (.imul, 1) := by decide +kernel
theorem dX7_waiting_125 : decode cX7_waiting 125 = .ok (.iadd, 1) := by decide +kernel
theorem dX7_waiting_126 : decode cX7_waiting 126 = .ok (.iload_n 2, 1) := by decide +kernel
theorem dX7_waiting_127 : decode cX7_waiting 127 = .ok (.iadd, 1) := by decide +kernel
theorem dX7_waiting_128 : decode cX7_waiting 128 = .ok (.laload, 1) := by decide +kernel
theorem dX7_waiting_129 : decode cX7_waiting 129 = .ok (.l2i, 1) := by decide +kernel
theorem dX7_waiting_130 : decode cX7_waiting 130 = .ok (.ireturn, 1) := by decide +kernel
theorem dX7_waiting_131 : decode cX7_waiting 131 = .ok (.iinc 4 1, 3) := by decide +kernel
theorem dX7_waiting_134 : decode cX7_waiting 134 = .ok (.goto (-70), 3) := by decide +kernel
theorem dX7_waiting_137 : decode cX7_waiting 137 = .ok (.iconst (-1), 1) := by decide +kernel
theorem dX7_waiting_138 : decode cX7_waiting 138 = .ok (.ireturn, 1) := by decide +kernel
theorem dX7_foretold_0 : decode cX7_foretold 0 = .ok (.aload_n 0, 1) := by decide +kernel
theorem dX7_foretold_1 : decode cX7_foretold 1 = .ok (.iconst 0, 1) := by decide +kernel
theorem dX7_foretold_2 : decode cX7_foretold 2 = .ok (.putfield 39, 3) := by decide +kernel
theorem dX7_foretold_5 : decode cX7_foretold 5 = .ok (.aload_n 0, 1) := by decide +kernel
theorem dX7_foretold_6 : decode cX7_foretold 6 = .ok (.iload_n 2, 1) := by decide +kernel
theorem dX7_foretold_7 : decode cX7_foretold 7 = .ok (.invokevirtual 272, 3) := by decide +kernel
theorem dX7_foretold_10 : decode cX7_foretold 10 = .ok (.ifCond .ne 36, 3) := by decide +kernel
theorem dX7_foretold_13 : decode cX7_foretold 13 = .ok (.aload_n 0, 1) := by decide +kernel
theorem dX7_foretold_14 : decode cX7_foretold 14 = .ok (.iload_n 1, 1) := by decide +kernel
theorem dX7_foretold_15 : decode cX7_foretold 15 = .ok (.iconst 1, 1) := by decide +kernel
theorem dX7_foretold_16 : decode cX7_foretold 16 = .ok (.sipush 200, 3) := by decide +kernel
theorem dX7_foretold_19 : decode cX7_foretold 19 = .ok (.invokestatic 65, 3) := by decide +kernel
theorem dX7_foretold_22 : decode cX7_foretold 22 = .ok (.ifCond .eq 12, 3) := by decide +kernel
theorem dX7_foretold_25 : decode cX7_foretold 25 = .ok (.iload_n 3, 1) := by decide +kernel
theorem dX7_foretold_26 : decode cX7_foretold 26 = .ok (.iconst 0, 1) := by decide +kernel
theorem dX7_foretold_27 : decode cX7_foretold 27 = .ok (.iconst 4, 1) := by decide +kernel
theorem dX7_foretold_28 : decode cX7_foretold 28 = .ok (.invokestatic 65, 3) := by decide +kernel
theorem dX7_foretold_31 : decode cX7_foretold 31 = .ok (.ifCond .ne 7, 3) := by decide +kernel
theorem dX7_foretold_34 : decode cX7_foretold 34 = .ok (.iconst 1, 1) := by decide +kernel
theorem dX7_foretold_35 : decode cX7_foretold 35 = .ok (.goto 4, 3) := by decide +kernel
theorem dX7_foretold_38 : decode cX7_foretold 38 = .ok (.iconst 0, 1) := by decide +kernel
theorem dX7_foretold_39 : decode cX7_foretold 39 = .ok (.iconst 2, 1) := by decide +kernel
theorem dX7_foretold_40 : decode cX7_foretold 40 = .ok (.invokevirtual 183, 3) := by decide +kernel
theorem dX7_foretold_43 : decode cX7_foretold 43 = .ok (.ifCond .eq 5, 3) := by decide +kernel
theorem dX7_foretold_46 : decode cX7_foretold 46 = .ok (.iconst 0, 1) := by decide +kernel
theorem dX7_foretold_47 : decode cX7_foretold 47 = .ok (.ireturn, 1) := by decide +kernel
theorem dX7_foretold_48 : decode cX7_foretold 48 = .ok (.aload_n 0, 1) := by decide +kernel
theorem dX7_foretold_49 : decode cX7_foretold 49 = .ok (.getfield 17, 3) := by decide +kernel
theorem dX7_foretold_52 : decode cX7_foretold 52 = .ok (.aload_n 0, 1) := by decide +kernel
theorem dX7_foretold_53 : decode cX7_foretold 53 = .ok (.getfield 24, 3) := by decide +kernel
theorem dX7_foretold_56 : decode cX7_foretold 56 = .ok (.invokestatic 195, 3) := by decide +kernel
theorem dX7_foretold_59 : decode cX7_foretold 59 = .ok (.lconst 0, 1) := by decide +kernel
theorem dX7_foretold_60 : decode cX7_foretold 60 = .ok (.lstore 4, 2) := by decide +kernel
theorem dX7_foretold_62 : decode cX7_foretold 62 = .ok (.iconst 0, 1) := by decide +kernel
theorem dX7_foretold_63 : decode cX7_foretold 63 = .ok (.istore 6, 2) := by decide +kernel
theorem dX7_foretold_65 : decode cX7_foretold 65 = .ok (.iload 6, 2) := by decide +kernel
theorem dX7_foretold_67 : decode cX7_foretold 67 = .ok (.iload_n 1, 1) := by decide +kernel
theorem dX7_foretold_68 : decode cX7_foretold 68 = .ok (.if_icmp .ge 31, 3) := by decide +kernel
theorem dX7_foretold_71 : decode cX7_foretold 71 = .ok (.aload_n 0, 1) := by decide +kernel
theorem dX7_foretold_72 : decode cX7_foretold 72 = .ok (.invokevirtual 288, 3) := by decide +kernel
theorem dX7_foretold_75 : decode cX7_foretold 75 = .ok (.istore 7, 2) := by decide +kernel
theorem dX7_foretold_77 : decode cX7_foretold 77 = .ok (.lload 4, 2) := by decide +kernel
theorem dX7_foretold_79 : decode cX7_foretold 79 = .ok (.aload_n 0, 1) := by decide +kernel
theorem dX7_foretold_80 : decode cX7_foretold 80 = .ok (.iload_n 2, 1) := by decide +kernel
theorem dX7_foretold_81 : decode cX7_foretold 81 = .ok (.iconst 1, 1) := by decide +kernel
theorem dX7_foretold_82 : decode cX7_foretold 82 = .ok (.invokevirtual 201, 3) := by decide +kernel
theorem dX7_foretold_85 : decode cX7_foretold 85 = .ok (.invokestatic 241, 3) := by decide +kernel
theorem dX7_foretold_88 : decode cX7_foretold 88 = .ok (.invokestatic 291, 3) := by decide +kernel
theorem dX7_foretold_91 : decode cX7_foretold 91 = .ok (.lstore 4, 2) := by decide +kernel
theorem dX7_foretold_93 : decode cX7_foretold 93 = .ok (.iinc 6 1, 3) := by decide +kernel
theorem dX7_foretold_96 : decode cX7_foretold 96 = .ok (.goto (-31), 3) := by decide +kernel
theorem dX7_foretold_99 : decode cX7_foretold 99 = .ok (.iload_n 3, 1) := by decide +kernel
theorem dX7_foretold_100 : decode cX7_foretold 100 = .ok (.ifCond .ne 12, 3) := by decide +kernel
theorem dX7_foretold_103 : decode cX7_foretold 103 = .ok (.aload_n 0, 1) := by decide +kernel
theorem dX7_foretold_104 : decode cX7_foretold 104 = .ok (.iload_n 2, 1) := by decide +kernel
theorem dX7_foretold_105 : decode cX7_foretold 105 = .ok (.iconst 1, 1) := by decide +kernel
theorem dX7_foretold_106 : decode cX7_foretold 106 = .ok (.invokevirtual 201, 3) := by decide +kernel
theorem dX7_foretold_109 : decode cX7_foretold 109 = .ok (.goto 45, 3) := by decide +kernel
theorem dX7_foretold_112 : decode cX7_foretold 112 = .ok (.iload_n 3, 1) := by decide +kernel
theorem dX7_foretold_113 : decode cX7_foretold 113 = .ok (.iconst 1, 1) := by decide +kernel
theorem dX7_foretold_114 : decode cX7_foretold 114 = .ok (.if_icmp .ne 12, 3) := by decide +kernel
theorem dX7_foretold_117 : decode cX7_foretold 117 = .ok (.aload_n 0, 1) := by decide +kernel
theorem dX7_foretold_118 : decode cX7_foretold 118 = .ok (.iload_n 2, 1) := by decide +kernel
theorem dX7_foretold_119 : decode cX7_foretold 119 = .ok (.iconst 2, 1) := by decide +kernel
theorem dX7_foretold_120 : decode cX7_foretold 120 = .ok (.invokevirtual 201, 3) := by decide +kernel
theorem dX7_foretold_123 : decode cX7_foretold 123 = .ok (.goto 31, 3) := by decide +kernel
theorem dX7_foretold_126 : decode cX7_foretold 126 = .ok (.iload_n 3, 1) := by decide +kernel
theorem dX7_foretold_127 : decode cX7_foretold 127 = .ok (.iconst 2, 1) := by decide +kernel
theorem dX7_foretold_128 : decode cX7_foretold 128 = .ok (.if_icmp .ne 8, 3) := by decide +kernel
theorem dX7_foretold_131 : decode cX7_foretold 131 = .ok (.lload 4, 2) := by decide +kernel
theorem dX7_foretold_133 : decode cX7_foretold 133 = .ok (.goto 21, 3) := by decide +kernel
theorem dX7_foretold_136 : decode cX7_foretold 136 = .ok (.iload_n 3, 1) := by decide +kernel
theorem dX7_foretold_137 : decode cX7_foretold 137 = .ok (.iconst 3, 1) := by decide +kernel
theorem dX7_foretold_138 : decode cX7_foretold 138 = .ok (.if_icmp .ne 11, 3) := by decide +kernel
theorem dX7_foretold_141 : decode cX7_foretold 141 = .ok (.aload_n 0, 1) := by decide +kernel
theorem dX7_foretold_142 : decode cX7_foretold 142 = .ok (.invokevirtual 250, 3) := by decide +kernel
theorem dX7_foretold_145 : decode cX7_foretold 145 = .ok (.i2l, 1) := by decide +kernel
theorem dX7_foretold_146 : decode cX7_foretold 146 = .ok (.goto 8, 3) := by decide +kernel
theorem dX7_foretold_149 : decode cX7_foretold 149 = .ok (.aload_n 0, 1) := by decide +kernel
theorem dX7_foretold_150 : decode cX7_foretold 150 = .ok (.invokevirtual 253, 3) := by decide +kernel
theorem dX7_foretold_153 : decode cX7_foretold 153 = .ok (.i2l, 1) := by decide +kernel
theorem dX7_foretold_154 : decode cX7_foretold 154 = .ok (.lstore 6, 2) := by decide +kernel
theorem dX7_foretold_156 : decode cX7_foretold 156 = .ok (.aload_n 0, 1) := by decide +kernel
theorem dX7_foretold_157 : decode cX7_foretold 157 = .ok (.getfield 24, 3) := by decide +kernel
theorem dX7_foretold_160 : decode cX7_foretold 160 = .ok (.aload_n 0, 1) := by decide +kernel
theorem dX7_foretold_161 : decode cX7_foretold 161 = .ok (.getfield 17, 3) := by decide +kernel
theorem dX7_foretold_164 : decode cX7_foretold 164 = .ok (.invokestatic 195, 3) := by decide +kernel
theorem dX7_foretold_167 : decode cX7_foretold 167 = .ok (.lload 6, 2) := by decide +kernel
theorem dX7_foretold_169 : decode cX7_foretold 169 = .ok (.l2i, 1) := by decide +kernel
theorem dX7_foretold_170 : decode cX7_foretold 170 = .ok (.ireturn, 1) := by decide +kernel
theorem dX7_period_0 : decode cX7_period 0 = .ok (.aload_n 0, 1) := by decide +kernel
theorem dX7_period_1 : decode cX7_period 1 = .ok (.iconst 0, 1) := by decide +kernel
theorem dX7_period_2 : decode cX7_period 2 = .ok (.putfield 39, 3) := by decide +kernel
theorem dX7_period_5 : decode cX7_period 5 = .ok (.aload_n 0, 1) := by decide +kernel
theorem dX7_period_6 : decode cX7_period 6 = .ok (.iload_n 1, 1) := by decide +kernel
theorem dX7_period_7 : decode cX7_period 7 = .ok (.invokevirtual 272, 3) := by decide +kernel
theorem dX7_period_10 : decode cX7_period 10 = .ok (.ifCond .ne 27, 3) := by decide +kernel
theorem dX7_period_13 : decode cX7_period 13 = .ok (.aload_n 0, 1) := by decide +kernel
theorem dX7_period_14 : decode cX7_period 14 = .ok (.iload_n 2, 1) := by decide +kernel
theorem dX7_period_15 : decode cX7_period 15 = .ok (.iconst 1, 1) := by decide +kernel
theorem dX7_period_16 : decode cX7_period 16 = .ok (.sipush 300, 3) := by decide +kernel
theorem dX7_period_19 : decode cX7_period 19 = .ok (.invokestatic 65, 3) := by decide +kernel
theorem dX7_period_22 : decode cX7_period 22 = .ok (.ifCond .ne 7, 3) := by decide +kernel
theorem dX7_period_25 : decode cX7_period 25 = .ok (.iconst 1, 1) := by decide +kernel
theorem dX7_period_26 : decode cX7_period 26 = .ok (.goto 4, 3) := by decide +kernel
theorem dX7_period_29 : decode cX7_period 29 = .ok (.iconst 0, 1) := by decide +kernel
theorem dX7_period_30 : decode cX7_period 30 = .ok (.iconst 2, 1) := by decide +kernel
theorem dX7_period_31 : decode cX7_period 31 = .ok (.invokevirtual 183, 3) := by decide +kernel
theorem dX7_period_34 : decode cX7_period 34 = .ok (.ifCond .eq 5, 3) := by decide +kernel
theorem dX7_period_37 : decode cX7_period 37 = .ok (.iconst 0, 1) := by decide +kernel
theorem dX7_period_38 : decode cX7_period 38 = .ok (.ireturn, 1) := by decide +kernel
theorem dX7_period_39 : decode cX7_period 39 = .ok (.aload_n 0, 1) := by decide +kernel
theorem dX7_period_40 : decode cX7_period 40 = .ok (.getfield 17, 3) := by decide +kernel
theorem dX7_period_43 : decode cX7_period 43 = .ok (.aload_n 0, 1) := by decide +kernel
theorem dX7_period_44 : decode cX7_period 44 = .ok (.getfield 24, 3) := by decide +kernel
theorem dX7_period_47 : decode cX7_period 47 = .ok (.invokestatic 195, 3) := by decide +kernel
theorem dX7_period_50 : decode cX7_period 50 = .ok (.iconst (-1), 1) := by decide +kernel
theorem dX7_period_51 : decode cX7_period 51 = .ok (.istore_n 3, 1) := by decide +kernel
theorem dX7_period_52 : decode cX7_period 52 = .ok (.iconst (-1), 1) := by decide +kernel
theorem dX7_period_53 : decode cX7_period 53 = .ok (.istore 4, 2) := by decide +kernel
theorem dX7_period_55 : decode cX7_period 55 = .ok (.iconst 1, 1) := by decide +kernel
theorem dX7_period_56 : decode cX7_period 56 = .ok (.istore 5, 2) := by decide +kernel
theorem dX7_period_58 : decode cX7_period 58 = .ok (.iload 5, 2) := by decide +kernel
theorem dX7_period_60 : decode cX7_period 60 = .ok (.iload_n 2, 1) := by decide +kernel
theorem dX7_period_61 : decode cX7_period 61 = .ok (.if_icmp .gt 64, 3) := by decide +kernel
theorem dX7_period_64 : decode cX7_period 64 = .ok (.iload 4, 2) := by decide +kernel
theorem dX7_period_66 : decode cX7_period 66 = .ok (.iconst (-1), 1) := by decide +kernel
theorem dX7_period_67 : decode cX7_period 67 = .ok (.if_icmp .ne 58, 3) := by decide +kernel
theorem dX7_period_70 : decode cX7_period 70 = .ok (.aload_n 0, 1) := by decide +kernel
theorem dX7_period_71 : decode cX7_period 71 = .ok (.iload_n 1, 1) := by decide +kernel
theorem dX7_period_72 : decode cX7_period 72 = .ok (.iconst 1, 1) := by decide +kernel
theorem dX7_period_73 : decode cX7_period 73 = .ok (.invokevirtual 201, 3) := by decide +kernel
theorem dX7_period_76 : decode cX7_period 76 = .ok (.lstore 6, 2) := by decide +kernel
theorem dX7_period_78 : decode cX7_period 78 = .ok (.aload_n 0, 1) := by decide +kernel
theorem dX7_period_79 : decode cX7_period 79 = .ok (.invokevirtual 288, 3) := by decide +kernel
theorem dX7_period_82 : decode cX7_period 82 = .ok (.istore 8, 2) := by decide +kernel
theorem dX7_period_84 : decode cX7_period 84 = .ok (.lload 6, 2) := by decide +kernel
theorem dX7_period_86 : decode cX7_period 86 = .ok (.lconst 0, 1) := by decide +kernel
theorem dX7_period_87 : decode cX7_period 87 = .ok (.lcmp, 1) := by decide +kernel
theorem dX7_period_88 : decode cX7_period 88 = .ok (.ifCond .gt 31, 3) := by decide +kernel
theorem dX7_period_91 : decode cX7_period 91 = .ok (.aload_n 0, 1) := by decide +kernel
theorem dX7_period_92 : decode cX7_period 92 = .ok (.iload_n 1, 1) := by decide +kernel
theorem dX7_period_93 : decode cX7_period 93 = .ok (.iconst 1, 1) := by decide +kernel
theorem dX7_period_94 : decode cX7_period 94 = .ok (.invokevirtual 201, 3) := by decide +kernel
theorem dX7_period_97 : decode cX7_period 97 = .ok (.lconst 0, 1) := by decide +kernel
theorem dX7_period_98 : decode cX7_period 98 = .ok (.lcmp, 1) := by decide +kernel
theorem dX7_period_99 : decode cX7_period 99 = .ok (.ifCond .gt 6, 3) := by decide +kernel
theorem dX7_period_102 : decode cX7_period 102 = .ok (.goto 17, 3) := by decide +kernel
theorem dX7_period_105 : decode cX7_period 105 = .ok (.iload_n 3, 1) := by decide +kernel
theorem dX7_period_106 : decode cX7_period 106 = .ok (.iconst (-1), 1) := by decide +kernel
theorem dX7_period_107 : decode cX7_period 107 = .ok (.if_icmp .eq 9, 3) := by decide +kernel
theorem dX7_period_110 : decode cX7_period 110 = .ok (.iload 5, 2) := by decide +kernel
theorem dX7_period_112 : decode cX7_period 112 = .ok (.iload_n 3, 1) := by decide +kernel
theorem dX7_period_113 : decode cX7_period 113 = .ok (.isub, 1) := by decide +kernel
theorem dX7_period_114 : decode cX7_period 114 = .ok (.istore 4, 2) := by decide +kernel
theorem dX7_period_116 : decode cX7_period 116 = .ok (.iload 5, 2) := by decide +kernel
theorem dX7_period_118 : decode cX7_period 118 = .ok (.istore_n 3, 1) := by decide +kernel
theorem dX7_period_119 : decode cX7_period 119 = .ok (.iinc 5 1, 3) := by decide +kernel
theorem dX7_period_122 : decode cX7_period 122 = .ok (.goto (-64), 3) := by decide +kernel
theorem dX7_period_125 : decode cX7_period 125 = .ok (.aload_n 0, 1) := by decide +kernel
theorem dX7_period_126 : decode cX7_period 126 = .ok (.getfield 24, 3) := by decide +kernel
theorem dX7_period_129 : decode cX7_period 129 = .ok (.aload_n 0, 1) := by decide +kernel
theorem dX7_period_130 : decode cX7_period 130 = .ok (.getfield 17, 3) := by decide +kernel
theorem dX7_period_133 : decode cX7_period 133 = .ok (.invokestatic 195, 3) := by decide +kernel
theorem dX7_period_136 : decode cX7_period 136 = .ok (.iload 4, 2) := by decide +kernel
theorem dX7_period_138 : decode cX7_period 138 = .ok (.ireturn, 1) := by decide +kernel
theorem dX7_breaksIn_0 : decode cX7_breaksIn 0 = .ok (.aload_n 0, 1) := by decide +kernel
theorem dX7_breaksIn_1 : decode cX7_breaksIn 1 = .ok (.iconst 0, 1) := by decide +kernel
theorem dX7_breaksIn_2 : decode cX7_breaksIn 2 = .ok (.putfield 39, 3) := by decide +kernel
theorem dX7_breaksIn_5 : decode cX7_breaksIn 5 = .ok (.aload_n 0, 1) := by decide +kernel
theorem dX7_breaksIn_6 : decode cX7_breaksIn 6 = .ok (.iload_n 1, 1) := by decide +kernel
theorem dX7_breaksIn_7 : decode cX7_breaksIn 7 = .ok (.iconst 1, 1) := by decide +kernel
theorem dX7_breaksIn_8 : decode cX7_breaksIn 8 = .ok (.sipush 200, 3) := by decide +kernel
theorem dX7_breaksIn_11 : decode cX7_breaksIn 11 = .ok (.invokestatic 65, 3) := by decide +kernel
theorem dX7_breaksIn_14 : decode cX7_breaksIn 14 = .ok (.ifCond .ne 7, 3) := by decide +kernel
theorem dX7_breaksIn_17 : decode cX7_breaksIn 17 = .ok (.iconst 1, 1) := by decide +kernel
theorem dX7_breaksIn_18 : decode cX7_breaksIn 18 = .ok (.goto 4, 3) := by decide +kernel
theorem dX7_breaksIn_21 : decode cX7_breaksIn 21 = .ok (.iconst 0, 1) := by decide +kernel
theorem dX7_breaksIn_22 : decode cX7_breaksIn 22 = .ok (.iconst 1, 1) := by decide +kernel
theorem dX7_breaksIn_23 : decode cX7_breaksIn 23 = .ok (.invokevirtual 183, 3) := by decide +kernel
theorem dX7_breaksIn_26 : decode cX7_breaksIn 26 = .ok (.ifCond .eq 5, 3) := by decide +kernel
theorem dX7_breaksIn_29 : decode cX7_breaksIn 29 = .ok (.iconst 0, 1) := by decide +kernel
theorem dX7_breaksIn_30 : decode cX7_breaksIn 30 = .ok (.ireturn, 1) := by decide +kernel
theorem dX7_breaksIn_31 : decode cX7_breaksIn 31 = .ok (.aload_n 0, 1) := by decide +kernel
theorem dX7_breaksIn_32 : decode cX7_breaksIn 32 = .ok (.getfield 17, 3) := by decide +kernel
theorem dX7_breaksIn_35 : decode cX7_breaksIn 35 = .ok (.aload_n 0, 1) := by decide +kernel
theorem dX7_breaksIn_36 : decode cX7_breaksIn 36 = .ok (.getfield 24, 3) := by decide +kernel
theorem dX7_breaksIn_39 : decode cX7_breaksIn 39 = .ok (.invokestatic 195, 3) := by decide +kernel
theorem dX7_breaksIn_42 : decode cX7_breaksIn 42 = .ok (.iconst (-1), 1) := by decide +kernel
theorem dX7_breaksIn_43 : decode cX7_breaksIn 43 = .ok (.istore_n 2, 1) := by decide +kernel
theorem dX7_breaksIn_44 : decode cX7_breaksIn 44 = .ok (.iconst 1, 1) := by decide +kernel
theorem dX7_breaksIn_45 : decode cX7_breaksIn 45 = .ok (.istore_n 3, 1) := by decide +kernel
theorem dX7_breaksIn_46 : decode cX7_breaksIn 46 = .ok (.iload_n 3, 1) := by decide +kernel
theorem dX7_breaksIn_47 : decode cX7_breaksIn 47 = .ok (.iload_n 1, 1) := by decide +kernel
theorem dX7_breaksIn_48 : decode cX7_breaksIn 48 = .ok (.if_icmp .gt 23, 3) := by decide +kernel
theorem dX7_breaksIn_51 : decode cX7_breaksIn 51 = .ok (.iload_n 2, 1) := by decide +kernel
theorem dX7_breaksIn_52 : decode cX7_breaksIn 52 = .ok (.iconst (-1), 1) := by decide +kernel
theorem dX7_breaksIn_53 : decode cX7_breaksIn 53 = .ok (.if_icmp .ne 18, 3) := by decide +kernel
theorem dX7_breaksIn_56 : decode cX7_breaksIn 56 = .ok (.aload_n 0, 1) := by decide +kernel
theorem dX7_breaksIn_57 : decode cX7_breaksIn 57 = .ok (.invokevirtual 288, 3) := by decide +kernel
theorem dX7_breaksIn_60 : decode cX7_breaksIn 60 = .ok (.ifCond .le 5, 3) := by decide +kernel
theorem dX7_breaksIn_63 : decode cX7_breaksIn 63 = .ok (.iload_n 3, 1) := by decide +kernel
theorem dX7_breaksIn_64 : decode cX7_breaksIn 64 = .ok (.istore_n 2, 1) := by decide +kernel
theorem dX7_breaksIn_65 : decode cX7_breaksIn 65 = .ok (.iinc 3 1, 3) := by decide +kernel
theorem dX7_breaksIn_68 : decode cX7_breaksIn 68 = .ok (.goto (-22), 3) := by decide +kernel
theorem dX7_breaksIn_71 : decode cX7_breaksIn 71 = .ok (.aload_n 0, 1) := by decide +kernel
theorem dX7_breaksIn_72 : decode cX7_breaksIn 72 = .ok (.getfield 24, 3) := by decide +kernel
theorem dX7_breaksIn_75 : decode cX7_breaksIn 75 = .ok (.aload_n 0, 1) := by decide +kernel
theorem dX7_breaksIn_76 : decode cX7_breaksIn 76 = .ok (.getfield 17, 3) := by decide +kernel
theorem dX7_breaksIn_79 : decode cX7_breaksIn 79 = .ok (.invokestatic 195, 3) := by decide +kernel
theorem dX7_breaksIn_82 : decode cX7_breaksIn 82 = .ok (.iload_n 2, 1) := by decide +kernel
theorem dX7_breaksIn_83 : decode cX7_breaksIn 83 = .ok (.ireturn, 1) := by decide +kernel
theorem dX7_pieces_0 : decode cX7_pieces 0 = .ok (.aload_n 0, 1) := by decide +kernel
theorem dX7_pieces_1 : decode cX7_pieces 1 = .ok (.iconst 0, 1) := by decide +kernel
theorem dX7_pieces_2 : decode cX7_pieces 2 = .ok (.putfield 39, 3) := by decide +kernel
theorem dX7_pieces_5 : decode cX7_pieces 5 = .ok (.iconst 1, 1) := by decide +kernel
theorem dX7_pieces_6 : decode cX7_pieces 6 = .ok (.istore_n 1, 1) := by decide +kernel
theorem dX7_pieces_7 : decode cX7_pieces 7 = .ok (.iconst 1, 1) := by decide +kernel
theorem dX7_pieces_8 : decode cX7_pieces 8 = .ok (.istore_n 2, 1) := by decide +kernel
theorem dX7_pieces_9 : decode cX7_pieces 9 = .ok (.iload_n 2, 1) := by decide +kernel
theorem dX7_pieces_10 : decode cX7_pieces 10 = .ok (.aload_n 0, 1) := by decide +kernel
theorem dX7_pieces_11 : decode cX7_pieces 11 = .ok (.invokevirtual 199, 3) := by decide +kernel
theorem dX7_pieces_14 : decode cX7_pieces 14 = .ok (.if_icmp .ge 36, 3) := by decide +kernel
theorem dX7_pieces_17 : decode cX7_pieces 17 = .ok (.iload_n 1, 1) := by decide +kernel
theorem dX7_pieces_18 : decode cX7_pieces 18 = .ok (.aload_n 0, 1) := by decide +kernel
theorem dX7_pieces_19 : decode cX7_pieces 19 = .ok (.iload_n 2, 1) := by decide +kernel
theorem dX7_pieces_20 : decode cX7_pieces 20 = .ok (.invokevirtual 212, 3) := by decide +kernel
theorem dX7_pieces_23 : decode cX7_pieces 23 = .ok (.ifCond .eq 18, 3) := by decide +kernel
theorem dX7_pieces_26 : decode cX7_pieces 26 = .ok (.aload_n 0, 1) := by decide +kernel
theorem dX7_pieces_27 : decode cX7_pieces 27 = .ok (.iload_n 2, 1) := by decide +kernel
theorem dX7_pieces_28 : decode cX7_pieces 28 = .ok (.iconst 0, 1) := by decide +kernel
theorem dX7_pieces_29 : decode cX7_pieces 29 = .ok (.invokevirtual 209, 3) := by decide +kernel
theorem dX7_pieces_32 : decode cX7_pieces 32 = .ok (.lconst 0, 1) := by decide +kernel
theorem dX7_pieces_33 : decode cX7_pieces 33 = .ok (.lcmp, 1) := by decide +kernel
theorem dX7_pieces_34 : decode cX7_pieces 34 = .ok (.ifCond .le 7, 3) := by decide +kernel
theorem dX7_pieces_37 : decode cX7_pieces 37 = .ok (.iconst 0, 1) := by decide +kernel
theorem dX7_pieces_38 : decode cX7_pieces 38 = .ok (.goto 4, 3) := by decide +kernel
theorem dX7_pieces_41 : decode cX7_pieces 41 = .ok (.iconst 1, 1) := by decide +kernel
theorem dX7_pieces_42 : decode cX7_pieces 42 = .ok (.iadd, 1) := by decide +kernel
theorem dX7_pieces_43 : decode cX7_pieces 43 = .ok (.istore_n 1, 1) := by decide +kernel
theorem dX7_pieces_44 : decode cX7_pieces 44 = .ok (.iinc 2 1, 3) := by decide +kernel
theorem dX7_pieces_47 : decode cX7_pieces 47 = .ok (.goto (-38), 3) := by decide +kernel
theorem dX7_pieces_50 : decode cX7_pieces 50 = .ok (.iload_n 1, 1) := by decide +kernel
theorem dX7_pieces_51 : decode cX7_pieces 51 = .ok (.ireturn, 1) := by decide +kernel
theorem dX7_centre_0 : decode cX7_centre 0 = .ok (.aload_n 0, 1) := by decide +kernel
theorem dX7_centre_1 : decode cX7_centre 1 = .ok (.iconst 0, 1) := by decide +kernel
theorem dX7_centre_2 : decode cX7_centre 2 = .ok (.putfield 39, 3) := by decide +kernel
theorem dX7_centre_5 : decode cX7_centre 5 = .ok (.lconst 0, 1) := by decide +kernel
theorem dX7_centre_6 : decode cX7_centre 6 = .ok (.lstore_n 1, 1) := by decide +kernel
theorem dX7_centre_7 : decode cX7_centre 7 = .ok (.lconst 0, 1) := by decide +kernel
theorem dX7_centre_8 : decode cX7_centre 8 = .ok (.lstore_n 3, 1) := by decide +kernel
theorem dX7_centre_9 : decode cX7_centre 9 = .ok (.iconst 0, 1) := by decide +kernel
theorem dX7_centre_10 : decode cX7_centre 10 = .ok (.istore 5, 2) := by decide +kernel
theorem dX7_centre_12 : decode cX7_centre 12 = .ok (.iload 5, 2) := by decide +kernel
theorem dX7_centre_14 : decode cX7_centre 14 = .ok (.aload_n 0, 1) := by decide +kernel
theorem dX7_centre_15 : decode cX7_centre 15 = .ok (.invokevirtual 199, 3) := by decide +kernel
theorem dX7_centre_18 : decode cX7_centre 18 = .ok (.if_icmp .ge 37, 3) := by decide +kernel
theorem dX7_centre_21 : decode cX7_centre 21 = .ok (.lload_n 1, 1) := by decide +kernel
theorem dX7_centre_22 : decode cX7_centre 22 = .ok (.aload_n 0, 1) := by decide +kernel
theorem dX7_centre_23 : decode cX7_centre 23 = .ok (.iload 5, 2) := by decide +kernel
theorem dX7_centre_25 : decode cX7_centre 25 = .ok (.iconst 0, 1) := by decide +kernel
theorem dX7_centre_26 : decode cX7_centre 26 = .ok (.invokevirtual 201, 3) := by decide +kernel
theorem dX7_centre_29 : decode cX7_centre 29 = .ok (.aload_n 0, 1) := by decide +kernel
theorem dX7_centre_30 : decode cX7_centre 30 = .ok (.iload 5, 2) := by decide +kernel
theorem dX7_centre_32 : decode cX7_centre 32 = .ok (.iconst 1, 1) := by decide +kernel
theorem dX7_centre_33 : decode cX7_centre 33 = .ok (.invokevirtual 201, 3) := by decide +kernel
theorem dX7_centre_36 : decode cX7_centre 36 = .ok (.lmul, 1) := by decide +kernel
theorem dX7_centre_37 : decode cX7_centre 37 = .ok (.ladd, 1) := by decide +kernel
theorem dX7_centre_38 : decode cX7_centre 38 = .ok (.lstore_n 1, 1) := by decide +kernel
theorem dX7_centre_39 : decode cX7_centre 39 = .ok (.lload_n 3, 1) := by decide +kernel
theorem dX7_centre_40 : decode cX7_centre 40 = .ok (.aload_n 0, 1) := by decide +kernel
theorem dX7_centre_41 : decode cX7_centre 41 = .ok (.iload 5, 2) := by decide +kernel
theorem dX7_centre_43 : decode cX7_centre 43 = .ok (.iconst 0, 1) := by decide +kernel
theorem dX7_centre_44 : decode cX7_centre 44 = .ok (.invokevirtual 201, 3) := by decide +kernel
theorem dX7_centre_47 : decode cX7_centre 47 = .ok (.ladd, 1) := by decide +kernel
theorem dX7_centre_48 : decode cX7_centre 48 = .ok (.lstore_n 3, 1) := by decide +kernel
theorem dX7_centre_49 : decode cX7_centre 49 = .ok (.iinc 5 1, 3) := by decide +kernel
theorem dX7_centre_52 : decode cX7_centre 52 = .ok (.goto (-40), 3) := by decide +kernel
theorem dX7_centre_55 : decode cX7_centre 55 = .ok (.lload_n 1, 1) := by decide +kernel
theorem dX7_centre_56 : decode cX7_centre 56 = .ok (.l2d, 1) := by decide +kernel
theorem dX7_centre_57 : decode cX7_centre 57 = .ok (.lload_n 3, 1) := by decide +kernel
theorem dX7_centre_58 : decode cX7_centre 58 = .ok (.l2d, 1) := by decide +kernel
theorem dX7_centre_59 : decode cX7_centre 59 = .ok (.ddiv, 1) := by decide +kernel
theorem dX7_centre_60 : decode cX7_centre 60 = .ok (.dreturn, 1) := by decide +kernel
theorem dX7_remember_0 : decode cX7_remember 0 = .ok (.aload_n 0, 1) := by decide +kernel
theorem dX7_remember_1 : decode cX7_remember 1 = .ok (.getfield 294, 3) := by decide +kernel
theorem dX7_remember_4 : decode cX7_remember 4 = .ok (.bipush 8, 2) := by decide +kernel
theorem dX7_remember_6 : decode cX7_remember 6 = .ok (.if_icmp .ne 44, 3) := by decide +kernel
theorem dX7_remember_9 : decode cX7_remember 9 = .ok (.iconst 1, 1) := by decide +kernel
theorem dX7_remember_10 : decode cX7_remember 10 = .ok (.istore_n 1, 1) := by decide +kernel
theorem dX7_remember_11 : decode cX7_remember 11 = .ok (.iload_n 1, 1) := by decide +kernel
theorem dX7_remember_12 : decode cX7_remember 12 = .ok (.bipush 8, 2) := by decide +kernel
theorem dX7_remember_14 : decode cX7_remember 14 = .ok (.if_icmp .ge 26, 3) := by decide +kernel
theorem dX7_remember_17 : decode cX7_remember 17 = .ok (.aload_n 0, 1) := by decide +kernel
theorem dX7_remember_18 : decode cX7_remember 18 = .ok (.getfield 29, 3) := by decide +kernel
theorem dX7_remember_21 : decode cX7_remember 21 = .ok (.iload_n 1, 1) := by decide +kernel
theorem dX7_remember_22 : decode cX7_remember 22 = .ok (.aaload, 1) := by decide +kernel
theorem dX7_remember_23 : decode cX7_remember 23 = .ok (.aload_n 0, 1) := by decide +kernel
theorem dX7_remember_24 : decode cX7_remember 24 = .ok (.getfield 29, 3) := by decide +kernel
theorem dX7_remember_27 : decode cX7_remember 27 = .ok (.iload_n 1, 1) := by decide +kernel
theorem dX7_remember_28 : decode cX7_remember 28 = .ok (.iconst 1, 1) := by decide +kernel
theorem dX7_remember_29 : decode cX7_remember 29 = .ok (.isub, 1) := by decide +kernel
theorem dX7_remember_30 : decode cX7_remember 30 = .ok (.aaload, 1) := by decide +kernel
theorem dX7_remember_31 : decode cX7_remember 31 = .ok (.invokestatic 195, 3) := by decide +kernel
theorem dX7_remember_34 : decode cX7_remember 34 = .ok (.iinc 1 1, 3) := by decide +kernel
theorem dX7_remember_37 : decode cX7_remember 37 = .ok (.goto (-26), 3) := by decide +kernel
theorem dX7_remember_40 : decode cX7_remember 40 = .ok (.aload_n 0, 1) := by decide +kernel
theorem dX7_remember_41 : decode cX7_remember 41 = .ok (.dup, 1) := by decide +kernel
theorem dX7_remember_42 : decode cX7_remember 42 = .ok (.getfield 294, 3) := by decide +kernel
theorem dX7_remember_45 : decode cX7_remember 45 = .ok (.iconst 1, 1) := by decide +kernel
theorem dX7_remember_46 : decode cX7_remember 46 = .ok (.isub, 1) := by decide +kernel
theorem dX7_remember_47 : decode cX7_remember 47 = .ok (.putfield 294, 3) := by decide +kernel
theorem dX7_remember_50 : decode cX7_remember 50 = .ok (.aload_n 0, 1) := by decide +kernel
theorem dX7_remember_51 : decode cX7_remember 51 = .ok (.getfield 17, 3) := by decide +kernel
theorem dX7_remember_54 : decode cX7_remember 54 = .ok (.aload_n 0, 1) := by decide +kernel
theorem dX7_remember_55 : decode cX7_remember 55 = .ok (.getfield 29, 3) := by decide +kernel
theorem dX7_remember_58 : decode cX7_remember 58 = .ok (.aload_n 0, 1) := by decide +kernel
theorem dX7_remember_59 : decode cX7_remember 59 = .ok (.getfield 294, 3) := by decide +kernel
theorem dX7_remember_62 : decode cX7_remember 62 = .ok (.aaload, 1) := by decide +kernel
theorem dX7_remember_63 : decode cX7_remember 63 = .ok (.invokestatic 195, 3) := by decide +kernel
theorem dX7_remember_66 : decode cX7_remember 66 = .ok (.aload_n 0, 1) := by decide +kernel
theorem dX7_remember_67 : decode cX7_remember 67 = .ok (.dup, 1) := by decide +kernel
theorem dX7_remember_68 : decode cX7_remember 68 = .ok (.getfield 294, 3) := by decide +kernel
theorem dX7_remember_71 : decode cX7_remember 71 = .ok (.iconst 1, 1) := by decide +kernel
theorem dX7_remember_72 : decode cX7_remember 72 = .ok (.iadd, 1) := by decide +kernel
theorem dX7_remember_73 : decode cX7_remember 73 = .ok (.putfield 294, 3) := by decide +kernel
theorem dX7_remember_76 : decode cX7_remember 76 = .ok (.return_, 1) := by decide +kernel
theorem dX7_pass_0 : decode cX7_pass 0 = .ok (.aload_n 0, 1) := by decide +kernel
theorem dX7_pass_1 : decode cX7_pass 1 = .ok (.iconst 0, 1) := by decide +kernel
theorem dX7_pass_2 : decode cX7_pass 2 = .ok (.putfield 39, 3) := by decide +kernel
theorem dX7_pass_5 : decode cX7_pass 5 = .ok (.aload_n 0, 1) := by decide +kernel
theorem dX7_pass_6 : decode cX7_pass 6 = .ok (.iload_n 1, 1) := by decide +kernel
theorem dX7_pass_7 : decode cX7_pass 7 = .ok (.iconst 1, 1) := by decide +kernel
theorem dX7_pass_8 : decode cX7_pass 8 = .ok (.bipush 50, 2) := by decide +kernel
theorem dX7_pass_10 : decode cX7_pass 10 = .ok (.invokestatic 65, 3) := by decide +kernel
theorem dX7_pass_13 : decode cX7_pass 13 = .ok (.ifCond .ne 7, 3) := by decide +kernel
theorem dX7_pass_16 : decode cX7_pass 16 = .ok (.iconst 1, 1) := by decide +kernel
theorem dX7_pass_17 : decode cX7_pass 17 = .ok (.goto 4, 3) := by decide +kernel
theorem dX7_pass_20 : decode cX7_pass 20 = .ok (.iconst 0, 1) := by decide +kernel
theorem dX7_pass_21 : decode cX7_pass 21 = .ok (.iconst 1, 1) := by decide +kernel
theorem dX7_pass_22 : decode cX7_pass 22 = .ok (.invokevirtual 183, 3) := by decide +kernel
theorem dX7_pass_25 : decode cX7_pass 25 = .ok (.ifCond .eq 5, 3) := by decide +kernel
theorem dX7_pass_28 : decode cX7_pass 28 = .ok (.iconst 0, 1) := by decide +kernel
theorem dX7_pass_29 : decode cX7_pass 29 = .ok (.ireturn, 1) := by decide +kernel
theorem dX7_pass_30 : decode cX7_pass 30 = .ok (.aload_n 0, 1) := by decide +kernel
theorem dX7_pass_31 : decode cX7_pass 31 = .ok (.invokevirtual 192, 3) := by decide +kernel
theorem dX7_pass_34 : decode cX7_pass 34 = .ok (.iconst 0, 1) := by decide +kernel
theorem dX7_pass_35 : decode cX7_pass 35 = .ok (.istore_n 2, 1) := by decide +kernel
theorem dX7_pass_36 : decode cX7_pass 36 = .ok (.iconst 0, 1) := by decide +kernel
theorem dX7_pass_37 : decode cX7_pass 37 = .ok (.istore_n 3, 1) := by decide +kernel
theorem dX7_pass_38 : decode cX7_pass 38 = .ok (.iload_n 3, 1) := by decide +kernel
theorem dX7_pass_39 : decode cX7_pass 39 = .ok (.iload_n 1, 1) := by decide +kernel
theorem dX7_pass_40 : decode cX7_pass 40 = .ok (.if_icmp .ge 16, 3) := by decide +kernel
theorem dX7_pass_43 : decode cX7_pass 43 = .ok (.iload_n 2, 1) := by decide +kernel
theorem dX7_pass_44 : decode cX7_pass 44 = .ok (.aload_n 0, 1) := by decide +kernel
theorem dX7_pass_45 : decode cX7_pass 45 = .ok (.invokevirtual 288, 3) := by decide +kernel
theorem dX7_pass_48 : decode cX7_pass 48 = .ok (.iadd, 1) := by decide +kernel
theorem dX7_pass_49 : decode cX7_pass 49 = .ok (.istore_n 2, 1) := by decide +kernel
theorem dX7_pass_50 : decode cX7_pass 50 = .ok (.iinc 3 1, 3) := by decide +kernel
theorem dX7_pass_53 : decode cX7_pass 53 = .ok (.goto (-15), 3) := by decide +kernel
theorem dX7_pass_56 : decode cX7_pass 56 = .ok (.iload_n 2, 1) := by decide +kernel
theorem dX7_pass_57 : decode cX7_pass 57 = .ok (.ireturn, 1) := by decide +kernel
theorem dX7_put_0 : decode cX7_put 0 = .ok (.aload_n 0, 1) := by decide +kernel
theorem dX7_put_1 : decode cX7_put 1 = .ok (.invokevirtual 192, 3) := by decide +kernel
theorem dX7_put_4 : decode cX7_put 4 = .ok (.aload_n 0, 1) := by decide +kernel
theorem dX7_put_5 : decode cX7_put 5 = .ok (.getfield 17, 3) := by decide +kernel
theorem dX7_put_8 : decode cX7_put 8 = .ok (.iload_n 1, 1) := by decide +kernel
theorem dX7_put_9 : decode cX7_put 9 = .ok (.laload, 1) := by decide +kernel
theorem dX7_put_10 : decode cX7_put 10 = .ok (.l2i, 1) := by decide +kernel
theorem dX7_put_11 : decode cX7_put 11 = .ok (.istore_n 3, 1) := by decide +kernel
theorem dX7_put_12 : decode cX7_put 12 = .ok (.aload_n 0, 1) := by decide +kernel
theorem dX7_put_13 : decode cX7_put 13 = .ok (.getfield 17, 3) := by decide +kernel
theorem dX7_put_16 : decode cX7_put 16 = .ok (.iload_n 1, 1) := by decide +kernel
theorem dX7_put_17 : decode cX7_put 17 = .ok (.iload_n 2, 1) := by decide +kernel
theorem dX7_put_18 : decode cX7_put 18 = .ok (.i2l, 1) := by decide +kernel
theorem dX7_put_19 : decode cX7_put 19 = .ok (.lastore, 1) := by decide +kernel
theorem dX7_put_20 : decode cX7_put 20 = .ok (.iload_n 3, 1) := by decide +kernel
theorem dX7_put_21 : decode cX7_put 21 = .ok (.ireturn, 1) := by decide +kernel
theorem dX7_pluck_0 : decode cX7_pluck 0 = .ok (.aload_n 0, 1) := by decide +kernel
theorem dX7_pluck_1 : decode cX7_pluck 1 = .ok (.iconst 0, 1) := by decide +kernel
theorem dX7_pluck_2 : decode cX7_pluck 2 = .ok (.putfield 39, 3) := by decide +kernel
theorem dX7_pluck_5 : decode cX7_pluck 5 = .ok (.aload_n 0, 1) := by decide +kernel
theorem dX7_pluck_6 : decode cX7_pluck 6 = .ok (.iload_n 1, 1) := by decide +kernel
theorem dX7_pluck_7 : decode cX7_pluck 7 = .ok (.invokevirtual 272, 3) := by decide +kernel
theorem dX7_pluck_10 : decode cX7_pluck 10 = .ok (.ifCond .ne 29, 3) := by decide +kernel
theorem dX7_pluck_13 : decode cX7_pluck 13 = .ok (.aload_n 0, 1) := by decide +kernel
theorem dX7_pluck_14 : decode cX7_pluck 14 = .ok (.iload_n 2, 1) := by decide +kernel
theorem dX7_pluck_15 : decode cX7_pluck 15 = .ok (.sipush (-10000), 3) := by decide +kernel
theorem dX7_pluck_18 : decode cX7_pluck 18 = .ok (.sipush 10000, 3) := by decide +kernel
theorem dX7_pluck_21 : decode cX7_pluck 21 = .ok (.invokestatic 65, 3) := by decide +kernel
theorem dX7_pluck_24 : decode cX7_pluck 24 = .ok (.ifCond .ne 7, 3) := by decide +kernel
theorem dX7_pluck_27 : decode cX7_pluck 27 = .ok (.iconst 1, 1) := by decide +kernel
theorem dX7_pluck_28 : decode cX7_pluck 28 = .ok (.goto 4, 3) := by decide +kernel
theorem dX7_pluck_31 : decode cX7_pluck 31 = .ok (.iconst 0, 1) := by decide +kernel
theorem dX7_pluck_32 : decode cX7_pluck 32 = .ok (.iconst 2, 1) := by decide +kernel
theorem dX7_pluck_33 : decode cX7_pluck 33 = .ok (.invokevirtual 183, 3) := by decide +kernel
theorem dX7_pluck_36 : decode cX7_pluck 36 = .ok (.ifCond .eq 7, 3) := by decide +kernel
theorem dX7_pluck_39 : decode cX7_pluck 39 = .ok (.iconst 0, 1) := by decide +kernel
theorem dX7_pluck_40 : decode cX7_pluck 40 = .ok (.goto 16, 3) := by decide +kernel
theorem dX7_pluck_43 : decode cX7_pluck 43 = .ok (.aload_n 0, 1) := by decide +kernel
theorem dX7_pluck_44 : decode cX7_pluck 44 = .ok (.bipush 12, 2) := by decide +kernel
theorem dX7_pluck_46 : decode cX7_pluck 46 = .ok (.iconst 3, 1) := by decide +kernel
theorem dX7_pluck_47 : decode cX7_pluck 47 = .ok (.iload_n 1, 1) := by decide +kernel
theorem dX7_pluck_48 : decode cX7_pluck 48 = .ok (.imul, 1) := by decide +kernel
theorem dX7_pluck_49 : decode cX7_pluck 49 = .ok (.iadd, 1) := by decide +kernel
theorem dX7_pluck_50 : decode cX7_pluck 50 = .ok (.iconst 1, 1) := by decide +kernel
theorem dX7_pluck_51 : decode cX7_pluck 51 = .ok (.iadd, 1) := by decide +kernel
theorem dX7_pluck_52 : decode cX7_pluck 52 = .ok (.iload_n 2, 1) := by decide +kernel
theorem dX7_pluck_53 : decode cX7_pluck 53 = .ok (.invokevirtual 297, 3) := by decide +kernel
theorem dX7_pluck_56 : decode cX7_pluck 56 = .ok (.ireturn, 1) := by decide +kernel
theorem dX7_strike_0 : decode cX7_strike 0 = .ok (.aload_n 0, 1) := by decide +kernel
theorem dX7_strike_1 : decode cX7_strike 1 = .ok (.iconst 0, 1) := by decide +kernel
theorem dX7_strike_2 : decode cX7_strike 2 = .ok (.putfield 39, 3) := by decide +kernel
theorem dX7_strike_5 : decode cX7_strike 5 = .ok (.aload_n 0, 1) := by decide +kernel
theorem dX7_strike_6 : decode cX7_strike 6 = .ok (.iload_n 1, 1) := by decide +kernel
theorem dX7_strike_7 : decode cX7_strike 7 = .ok (.invokevirtual 272, 3) := by decide +kernel
theorem dX7_strike_10 : decode cX7_strike 10 = .ok (.ifCond .ne 27, 3) := by decide +kernel
theorem dX7_strike_13 : decode cX7_strike 13 = .ok (.aload_n 0, 1) := by decide +kernel
theorem dX7_strike_14 : decode cX7_strike 14 = .ok (.iload_n 2, 1) := by decide +kernel
theorem dX7_strike_15 : decode cX7_strike 15 = .ok (.ldc 124, 2) := by decide +kernel
theorem dX7_strike_17 : decode cX7_strike 17 = .ok (.ldc 125, 2) := by decide +kernel
theorem dX7_strike_19 : decode cX7_strike 19 = .ok (.invokestatic 65, 3) := by decide +kernel
theorem dX7_strike_22 : decode cX7_strike 22 = .ok (.ifCond .ne 7, 3) := by decide +kernel
theorem dX7_strike_25 : decode cX7_strike 25 = .ok (.iconst 1, 1) := by decide +kernel
theorem dX7_strike_26 : decode cX7_strike 26 = .ok (.goto 4, 3) := by decide +kernel
theorem dX7_strike_29 : decode cX7_strike 29 = .ok (.iconst 0, 1) := by decide +kernel
theorem dX7_strike_30 : decode cX7_strike 30 = .ok (.iconst 2, 1) := by decide +kernel
theorem dX7_strike_31 : decode cX7_strike 31 = .ok (.invokevirtual 183, 3) := by decide +kernel
theorem dX7_strike_34 : decode cX7_strike 34 = .ok (.ifCond .eq 5, 3) := by decide +kernel
theorem dX7_strike_37 : decode cX7_strike 37 = .ok (.iconst 0, 1) := by decide +kernel
theorem dX7_strike_38 : decode cX7_strike 38 = .ok (.ireturn, 1) := by decide +kernel
theorem dX7_strike_39 : decode cX7_strike 39 = .ok (.aload_n 0, 1) := by decide +kernel
theorem dX7_strike_40 : decode cX7_strike 40 = .ok (.invokevirtual 192, 3) := by decide +kernel
theorem dX7_strike_43 : decode cX7_strike 43 = .ok (.aload_n 0, 1) := by decide +kernel
theorem dX7_strike_44 : decode cX7_strike 44 = .ok (.iload_n 1, 1) := by decide +kernel
theorem dX7_strike_45 : decode cX7_strike 45 = .ok (.iconst 2, 1) := by decide +kernel
theorem dX7_strike_46 : decode cX7_strike 46 = .ok (.invokevirtual 201, 3) := by decide +kernel
theorem dX7_strike_49 : decode cX7_strike 49 = .ok (.lstore_n 3, 1) := by decide +kernel
theorem dX7_strike_50 : decode cX7_strike 50 = .ok (.lload_n 3, 1) := by decide +kernel
theorem dX7_strike_51 : decode cX7_strike 51 = .ok (.iload_n 2, 1) := by decide +kernel
theorem dX7_strike_52 : decode cX7_strike 52 = .ok (.i2l, 1) := by decide +kernel
theorem dX7_strike_53 : decode cX7_strike 53 = .ok (.ladd, 1) := by decide +kernel
theorem dX7_strike_54 : decode cX7_strike 54 = .ok (.ldc2_w 233, 3) := by decide +kernel
theorem dX7_strike_57 : decode cX7_strike 57 = .ok (.invokestatic 235, 3) := by decide +kernel
theorem dX7_strike_60 : decode cX7_strike 60 = .ok (.lstore 5, 2) := by decide +kernel
theorem dX7_strike_62 : decode cX7_strike 62 = .ok (.aload_n 0, 1) := by decide +kernel
theorem dX7_strike_63 : decode cX7_strike 63 = .ok (.iload_n 1, 1) := by decide +kernel
theorem dX7_strike_64 : decode cX7_strike 64 = .ok (.iconst 2, 1) := by decide +kernel
theorem dX7_strike_65 : decode cX7_strike 65 = .ok (.lload 5, 2) := by decide +kernel
theorem dX7_strike_67 : decode cX7_strike 67 = .ok (.invokevirtual 221, 3) := by decide +kernel
theorem dX7_strike_70 : decode cX7_strike 70 = .ok (.aload_n 0, 1) := by decide +kernel
theorem dX7_strike_71 : decode cX7_strike 71 = .ok (.getfield 17, 3) := by decide +kernel
theorem dX7_strike_74 : decode cX7_strike 74 = .ok (.bipush 9, 2) := by decide +kernel
theorem dX7_strike_76 : decode cX7_strike 76 = .ok (.dup2, 1) := by decide +kernel
theorem dX7_strike_77 : decode cX7_strike 77 = .ok (.laload, 1) := by decide +kernel
theorem dX7_strike_78 : decode cX7_strike 78 = .ok (.lload 5, 2) := by decide +kernel
theorem dX7_strike_80 : decode cX7_strike 80 = .ok (.lload_n 3, 1) := by decide +kernel
theorem dX7_strike_81 : decode cX7_strike 81 = .ok (.lsub, 1) := by decide +kernel
theorem dX7_strike_82 : decode cX7_strike 82 = .ok (.ladd, 1) := by decide +kernel
theorem dX7_strike_83 : decode cX7_strike 83 = .ok (.lastore, 1) := by decide +kernel
theorem dX7_strike_84 : decode cX7_strike 84 = .ok (.lload 5, 2) := by decide +kernel
theorem dX7_strike_86 : decode cX7_strike 86 = .ok (.l2i, 1) := by decide +kernel
theorem dX7_strike_87 : decode cX7_strike 87 = .ok (.ireturn, 1) := by decide +kernel
theorem dX7_impulse_0 : decode cX7_impulse 0 = .ok (.aload_n 0, 1) := by decide +kernel
theorem dX7_impulse_1 : decode cX7_impulse 1 = .ok (.iconst 0, 1) := by decide +kernel
theorem dX7_impulse_2 : decode cX7_impulse 2 = .ok (.putfield 39, 3) := by decide +kernel
theorem dX7_impulse_5 : decode cX7_impulse 5 = .ok (.aload_n 0, 1) := by decide +kernel
theorem dX7_impulse_6 : decode cX7_impulse 6 = .ok (.iload_n 2, 1) := by decide +kernel
theorem dX7_impulse_7 : decode cX7_impulse 7 = .ok (.invokevirtual 272, 3) := by decide +kernel
theorem dX7_impulse_10 : decode cX7_impulse 10 = .ok (.ifCond .ne 76, 3) := by decide +kernel
theorem dX7_impulse_13 : decode cX7_impulse 13 = .ok (.aload_n 0, 1) := by decide +kernel
theorem dX7_impulse_14 : decode cX7_impulse 14 = .ok (.iload_n 1, 1) := by decide +kernel
theorem dX7_impulse_15 : decode cX7_impulse 15 = .ok (.aload_n 0, 1) := by decide +kernel
theorem dX7_impulse_16 : decode cX7_impulse 16 = .ok (.getfield 17, 3) := by decide +kernel
theorem dX7_impulse_19 : decode cX7_impulse 19 = .ok (.iconst 0, 1) := by decide +kernel
theorem dX7_impulse_20 : decode cX7_impulse 20 = .ok (.laload, 1) := by decide +kernel
theorem dX7_impulse_21 : decode cX7_impulse 21 = .ok (.l2i, 1) := by decide +kernel
theorem dX7_impulse_22 : decode cX7_impulse 22 = .ok (.sipush 9999, 3) := by decide +kernel
theorem dX7_impulse_25 : decode cX7_impulse 25 = .ok (.invokestatic 65, 3) := by decide +kernel
theorem dX7_impulse_28 : decode cX7_impulse 28 = .ok (.ifCond .eq 20, 3) := by decide +kernel
theorem dX7_impulse_31 : decode cX7_impulse 31 = .ok (.iload_n 3, 1) := by decide +kernel
theorem dX7_impulse_32 : decode cX7_impulse 32 = .ok (.sipush (-9999), 3) := by decide +kernel
theorem dX7_impulse_35 : decode cX7_impulse 35 = .ok (.sipush 9999, 3) := by decide +kernel
theorem dX7_impulse_38 : decode cX7_impulse 38 = .ok (.invokestatic 65, 3) := by decide +kernel
theorem dX7_impulse_41 : decode cX7_impulse 41 = .ok (.ifCond .eq 7, 3) := by decide +kernel
theorem dX7_impulse_44 : decode cX7_impulse 44 = .ok (.iload_n 3, 1) := by decide +kernel
theorem dX7_impulse_45 : decode cX7_impulse 45 = .ok (.ifCond .ne 7, 3) := by decide +kernel
theorem dX7_impulse_48 : decode cX7_impulse 48 = .ok (.iconst 1, 1) := by decide +kernel
theorem dX7_impulse_49 : decode cX7_impulse 49 = .ok (.goto 4, 3) := by decide +kernel
theorem dX7_impulse_52 : decode cX7_impulse 52 = .ok (.iconst 0, 1) := by decide +kernel
theorem dX7_impulse_53 : decode cX7_impulse 53 = .ok (.iconst 2, 1) := by decide +kernel
theorem dX7_impulse_54 : decode cX7_impulse 54 = .ok (.invokevirtual 183, 3) := by decide +kernel
theorem dX7_impulse_57 : decode cX7_impulse 57 = .ok (.ifCond .ne 29, 3) := by decide +kernel
theorem dX7_impulse_60 : decode cX7_impulse 60 = .ok (.aload_n 0, 1) := by decide +kernel
theorem dX7_impulse_61 : decode cX7_impulse 61 = .ok (.aload_n 0, 1) := by decide +kernel
theorem dX7_impulse_62 : decode cX7_impulse 62 = .ok (.getfield 17, 3) := by decide +kernel
theorem dX7_impulse_65 : decode cX7_impulse 65 = .ok (.iconst 5, 1) := by decide +kernel
theorem dX7_impulse_66 : decode cX7_impulse 66 = .ok (.laload, 1) := by decide +kernel
theorem dX7_impulse_67 : decode cX7_impulse 67 = .ok (.ldc2_w 130, 3) := by decide +kernel
theorem dX7_impulse_70 : decode cX7_impulse 70 = .ok (.lcmp, 1) := by decide +kernel
theorem dX7_impulse_71 : decode cX7_impulse 71 = .ok (.ifCond .ne 7, 3) := by decide +kernel
theorem dX7_impulse_74 : decode cX7_impulse 74 = .ok (.iconst 1, 1) := by decide +kernel
theorem dX7_impulse_75 : decode cX7_impulse 75 = .ok (.goto 4, 3) := by decide +kernel
theorem dX7_impulse_78 : decode cX7_impulse 78 = .ok (.iconst 0, 1) := by decide +kernel
theorem dX7_impulse_79 : decode cX7_impulse 79 = .ok (.iconst 3, 1) := by decide +kernel
theorem dX7_impulse_80 : decode cX7_impulse 80 = .ok (.invokevirtual 183, 3) := by decide +kernel
theorem dX7_impulse_83 : decode cX7_impulse 83 = .ok (.ifCond .eq 5, 3) := by decide +kernel
theorem dX7_impulse_86 : decode cX7_impulse 86 = .ok (.iconst 0, 1) := by decide +kernel
theorem dX7_impulse_87 : decode cX7_impulse 87 = .ok (.ireturn, 1) := by decide +kernel
theorem dX7_impulse_88 : decode cX7_impulse 88 = .ok (.aload_n 0, 1) := by decide +kernel
theorem dX7_impulse_89 : decode cX7_impulse 89 = .ok (.invokevirtual 192, 3) := by decide +kernel
theorem dX7_impulse_92 : decode cX7_impulse 92 = .ok (.aload_n 0, 1) := by decide +kernel
theorem dX7_impulse_93 : decode cX7_impulse 93 = .ok (.getfield 17, 3) := by decide +kernel
theorem dX7_impulse_96 : decode cX7_impulse 96 = .ok (.iload_n 1, 1) := by decide +kernel
theorem dX7_impulse_97 : decode cX7_impulse 97 = .ok (.iload_n 2, 1) := by decide +kernel
theorem dX7_impulse_98 : decode cX7_impulse 98 = .ok (.iload_n 3, 1) := by decide +kernel
theorem dX7_impulse_99 : decode cX7_impulse 99 = .ok (.invokestatic 132, 3) := by decide +kernel
theorem dX7_impulse_102 : decode cX7_impulse 102 = .ok (.aload_n 0, 1) := by decide +kernel
theorem dX7_impulse_103 : decode cX7_impulse 103 = .ok (.getfield 17, 3) := by decide +kernel
theorem dX7_impulse_106 : decode cX7_impulse 106 = .ok (.iconst 5, 1) := by decide +kernel
theorem dX7_impulse_107 : decode cX7_impulse 107 = .ok (.laload, 1) := by decide +kernel
theorem dX7_impulse_108 : decode cX7_impulse 108 = .ok (.l2i, 1) := by decide +kernel
theorem dX7_impulse_109 : decode cX7_impulse 109 = .ok (.ireturn, 1) := by decide +kernel
theorem dX7_stiffen_0 : decode cX7_stiffen 0 = .ok (.aload_n 0, 1) := by decide +kernel
theorem dX7_stiffen_1 : decode cX7_stiffen 1 = .ok (.iconst 0, 1) := by decide +kernel
theorem dX7_stiffen_2 : decode cX7_stiffen 2 = .ok (.putfield 39, 3) := by decide +kernel
theorem dX7_stiffen_5 : decode cX7_stiffen 5 = .ok (.aload_n 0, 1) := by decide +kernel
theorem dX7_stiffen_6 : decode cX7_stiffen 6 = .ok (.iload_n 1, 1) := by decide +kernel
theorem dX7_stiffen_7 : decode cX7_stiffen 7 = .ok (.invokevirtual 278, 3) := by decide +kernel
theorem dX7_stiffen_10 : decode cX7_stiffen 10 = .ok (.ifCond .ne 27, 3) := by decide +kernel
theorem dX7_stiffen_13 : decode cX7_stiffen 13 = .ok (.aload_n 0, 1) := by decide +kernel
theorem dX7_stiffen_14 : decode cX7_stiffen 14 = .ok (.iload_n 2, 1) := by decide +kernel
theorem dX7_stiffen_15 : decode cX7_stiffen 15 = .ok (.iconst 0, 1) := by decide +kernel
theorem dX7_stiffen_16 : decode cX7_stiffen 16 = .ok (.sipush 999, 3) := by decide +kernel
theorem dX7_stiffen_19 : decode cX7_stiffen 19 = .ok (.invokestatic 65, 3) := by decide +kernel
theorem dX7_stiffen_22 : decode cX7_stiffen 22 = .ok (.ifCond .ne 7, 3) := by decide +kernel
theorem dX7_stiffen_25 : decode cX7_stiffen 25 = .ok (.iconst 1, 1) := by decide +kernel
theorem dX7_stiffen_26 : decode cX7_stiffen 26 = .ok (.goto 4, 3) := by decide +kernel
theorem dX7_stiffen_29 : decode cX7_stiffen 29 = .ok (.iconst 0, 1) := by decide +kernel
theorem dX7_stiffen_30 : decode cX7_stiffen 30 = .ok (.iconst 2, 1) := by decide +kernel
theorem dX7_stiffen_31 : decode cX7_stiffen 31 = .ok (.invokevirtual 183, 3) := by decide +kernel
theorem dX7_stiffen_34 : decode cX7_stiffen 34 = .ok (.ifCond .eq 7, 3) := by decide +kernel
theorem dX7_stiffen_37 : decode cX7_stiffen 37 = .ok (.iconst 0, 1) := by decide +kernel
theorem dX7_stiffen_38 : decode cX7_stiffen 38 = .ok (.goto 16, 3) := by decide +kernel
theorem dX7_stiffen_41 : decode cX7_stiffen 41 = .ok (.aload_n 0, 1) := by decide +kernel
theorem dX7_stiffen_42 : decode cX7_stiffen 42 = .ok (.bipush 48, 2) := by decide +kernel
theorem dX7_stiffen_44 : decode cX7_stiffen 44 = .ok (.iconst 3, 1) := by decide +kernel
theorem dX7_stiffen_45 : decode cX7_stiffen 45 = .ok (.iload_n 1, 1) := by decide +kernel
theorem dX7_stiffen_46 : decode cX7_stiffen 46 = .ok (.imul, 1) := by decide +kernel
theorem dX7_stiffen_47 : decode cX7_stiffen 47 = .ok (.iadd, 1) := by decide +kernel
theorem dX7_stiffen_48 : decode cX7_stiffen 48 = .ok (.iconst 0, 1) := by decide +kernel
theorem dX7_stiffen_49 : decode cX7_stiffen 49 = .ok (.iadd, 1) := by decide +kernel
theorem dX7_stiffen_50 : decode cX7_stiffen 50 = .ok (.iload_n 2, 1) := by decide +kernel
theorem dX7_stiffen_51 : decode cX7_stiffen 51 = .ok (.invokevirtual 297, 3) := by decide +kernel
theorem dX7_stiffen_54 : decode cX7_stiffen 54 = .ok (.ireturn, 1) := by decide +kernel
theorem dX7_mend_0 : decode cX7_mend 0 = .ok (.aload_n 0, 1) := by decide +kernel
theorem dX7_mend_1 : decode cX7_mend 1 = .ok (.iconst 0, 1) := by decide +kernel
theorem dX7_mend_2 : decode cX7_mend 2 = .ok (.putfield 39, 3) := by decide +kernel
theorem dX7_mend_5 : decode cX7_mend 5 = .ok (.aload_n 0, 1) := by decide +kernel
theorem dX7_mend_6 : decode cX7_mend 6 = .ok (.iload_n 1, 1) := by decide +kernel
theorem dX7_mend_7 : decode cX7_mend 7 = .ok (.invokevirtual 278, 3) := by decide +kernel
theorem dX7_mend_10 : decode cX7_mend 10 = .ok (.ifCond .ne 16, 3) := by decide +kernel
theorem dX7_mend_13 : decode cX7_mend 13 = .ok (.aload_n 0, 1) := by decide +kernel
theorem dX7_mend_14 : decode cX7_mend 14 = .ok (.aload_n 0, 1) := by decide +kernel
theorem dX7_mend_15 : decode cX7_mend 15 = .ok (.iload_n 1, 1) := by decide +kernel
theorem dX7_mend_16 : decode cX7_mend 16 = .ok (.invokevirtual 212, 3) := by decide +kernel
theorem dX7_mend_19 : decode cX7_mend 19 = .ok (.iconst 2, 1) := by decide +kernel
theorem dX7_mend_20 : decode cX7_mend 20 = .ok (.invokevirtual 183, 3) := by decide +kernel
theorem dX7_mend_23 : decode cX7_mend 23 = .ok (.ifCond .eq 5, 3) := by decide +kernel
theorem dX7_mend_26 : decode cX7_mend 26 = .ok (.iconst 0, 1) := by decide +kernel
theorem dX7_mend_27 : decode cX7_mend 27 = .ok (.ireturn, 1) := by decide +kernel
theorem dX7_mend_28 : decode cX7_mend 28 = .ok (.aload_n 0, 1) := by decide +kernel
theorem dX7_mend_29 : decode cX7_mend 29 = .ok (.bipush 48, 2) := by decide +kernel
theorem dX7_mend_31 : decode cX7_mend 31 = .ok (.iconst 3, 1) := by decide +kernel
theorem dX7_mend_32 : decode cX7_mend 32 = .ok (.iload_n 1, 1) := by decide +kernel
theorem dX7_mend_33 : decode cX7_mend 33 = .ok (.imul, 1) := by decide +kernel
theorem dX7_mend_34 : decode cX7_mend 34 = .ok (.iadd, 1) := by decide +kernel
theorem dX7_mend_35 : decode cX7_mend 35 = .ok (.iconst 2, 1) := by decide +kernel
theorem dX7_mend_36 : decode cX7_mend 36 = .ok (.iadd, 1) := by decide +kernel
theorem dX7_mend_37 : decode cX7_mend 37 = .ok (.iconst 0, 1) := by decide +kernel
theorem dX7_mend_38 : decode cX7_mend 38 = .ok (.invokevirtual 297, 3) := by decide +kernel
theorem dX7_mend_41 : decode cX7_mend 41 = .ok (.istore_n 2, 1) := by decide +kernel
theorem dX7_mend_42 : decode cX7_mend 42 = .ok (.aload_n 0, 1) := by decide +kernel
theorem dX7_mend_43 : decode cX7_mend 43 = .ok (.invokevirtual 250, 3) := by decide +kernel
theorem dX7_mend_46 : decode cX7_mend 46 = .ok (.ireturn, 1) := by decide +kernel
theorem dX7_move_0 : decode cX7_move 0 = .ok (.aload_n 0, 1) := by decide +kernel
theorem dX7_move_1 : decode cX7_move 1 = .ok (.iconst 0, 1) := by decide +kernel
theorem dX7_move_2 : decode cX7_move 2 = .ok (.putfield 39, 3) := by decide +kernel
theorem dX7_move_5 : decode cX7_move 5 = .ok (.aload_n 0, 1) := by decide +kernel
theorem dX7_move_6 : decode cX7_move 6 = .ok (.iload_n 2, 1) := by decide +kernel
theorem dX7_move_7 : decode cX7_move 7 = .ok (.ldc 124, 2) := by decide +kernel
theorem dX7_move_9 : decode cX7_move 9 = .ok (.ldc 125, 2) := by decide +kernel
theorem dX7_move_11 : decode cX7_move 11 = .ok (.invokestatic 65, 3) := by decide +kernel
theorem dX7_move_14 : decode cX7_move 14 = .ok (.ifCond .ne 7, 3) := by decide +kernel
theorem dX7_move_17 : decode cX7_move 17 = .ok (.iconst 1, 1) := by decide +kernel
theorem dX7_move_18 : decode cX7_move 18 = .ok (.goto 4, 3) := by decide +kernel
theorem dX7_move_21 : decode cX7_move 21 = .ok (.iconst 0, 1) := by decide +kernel
theorem dX7_move_22 : decode cX7_move 22 = .ok (.iconst 1, 1) := by decide +kernel
theorem dX7_move_23 : decode cX7_move 23 = .ok (.invokevirtual 183, 3) := by decide +kernel
theorem dX7_move_26 : decode cX7_move 26 = .ok (.ifCond .eq 7, 3) := by decide +kernel
theorem dX7_move_29 : decode cX7_move 29 = .ok (.iconst 0, 1) := by decide +kernel
theorem dX7_move_30 : decode cX7_move 30 = .ok (.goto 17, 3) := by decide +kernel
theorem dX7_move_33 : decode cX7_move 33 = .ok (.aload_n 0, 1) := by decide +kernel
theorem dX7_move_34 : decode cX7_move 34 = .ok (.iload_n 1, 1) := by decide +kernel
theorem dX7_move_35 : decode cX7_move 35 = .ok (.ifCond .eq 7, 3) := by decide +kernel
theorem dX7_move_38 : decode cX7_move 38 = .ok (.iconst 3, 1) := by decide +kernel
theorem dX7_move_39 : decode cX7_move 39 = .ok (.goto 4, 3) := by decide +kernel
theorem dX7_move_42 : decode cX7_move 42 = .ok (.iconst 2, 1) := by decide +kernel
