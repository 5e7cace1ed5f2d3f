theorem dX5_readEnd_23 : decode cX5_readEnd 23 = .ok (.aload_n 0, 1) := by decide +kernel
theorem dX5_readEnd_24 : decode cX5_readEnd 24 = .ok (.getfield 39, 3) := by decide +kernel
theorem dX5_readEnd_27 : decode cX5_readEnd 27 = .ok (.invokevirtual 72, 3) := by decide +kernel
theorem dX5_readEnd_30 : decode cX5_readEnd 30 = .ok (.ireturn, 1) := by decide +kernel
theorem dX5_readEnd_31 : decode cX5_readEnd 31 = .ok (.aload_n 0, 1) := by decide +kernel
theorem dX5_readEnd_32 : decode cX5_readEnd 32 = .ok (.ldc 168, 2) := by decide +kernel
theorem dX5_readEnd_34 : decode cX5_readEnd 34 = .ok (.invokevirtual 162, 3) := by decide +kernel
theorem dX5_readEnd_37 : decode cX5_readEnd 37 = .ok (.ifCond .ne 5, 3) := by decide +kernel
theorem dX5_readEnd_40 : decode cX5_readEnd 40 = .ok (.iconst 0, 1) := by decide +kernel
theorem dX5_readEnd_41 : decode cX5_readEnd 41 = .ok (.ireturn, 1) := by decide +kernel
theorem dX5_readEnd_42 : decode cX5_readEnd 42 = .ok (.aload_n 0, 1) := by decide +kernel
theorem dX5_readEnd_43 : decode cX5_readEnd 43 = .ok (.getfield 35, 3) := by decide +kernel
theorem dX5_readEnd_46 : decode cX5_readEnd 46 = .ok (.iload_n 1, 1) := by decide +kernel
theorem dX5_readEnd_47 : decode cX5_readEnd 47 = .ok (.aload_n 0, 1) := by decide +kernel
theorem dX5_readEnd_48 : decode cX5_readEnd 48 = .ok (.getfield 79, 3) := by decide +kernel
theorem dX5_readEnd_51 : decode cX5_readEnd 51 = .ok (.invokevirtual 176, 3) := by decide +kernel
theorem dX5_readEnd_54 : decode cX5_readEnd 54 = .ok (.iconst 1, 1) := by decide +kernel
theorem dX5_readEnd_55 : decode cX5_readEnd 55 = .ok (.ireturn, 1) := by decide +kernel
theorem dX5_readImpulse_0 : decode cX5_readImpulse 0 = .ok (.aload_n 0, 1) := by decide +kernel
theorem dX5_readImpulse_1 : decode cX5_readImpulse 1 = .ok (.getfield 35, 3) := by decide +kernel
theorem dX5_readImpulse_4 : decode cX5_readImpulse 4 = .ok (.getfield 180, 3) := by decide +kernel
theorem dX5_readImpulse_7 : decode cX5_readImpulse 7 = .ok (.getfield 184, 3) := by decide +kernel
theorem dX5_readImpulse_10 : decode cX5_readImpulse 10 = .ok (.bipush 16, 2) := by decide +kernel
theorem dX5_readImpulse_12 : decode cX5_readImpulse 12 = .ok (.if_icmp .lt 11, 3) := by decide +kernel
theorem dX5_readImpulse_15 : decode cX5_readImpulse 15 = .ok (.aload_n 0, 1) := by decide +kernel
theorem dX5_readImpulse_16 : decode cX5_readImpulse 16 = .ok (.bipush (-5), 2) := by decide +kernel
theorem dX5_readImpulse_18 : decode cX5_readImpulse 18 = .ok (.iload_n 1, 1) := by decide +kernel
theorem dX5_readImpulse_19 : decode cX5_readImpulse 19 = .ok (.invokevirtual 72, 3) := by decide +kernel
theorem dX5_readImpulse_22 : decode cX5_readImpulse 22 = .ok (.ireturn, 1) := by decide +kernel
theorem dX5_readImpulse_23 : decode cX5_readImpulse 23 = .ok (.aload_n 0, 1) := by decide +kernel
theorem dX5_readImpulse_24 : decode cX5_readImpulse 24 = .ok (.iconst 0, 1) := by decide +kernel
theorem dX5_readImpulse_25 : decode cX5_readImpulse 25 = .ok (.sipush 9999, 3) := by decide +kernel
theorem dX5_readImpulse_28 : decode cX5_readImpulse 28 = .ok (.invokevirtual 76, 3) := by decide +kernel
theorem dX5_readImpulse_31 : decode cX5_readImpulse 31 = .ok (.ifCond .ne 5, 3) := by decide +kernel
theorem dX5_readImpulse_34 : decode cX5_readImpulse 34 = .ok (.iconst 0, 1) := by decide +kernel
theorem dX5_readImpulse_35 : decode cX5_readImpulse 35 = .ok (.ireturn, 1) := by decide +kernel
theorem dX5_readImpulse_36 : decode cX5_readImpulse 36 = .ok (.aload_n 0, 1) := by decide +kernel
theorem dX5_readImpulse_37 : decode cX5_readImpulse 37 = .ok (.getfield 79, 3) := by decide +kernel
theorem dX5_readImpulse_40 : decode cX5_readImpulse 40 = .ok (.istore_n 2, 1) := by decide +kernel
theorem dX5_readImpulse_41 : decode cX5_readImpulse 41 = .ok (.aload_n 0, 1) := by decide +kernel
theorem dX5_readImpulse_42 : decode cX5_readImpulse 42 = .ok (.iconst 0, 1) := by decide +kernel
theorem dX5_readImpulse_43 : decode cX5_readImpulse 43 = .ok (.aload_n 0, 1) := by decide +kernel
theorem dX5_readImpulse_44 : decode cX5_readImpulse 44 = .ok (.getfield 35, 3) := by decide +kernel
theorem dX5_readImpulse_47 : decode cX5_readImpulse 47 = .ok (.getfield 134, 3) := by decide +kernel
theorem dX5_readImpulse_50 : decode cX5_readImpulse 50 = .ok (.iconst 1, 1) := by decide +kernel
theorem dX5_readImpulse_51 : decode cX5_readImpulse 51 = .ok (.isub, 1) := by decide +kernel
theorem dX5_readImpulse_52 : decode cX5_readImpulse 52 = .ok (.invokevirtual 76, 3) := by decide +kernel
theorem dX5_readImpulse_55 : decode cX5_readImpulse 55 = .ok (.ifCond .ne 5, 3) := by decide +kernel
theorem dX5_readImpulse_58 : decode cX5_readImpulse 58 = .ok (.iconst 0, 1) := by decide +kernel
theorem dX5_readImpulse_59 : decode cX5_readImpulse 59 = .ok (.ireturn, 1) := by decide +kernel
theorem dX5_readImpulse_60 : decode cX5_readImpulse 60 = .ok (.aload_n 0, 1) := by decide +kernel
theorem dX5_readImpulse_61 : decode cX5_readImpulse 61 = .ok (.getfield 79, 3) := by decide +kernel
theorem dX5_readImpulse_64 : decode cX5_readImpulse 64 = .ok (.istore_n 3, 1) := by decide +kernel
theorem dX5_readImpulse_65 : decode cX5_readImpulse 65 = .ok (.aload_n 0, 1) := by decide +kernel
theorem dX5_readImpulse_66 : decode cX5_readImpulse 66 = .ok (.invokevirtual 63, 3) := by decide +kernel
theorem dX5_readImpulse_69 : decode cX5_readImpulse 69 = .ok (.aload_n 0, 1) := by decide +kernel
theorem dX5_readImpulse_70 : decode cX5_readImpulse 70 = .ok (.getfield 39, 3) := by decide +kernel
theorem dX5_readImpulse_73 : decode cX5_readImpulse 73 = .ok (.istore 4, 2) := by decide +kernel
theorem dX5_readImpulse_75 : decode cX5_readImpulse 75 = .ok (.aload_n 0, 1) := by decide +kernel
theorem dX5_readImpulse_76 : decode cX5_readImpulse 76 = .ok (.sipush 9999, 3) := by decide +kernel
theorem dX5_readImpulse_79 : decode cX5_readImpulse 79 = .ok (.invokevirtual 162, 3) := by decide +kernel
theorem dX5_readImpulse_82 : decode cX5_readImpulse 82 = .ok (.ifCond .ne 5, 3) := by decide +kernel
theorem dX5_readImpulse_85 : decode cX5_readImpulse 85 = .ok (.iconst 0, 1) := by decide +kernel
theorem dX5_readImpulse_86 : decode cX5_readImpulse 86 = .ok (.ireturn, 1) := by decide +kernel
theorem dX5_readImpulse_87 : decode cX5_readImpulse 87 = .ok (.aload_n 0, 1) := by decide +kernel
theorem dX5_readImpulse_88 : decode cX5_readImpulse 88 = .ok (.getfield 79, 3) := by decide +kernel
theorem dX5_readImpulse_91 : decode cX5_readImpulse 91 = .ok (.ifCond .ne 12, 3) := by decide +kernel
theorem dX5_readImpulse_94 : decode cX5_readImpulse 94 = .ok (.aload_n 0, 1) := by decide +kernel
theorem dX5_readImpulse_95 : decode cX5_readImpulse 95 = .ok (.bipush (-3), 2) := by decide +kernel
theorem dX5_readImpulse_97 : decode cX5_readImpulse 97 = .ok (.iload 4, 2) := by decide +kernel
theorem dX5_readImpulse_99 : decode cX5_readImpulse 99 = .ok (.invokevirtual 72, 3) := by decide +kernel
theorem dX5_readImpulse_102 : decode cX5_readImpulse 102 = .ok (.ireturn, 1) := by decide +kernel
theorem dX5_readImpulse_103 : decode cX5_readImpulse 103 = .ok (.aload_n 0, 1) := by decide +kernel
theorem dX5_readImpulse_104 : decode cX5_readImpulse 104 = .ok (.getfield 35, 3) := by decide +kernel
theorem dX5_readImpulse_107 : decode cX5_readImpulse 107 = .ok (.getfield 180, 3) := by decide +kernel
theorem dX5_readImpulse_110 : decode cX5_readImpulse 110 = .ok (.iload_n 2, 1) := by decide +kernel
theorem dX5_readImpulse_111 : decode cX5_readImpulse 111 = .ok (.iload_n 3, 1) := by decide +kernel
theorem dX5_readImpulse_112 : decode cX5_readImpulse 112 = .ok (.aload_n 0, 1) := by decide +kernel
theorem dX5_readImpulse_113 : decode cX5_readImpulse 113 = .ok (.getfield 79, 3) := by decide +kernel
theorem dX5_readImpulse_116 : decode cX5_readImpulse 116 = .ok (.invokevirtual 189, 3) := by decide +kernel
theorem dX5_readImpulse_119 : decode cX5_readImpulse 119 = .ok (.iconst 1, 1) := by decide +kernel
theorem dX5_readImpulse_120 : decode cX5_readImpulse 120 = .ok (.ireturn, 1) := by decide +kernel
theorem dX5_isFirst_0 : decode cX5_isFirst 0 = .ok (.aload_n 0, 1) := by decide +kernel
theorem dX5_isFirst_1 : decode cX5_isFirst 1 = .ok (.getfield 79, 3) := by decide +kernel
theorem dX5_isFirst_4 : decode cX5_isFirst 4 = .ok (.ifCond .lt 12, 3) := by decide +kernel
theorem dX5_isFirst_7 : decode cX5_isFirst 7 = .ok (.aload_n 0, 1) := by decide +kernel
theorem dX5_isFirst_8 : decode cX5_isFirst 8 = .ok (.getfield 79, 3) := by decide +kernel
theorem dX5_isFirst_11 : decode cX5_isFirst 11 = .ok (.aload_n 1, 1) := by decide +kernel
theorem dX5_isFirst_12 : decode cX5_isFirst 12 = .ok (.arraylength, 1) := by decide +kernel
theorem dX5_isFirst_13 : decode cX5_isFirst 13 = .ok (.if_icmp .lt 5, 3) := by decide +kernel
theorem dX5_isFirst_16 : decode cX5_isFirst 16 = .ok (.iconst 0, 1) := by decide +kernel
theorem dX5_isFirst_17 : decode cX5_isFirst 17 = .ok (.ireturn, 1) := by decide +kernel
theorem dX5_isFirst_18 : decode cX5_isFirst 18 = .ok (.aload_n 1, 1) := by decide +kernel
theorem dX5_isFirst_19 : decode cX5_isFirst 19 = .ok (.aload_n 0, 1) := by decide +kernel
theorem dX5_isFirst_20 : decode cX5_isFirst 20 = .ok (.getfield 79, 3) := by decide +kernel
theorem dX5_isFirst_23 : decode cX5_isFirst 23 = .ok (.baload, 1) := by decide +kernel
theorem dX5_isFirst_24 : decode cX5_isFirst 24 = .ok (.ifCond .eq 11, 3) := by decide +kernel
theorem dX5_isFirst_27 : decode cX5_isFirst 27 = .ok (.aload_n 0, 1) := by decide +kernel
theorem dX5_isFirst_28 : decode cX5_isFirst 28 = .ok (.bipush (-4), 2) := by decide +kernel
theorem dX5_isFirst_30 : decode cX5_isFirst 30 = .ok (.iload_n 2, 1) := by decide +kernel
theorem dX5_isFirst_31 : decode cX5_isFirst 31 = .ok (.invokevirtual 72, 3) := by decide +kernel
theorem dX5_isFirst_34 : decode cX5_isFirst 34 = .ok (.ireturn, 1) := by decide +kernel
theorem dX5_isFirst_35 : decode cX5_isFirst 35 = .ok (.aload_n 1, 1) := by decide +kernel
theorem dX5_isFirst_36 : decode cX5_isFirst 36 = .ok (.aload_n 0, 1) := by decide +kernel
theorem dX5_isFirst_37 : decode cX5_isFirst 37 = .ok (.getfield 79, 3) := by decide +kernel
theorem dX5_isFirst_40 : decode cX5_isFirst 40 = .ok (.iconst 1, 1) := by decide +kernel
theorem dX5_isFirst_41 : decode cX5_isFirst 41 = .ok (.bastore, 1) := by decide +kernel
theorem dX5_isFirst_42 : decode cX5_isFirst 42 = .ok (.iconst 1, 1) := by decide +kernel
theorem dX5_isFirst_43 : decode cX5_isFirst 43 = .ok (.ireturn, 1) := by decide +kernel
theorem dX5_readNumber_0 : decode cX5_readNumber 0 = .ok (.aload_n 0, 1) := by decide +kernel
theorem dX5_readNumber_1 : decode cX5_readNumber 1 = .ok (.invokevirtual 63, 3) := by decide +kernel
theorem dX5_readNumber_4 : decode cX5_readNumber 4 = .ok (.aload_n 0, 1) := by decide +kernel
theorem dX5_readNumber_5 : decode cX5_readNumber 5 = .ok (.getfield 39, 3) := by decide +kernel
theorem dX5_readNumber_8 : decode cX5_readNumber 8 = .ok (.istore_n 3, 1) := by decide +kernel
theorem dX5_readNumber_9 : decode cX5_readNumber 9 = .ok (.aload_n 0, 1) := by decide +kernel
theorem dX5_readNumber_10 : decode cX5_readNumber 10 = .ok (.invokevirtual 193, 3) := by decide +kernel
theorem dX5_readNumber_13 : decode cX5_readNumber 13 = .ok (.ifCond .eq 17, 3) := by decide +kernel
theorem dX5_readNumber_16 : decode cX5_readNumber 16 = .ok (.aload_n 0, 1) := by decide +kernel
theorem dX5_readNumber_17 : decode cX5_readNumber 17 = .ok (.iload_n 1, 1) := by decide +kernel
theorem dX5_readNumber_18 : decode cX5_readNumber 18 = .ok (.iload_n 2, 1) := by decide +kernel
theorem dX5_readNumber_19 : decode cX5_readNumber 19 = .ok (.iload_n 3, 1) := by decide +kernel
theorem dX5_readNumber_20 : decode cX5_readNumber 20 = .ok (.invokevirtual 196, 3) := by decide +kernel
theorem dX5_readNumber_23 : decode cX5_readNumber 23 = .ok (.ifCond .eq 7, 3) := by decide +kernel
theorem dX5_readNumber_26 : decode cX5_readNumber 26 = .ok (.iconst 1, 1) := by decide +kernel
theorem dX5_readNumber_27 : decode cX5_readNumber 27 = .ok (.goto 4, 3) := by decide +kernel
theorem dX5_readNumber_30 : decode cX5_readNumber 30 = .ok (.iconst 0, 1) := by decide +kernel
theorem dX5_readNumber_31 : decode cX5_readNumber 31 = .ok (.ireturn, 1) := by decide +kernel
theorem dX5_readSigned_0 : decode cX5_readSigned 0 = .ok (.aload_n 0, 1) := by decide +kernel
theorem dX5_readSigned_1 : decode cX5_readSigned 1 = .ok (.invokevirtual 63, 3) := by decide +kernel
theorem dX5_readSigned_4 : decode cX5_readSigned 4 = .ok (.aload_n 0, 1) := by decide +kernel
theorem dX5_readSigned_5 : decode cX5_readSigned 5 = .ok (.getfield 39, 3) := by decide +kernel
theorem dX5_readSigned_8 : decode cX5_readSigned 8 = .ok (.istore_n 2, 1) := by decide +kernel
theorem dX5_readSigned_9 : decode cX5_readSigned 9 = .ok (.aload_n 0, 1) := by decide +kernel
theorem dX5_readSigned_10 : decode cX5_readSigned 10 = .ok (.aload_n 0, 1) := by decide +kernel
theorem dX5_readSigned_11 : decode cX5_readSigned 11 = .ok (.getfield 39, 3) := by decide +kernel
theorem dX5_readSigned_14 : decode cX5_readSigned 14 = .ok (.invokevirtual 200, 3) := by decide +kernel
theorem dX5_readSigned_17 : decode cX5_readSigned 17 = .ok (.bipush 45, 2) := by decide +kernel
theorem dX5_readSigned_19 : decode cX5_readSigned 19 = .ok (.if_icmp .ne 7, 3) := by decide +kernel
theorem dX5_readSigned_22 : decode cX5_readSigned 22 = .ok (.iconst 1, 1) := by decide +kernel
theorem dX5_readSigned_23 : decode cX5_readSigned 23 = .ok (.goto 4, 3) := by decide +kernel
theorem dX5_readSigned_26 : decode cX5_readSigned 26 = .ok (.iconst 0, 1) := by decide +kernel
theorem dX5_readSigned_27 : decode cX5_readSigned 27 = .ok (.istore_n 3, 1) := by decide +kernel
theorem dX5_readSigned_28 : decode cX5_readSigned 28 = .ok (.iload_n 3, 1) := by decide +kernel
theorem dX5_readSigned_29 : decode cX5_readSigned 29 = .ok (.ifCond .eq 17, 3) := by decide +kernel
theorem dX5_readSigned_32 : decode cX5_readSigned 32 = .ok (.aload_n 0, 1) := by decide +kernel
theorem dX5_readSigned_33 : decode cX5_readSigned 33 = .ok (.dup, 1) := by decide +kernel
theorem dX5_readSigned_34 : decode cX5_readSigned 34 = .ok (.getfield 39, 3) := by decide +kernel
theorem dX5_readSigned_37 : decode cX5_readSigned 37 = .ok (.iconst 1, 1) := by decide +kernel
theorem dX5_readSigned_38 : decode cX5_readSigned 38 = .ok (.iadd, 1) := by decide +kernel
theorem dX5_readSigned_39 : decode cX5_readSigned 39 = .ok (.putfield 39, 3) := by decide +kernel
theorem dX5_readSigned_42 : decode cX5_readSigned 42 = .ok (.aload_n 0, 1) := by decide +kernel
theorem dX5_readSigned_43 : decode cX5_readSigned 43 = .ok (.invokevirtual 63, 3) := by decide +kernel
theorem dX5_readSigned_46 : decode cX5_readSigned 46 = .ok (.aload_n 0, 1) := by decide +kernel
theorem dX5_readSigned_47 : decode cX5_readSigned 47 = .ok (.invokevirtual 193, 3) := by decide +kernel
theorem dX5_readSigned_50 : decode cX5_readSigned 50 = .ok (.ifCond .ne 5, 3) := by decide +kernel
theorem dX5_readSigned_53 : decode cX5_readSigned 53 = .ok (.iconst 0, 1) := by decide +kernel
theorem dX5_readSigned_54 : decode cX5_readSigned 54 = .ok (.ireturn, 1) := by decide +kernel
theorem dX5_readSigned_55 : decode cX5_readSigned 55 = .ok (.iload_n 3, 1) := by decide +kernel
theorem dX5_readSigned_56 : decode cX5_readSigned 56 = .ok (.ifCond .eq 12, 3) := by decide +kernel
theorem dX5_readSigned_59 : decode cX5_readSigned 59 = .ok (.aload_n 0, 1) := by decide +kernel
theorem dX5_readSigned_60 : decode cX5_readSigned 60 = .ok (.aload_n 0, 1) := by decide +kernel
theorem dX5_readSigned_61 : decode cX5_readSigned 61 = .ok (.getfield 79, 3) := by decide +kernel
theorem dX5_readSigned_64 : decode cX5_readSigned 64 = .ok (.ineg, 1) := by decide +kernel
theorem dX5_readSigned_65 : decode cX5_readSigned 65 = .ok (.putfield 79, 3) := by decide +kernel
theorem dX5_readSigned_68 : decode cX5_readSigned 68 = .ok (.aload_n 0, 1) := by decide +kernel
theorem dX5_readSigned_69 : decode cX5_readSigned 69 = .ok (.iload_n 1, 1) := by decide +kernel
theorem dX5_readSigned_70 : decode cX5_readSigned 70 = .ok (.ineg, 1) := by decide +kernel
theorem dX5_readSigned_71 : decode cX5_readSigned 71 = .ok (.iload_n 1, 1) := by decide +kernel
theorem dX5_readSigned_72 : decode cX5_readSigned 72 = .ok (.iload_n 2, 1) := by decide +kernel
theorem dX5_readSigned_73 : decode cX5_readSigned 73 = .ok (.invokevirtual 196, 3) := by decide +kernel
theorem dX5_readSigned_76 : decode cX5_readSigned 76 = .ok (.ireturn, 1) := by decide +kernel
theorem dX5_checkRange_0 : decode cX5_checkRange 0 = .ok (.aload_n 0, 1) := by decide +kernel
theorem dX5_checkRange_1 : decode cX5_checkRange 1 = .ok (.getfield 79, 3) := by decide +kernel
theorem dX5_checkRange_4 : decode cX5_checkRange 4 = .ok (.iload_n 1, 1) := by decide +kernel
theorem dX5_checkRange_5 : decode cX5_checkRange 5 = .ok (.if_icmp .lt 11, 3) := by decide +kernel
theorem dX5_checkRange_8 : decode cX5_checkRange 8 = .ok (.aload_n 0, 1) := by decide +kernel
theorem dX5_checkRange_9 : decode cX5_checkRange 9 = .ok (.getfield 79, 3) := by decide +kernel
theorem dX5_checkRange_12 : decode cX5_checkRange 12 = .ok (.iload_n 2, 1) := by decide +kernel
theorem dX5_checkRange_13 : decode cX5_checkRange 13 = .ok (.if_icmp .le 13, 3) := by decide +kernel
theorem dX5_checkRange_16 : decode cX5_checkRange 16 = .ok (.aload_n 0, 1) := by decide +kernel
theorem dX5_checkRange_17 : decode cX5_checkRange 17 = .ok (.bipush (-3), 2) := by decide +kernel
theorem dX5_checkRange_19 : decode cX5_checkRange 19 = .ok (.iload_n 3, 1) := by decide +kernel
theorem dX5_checkRange_20 : decode cX5_checkRange 20 = .ok (.invokevirtual 72, 3) := by decide +kernel
theorem dX5_checkRange_23 : decode cX5_checkRange 23 = .ok (.ifCond .eq 7, 3) := by decide +kernel
theorem dX5_checkRange_26 : decode cX5_checkRange 26 = .ok (.iconst 1, 1) := by decide +kernel
theorem dX5_checkRange_27 : decode cX5_checkRange 27 = .ok (.goto 4, 3) := by decide +kernel
theorem dX5_checkRange_30 : decode cX5_checkRange 30 = .ok (.iconst 0, 1) := by decide +kernel
theorem dX5_checkRange_31 : decode cX5_checkRange 31 = .ok (.ireturn, 1) := by decide +kernel
theorem dX5_readDigits_0 : decode cX5_readDigits 0 = .ok (.aload_n 0, 1) := by decide +kernel
theorem dX5_readDigits_1 : decode cX5_readDigits 1 = .ok (.getfield 39, 3) := by decide +kernel
theorem dX5_readDigits_4 : decode cX5_readDigits 4 = .ok (.istore_n 1, 1) := by decide +kernel
theorem dX5_readDigits_5 : decode cX5_readDigits 5 = .ok (.aload_n 0, 1) := by decide +kernel
theorem dX5_readDigits_6 : decode cX5_readDigits 6 = .ok (.iconst 0, 1) := by decide +kernel
theorem dX5_readDigits_7 : decode cX5_readDigits 7 = .ok (.putfield 79, 3) := by decide +kernel
theorem dX5_readDigits_10 : decode cX5_readDigits 10 = .ok (.aload_n 0, 1) := by decide +kernel
theorem dX5_readDigits_11 : decode cX5_readDigits 11 = .ok (.getfield 39, 3) := by decide +kernel
theorem dX5_readDigits_14 : decode cX5_readDigits 14 = .ok (.aload_n 0, 1) := by decide +kernel
theorem dX5_readDigits_15 : decode cX5_readDigits 15 = .ok (.getfield 32, 3) := by decide +kernel
theorem dX5_readDigits_18 : decode cX5_readDigits 18 = .ok (.if_icmp .ge 62, 3) := by decide +kernel
theorem dX5_readDigits_21 : decode cX5_readDigits 21 = .ok (.aload_n 0, 1) := by decide +kernel
theorem dX5_readDigits_22 : decode cX5_readDigits 22 = .ok (.aload_n 0, 1) := by decide +kernel
theorem dX5_readDigits_23 : decode cX5_readDigits 23 = .ok (.getfield 39, 3) := by decide +kernel
theorem dX5_readDigits_26 : decode cX5_readDigits 26 = .ok (.invokevirtual 200, 3) := by decide +kernel
theorem dX5_readDigits_29 : decode cX5_readDigits 29 = .ok (.invokestatic 204, 3) := by decide +kernel
theorem dX5_readDigits_32 : decode cX5_readDigits 32 = .ok (.ifCond .eq 48, 3) := by decide +kernel
theorem dX5_readDigits_35 : decode cX5_readDigits 35 = .ok (.aload_n 0, 1) := by decide +kernel
theorem dX5_readDigits_36 : decode cX5_readDigits 36 = .ok (.getfield 79, 3) := by decide +kernel
theorem dX5_readDigits_39 : decode cX5_readDigits 39 = .ok (.ldc 207, 2) := by decide +kernel
theorem dX5_readDigits_41 : decode cX5_readDigits 41 = .ok (.if_icmp .ge 26, 3) := by decide +kernel
theorem dX5_readDigits_44 : decode cX5_readDigits 44 = .ok (.aload_n 0, 1) := by decide +kernel
theorem dX5_readDigits_45 : decode cX5_readDigits 45 = .ok (.bipush 10, 2) := by decide +kernel
theorem dX5_readDigits_47 : decode cX5_readDigits 47 = .ok (.aload_n 0, 1) := by decide +kernel
theorem dX5_readDigits_48 : decode cX5_readDigits 48 = .ok (.getfield 79, 3) := by decide +kernel
theorem dX5_readDigits_51 : decode cX5_readDigits 51 = .ok (.imul, 1) := by decide +kernel
theorem dX5_readDigits_52 : decode cX5_readDigits 52 = .ok (.aload_n 0, 1) := by decide +kernel
theorem dX5_readDigits_53 : decode cX5_readDigits 53 = .ok (.aload_n 0, 1) := by decide +kernel
theorem dX5_readDigits_54 : decode cX5_readDigits 54 = .ok (.getfield 39, 3) := by decide +kernel
theorem dX5_readDigits_57 : decode cX5_readDigits 57 = .ok (.invokevirtual 200, 3) := by decide +kernel
theorem dX5_readDigits_60 : decode cX5_readDigits 60 = .ok (.bipush 48, 2) := by decide +kernel
theorem dX5_readDigits_62 : decode cX5_readDigits 62 = .ok (.isub, 1) := by decide +kernel
theorem dX5_readDigits_63 : decode cX5_readDigits 63 = .ok (.iadd, 1) := by decide +kernel
theorem dX5_readDigits_64 : decode cX5_readDigits 64 = .ok (.putfield 79, 3) := by decide +kernel
theorem dX5_readDigits_67 : decode cX5_readDigits 67 = .ok (.aload_n 0, 1) := by decide +kernel
theorem dX5_readDigits_68 : decode cX5_readDigits 68 = .ok (.dup, 1) := by decide +kernel
theorem dX5_readDigits_69 : decode cX5_readDigits 69 = .ok (.getfield 39, 3) := by decide +kernel
theorem dX5_readDigits_72 : decode cX5_readDigits 72 = .ok (.iconst 1, 1) := by decide +kernel
theorem dX5_readDigits_73 : decode cX5_readDigits 73 = .ok (.iadd, 1) := by decide +kernel
theorem dX5_readDigits_74 : decode cX5_readDigits 74 = .ok (.putfield 39, 3) := by decide +kernel
theorem dX5_readDigits_77 : decode cX5_readDigits 77 = .ok (.goto (-67), 3) := by decide +kernel
theorem dX5_readDigits_80 : decode cX5_readDigits 80 = .ok (.aload_n 0, 1) := by decide +kernel
theorem dX5_readDigits_81 : decode cX5_readDigits 81 = .ok (.getfield 39, 3) := by decide +kernel
theorem dX5_readDigits_84 : decode cX5_readDigits 84 = .ok (.iload_n 1, 1) := by decide +kernel
theorem dX5_readDigits_85 : decode cX5_readDigits 85 = .ok (.if_icmp .gt 13, 3) := by decide +kernel
theorem dX5_readDigits_88 : decode cX5_readDigits 88 = .ok (.aload_n 0, 1) := by decide +kernel
theorem dX5_readDigits_89 : decode cX5_readDigits 89 = .ok (.bipush (-2), 2) := by decide +kernel
theorem dX5_readDigits_91 : decode cX5_readDigits 91 = .ok (.iload_n 1, 1) := by decide +kernel
theorem dX5_readDigits_92 : decode cX5_readDigits 92 = .ok (.invokevirtual 72, 3) := by decide +kernel
theorem dX5_readDigits_95 : decode cX5_readDigits 95 = .ok (.ifCond .eq 7, 3) := by decide +kernel
theorem dX5_readDigits_98 : decode cX5_readDigits 98 = .ok (.iconst 1, 1) := by decide +kernel
theorem dX5_readDigits_99 : decode cX5_readDigits 99 = .ok (.goto 4, 3) := by decide +kernel
theorem dX5_readDigits_102 : decode cX5_readDigits 102 = .ok (.iconst 0, 1) := by decide +kernel
theorem dX5_readDigits_103 : decode cX5_readDigits 103 = .ok (.ireturn, 1) := by decide +kernel
theorem dX5_readSign_0 : decode cX5_readSign 0 = .ok (.aload_n 0, 1) := by decide +kernel
theorem dX5_readSign_1 : decode cX5_readSign 1 = .ok (.invokevirtual 63, 3) := by decide +kernel
theorem dX5_readSign_4 : decode cX5_readSign 4 = .ok (.aload_n 0, 1) := by decide +kernel
theorem dX5_readSign_5 : decode cX5_readSign 5 = .ok (.aload_n 0, 1) := by decide +kernel
theorem dX5_readSign_6 : decode cX5_readSign 6 = .ok (.getfield 39, 3) := by decide +kernel
theorem dX5_readSign_9 : decode cX5_readSign 9 = .ok (.invokevirtual 200, 3) := by decide +kernel
theorem dX5_readSign_12 : decode cX5_readSign 12 = .ok (.iload_n 1, 1) := by decide +kernel
theorem dX5_readSign_13 : decode cX5_readSign 13 = .ok (.if_icmp .eq 14, 3) := by decide +kernel
theorem dX5_readSign_16 : decode cX5_readSign 16 = .ok (.aload_n 0, 1) := by decide +kernel
theorem dX5_readSign_17 : decode cX5_readSign 17 = .ok (.bipush (-2), 2) := by decide +kernel
theorem dX5_readSign_19 : decode cX5_readSign 19 = .ok (.aload_n 0, 1) := by decide +kernel
theorem dX5_readSign_20 : decode cX5_readSign 20 = .ok (.getfield 39, 3) := by decide +kernel
theorem dX5_readSign_23 : decode cX5_readSign 23 = .ok (.invokevirtual 72, 3) := by decide +kernel
theorem dX5_readSign_26 : decode cX5_readSign 26 = .ok (.ireturn, 1) := by decide +kernel
theorem dX5_readSign_27 : decode cX5_readSign 27 = .ok (.aload_n 0, 1) := by decide +kernel
theorem dX5_readSign_28 : decode cX5_readSign 28 = .ok (.dup, 1) := by decide +kernel
theorem dX5_readSign_29 : decode cX5_readSign 29 = .ok (.getfield 39, 3) := by decide +kernel
theorem dX5_readSign_32 : decode cX5_readSign 32 = .ok (.iconst 1, 1) := by decide +kernel
theorem dX5_readSign_33 : decode cX5_readSign 33 = .ok (.iadd, 1) := by decide +kernel
theorem dX5_readSign_34 : decode cX5_readSign 34 = .ok (.putfield 39, 3) := by decide +kernel
theorem dX5_readSign_37 : decode cX5_readSign 37 = .ok (.iconst 1, 1) := by decide +kernel
theorem dX5_readSign_38 : decode cX5_readSign 38 = .ok (.ireturn, 1) := by decide +kernel
theorem dX5_takeWord_0 : decode cX5_takeWord 0 = .ok (.aload_n 0, 1) := by decide +kernel
theorem dX5_takeWord_1 : decode cX5_takeWord 1 = .ok (.invokevirtual 63, 3) := by decide +kernel
theorem dX5_takeWord_4 : decode cX5_takeWord 4 = .ok (.iconst 0, 1) := by decide +kernel
theorem dX5_takeWord_5 : decode cX5_takeWord 5 = .ok (.istore_n 2, 1) := by decide +kernel
theorem dX5_takeWord_6 : decode cX5_takeWord 6 = .ok (.iload_n 2, 1) := by decide +kernel
theorem dX5_takeWord_7 : decode cX5_takeWord 7 = .ok (.aload_n 1, 1) := by decide +kernel
theorem dX5_takeWord_8 : decode cX5_takeWord 8 = .ok (.invokevirtual 208, 3) := by decide +kernel
theorem dX5_takeWord_11 : decode cX5_takeWord 11 = .ok (.if_icmp .ge 29, 3) := by decide +kernel
theorem dX5_takeWord_14 : decode cX5_takeWord 14 = .ok (.aload_n 0, 1) := by decide +kernel
theorem dX5_takeWord_15 : decode cX5_takeWord 15 = .ok (.aload_n 0, 1) := by decide +kernel
theorem dX5_takeWord_16 : decode cX5_takeWord 16 = .ok (.getfield 39, 3) := by decide +kernel
theorem dX5_takeWord_19 : decode cX5_takeWord 19 = .ok (.iload_n 2, 1) := by decide +kernel
theorem dX5_takeWord_20 : decode cX5_takeWord 20 = .ok (.iadd, 1) := by decide +kernel
theorem dX5_takeWord_21 : decode cX5_takeWord 21 = .ok (.invokevirtual 200, 3) := by decide +kernel
theorem dX5_takeWord_24 : decode cX5_takeWord 24 = .ok (.aload_n 1, 1) := by decide +kernel
theorem dX5_takeWord_25 : decode cX5_takeWord 25 = .ok (.iload_n 2, 1) := by decide +kernel
theorem dX5_takeWord_26 : decode cX5_takeWord 26 = .ok (.invokevirtual 213, 3) := by decide +kernel
theorem dX5_takeWord_29 : decode cX5_takeWord 29 = .ok (.if_icmp .eq 5, 3) := by decide +kernel
theorem dX5_takeWord_32 : decode cX5_takeWord 32 = .ok (.iconst 0, 1) := by decide +kernel
theorem dX5_takeWord_33 : decode cX5_takeWord 33 = .ok (.ireturn, 1) := by decide +kernel
theorem dX5_takeWord_34 : decode cX5_takeWord 34 = .ok (.iinc 2 1, 3) := by decide +kernel
theorem dX5_takeWord_37 : decode cX5_takeWord 37 = .ok (.goto (-31), 3) := by decide +kernel
theorem dX5_takeWord_40 : decode cX5_takeWord 40 = .ok (.aload_n 0, 1) := by decide +kernel
theorem dX5_takeWord_41 : decode cX5_takeWord 41 = .ok (.aload_n 0, 1) := by decide +kernel
theorem dX5_takeWord_42 : decode cX5_takeWord 42 = .ok (.getfield 39, 3) := by decide +kernel
theorem dX5_takeWord_45 : decode cX5_takeWord 45 = .ok (.aload_n 1, 1) := by decide +kernel
theorem dX5_takeWord_46 : decode cX5_takeWord 46 = .ok (.invokevirtual 208, 3) := by decide +kernel
theorem dX5_takeWord_49 : decode cX5_takeWord 49 = .ok (.iadd, 1) := by decide +kernel
theorem dX5_takeWord_50 : decode cX5_takeWord 50 = .ok (.invokevirtual 200, 3) := by decide +kernel
theorem dX5_takeWord_53 : decode cX5_takeWord 53 = .ok (.invokestatic 217, 3) := by decide +kernel
theorem dX5_takeWord_56 : decode cX5_takeWord 56 = .ok (.ifCond .eq 5, 3) := by decide +kernel
theorem dX5_takeWord_59 : decode cX5_takeWord 59 = .ok (.iconst 0, 1) := by decide +kernel
theorem dX5_takeWord_60 : decode cX5_takeWord 60 = .ok (.ireturn, 1) := by decide +kernel
theorem dX5_takeWord_61 : decode cX5_takeWord 61 = .ok (.aload_n 0, 1) := by decide +kernel
theorem dX5_takeWord_62 : decode cX5_takeWord 62 = .ok (.dup, 1) := by decide +kernel
theorem dX5_takeWord_63 : decode cX5_takeWord 63 = .ok (.getfield 39, 3) := by decide +kernel
theorem dX5_takeWord_66 : decode cX5_takeWord 66 = .ok (.aload_n 1, 1) := by decide +kernel
theorem dX5_takeWord_67 : decode cX5_takeWord 67 = .ok (.invokevirtual 208, 3) := by decide +kernel
theorem dX5_takeWord_70 : decode cX5_takeWord 70 = .ok (.iadd, 1) := by decide +kernel
theorem dX5_takeWord_71 : decode cX5_takeWord 71 = .ok (.putfield 39, 3) := by decide +kernel
theorem dX5_takeWord_74 : decode cX5_takeWord 74 = .ok (.iconst 1, 1) := by decide +kernel
theorem dX5_takeWord_75 : decode cX5_takeWord 75 = .ok (.ireturn, 1) := by decide +kernel
theorem dX5_skipSpaces_0 : decode cX5_skipSpaces 0 = .ok (.aload_n 0, 1) := by decide +kernel
theorem dX5_skipSpaces_1 : decode cX5_skipSpaces 1 = .ok (.getfield 39, 3) := by decide +kernel
theorem dX5_skipSpaces_4 : decode cX5_skipSpaces 4 = .ok (.aload_n 0, 1) := by decide +kernel
theorem dX5_skipSpaces_5 : decode cX5_skipSpaces 5 = .ok (.getfield 32, 3) := by decide +kernel
theorem dX5_skipSpaces_8 : decode cX5_skipSpaces 8 = .ok (.if_icmp .ge 29, 3) := by decide +kernel
theorem dX5_skipSpaces_11 : decode cX5_skipSpaces 11 = .ok (.aload_n 0, 1) := by decide +kernel
theorem dX5_skipSpaces_12 : decode cX5_skipSpaces 12 = .ok (.aload_n 0, 1) := by decide +kernel
theorem dX5_skipSpaces_13 : decode cX5_skipSpaces 13 = .ok (.getfield 39, 3) := by decide +kernel
theorem dX5_skipSpaces_16 : decode cX5_skipSpaces 16 = .ok (.invokevirtual 200, 3) := by decide +kernel
theorem dX5_skipSpaces_19 : decode cX5_skipSpaces 19 = .ok (.bipush 32, 2) := by decide +kernel
theorem dX5_skipSpaces_21 : decode cX5_skipSpaces 21 = .ok (.if_icmp .ne 16, 3) := by decide +kernel
theorem dX5_skipSpaces_24 : decode cX5_skipSpaces 24 = .ok (.aload_n 0, 1) := by decide +kernel
theorem dX5_skipSpaces_25 : decode cX5_skipSpaces 25 = .ok (.dup, 1) := by decide +kernel
theorem dX5_skipSpaces_26 : decode cX5_skipSpaces 26 = .ok (.getfield 39, 3) := by decide +kernel
theorem dX5_skipSpaces_29 : decode cX5_skipSpaces 29 = .ok (.iconst 1, 1) := by decide +kernel
theorem dX5_skipSpaces_30 : decode cX5_skipSpaces 30 = .ok (.iadd, 1) := by decide +kernel
theorem dX5_skipSpaces_31 : decode cX5_skipSpaces 31 = .ok (.putfield 39, 3) := by decide +kernel
theorem dX5_skipSpaces_34 : decode cX5_skipSpaces 34 = .ok (.goto (-34), 3) := by decide +kernel
theorem dX5_skipSpaces_37 : decode cX5_skipSpaces 37 = .ok (.return_, 1) := by decide +kernel
theorem dX5_byteAt_0 : decode cX5_byteAt 0 = .ok (.aload_n 0, 1) := by decide +kernel
theorem dX5_byteAt_1 : decode cX5_byteAt 1 = .ok (.getfield 22, 3) := by decide +kernel
theorem dX5_byteAt_4 : decode cX5_byteAt 4 = .ok (.ifnull 24, 3) := by decide +kernel
theorem dX5_byteAt_7 : decode cX5_byteAt 7 = .ok (.iload_n 1, 1) := by decide +kernel
theorem dX5_byteAt_8 : decode cX5_byteAt 8 = .ok (.ifCond .lt 20, 3) := by decide +kernel
theorem dX5_byteAt_11 : decode cX5_byteAt 11 = .ok (.iload_n 1, 1) := by decide +kernel
theorem dX5_byteAt_12 : decode cX5_byteAt 12 = .ok (.aload_n 0, 1) := by decide +kernel
theorem dX5_byteAt_13 : decode cX5_byteAt 13 = .ok (.getfield 32, 3) := by decide +kernel
theorem dX5_byteAt_16 : decode cX5_byteAt 16 = .ok (.if_icmp .ge 12, 3) := by decide +kernel
theorem dX5_byteAt_19 : decode cX5_byteAt 19 = .ok (.iload_n 1, 1) := by decide +kernel
theorem dX5_byteAt_20 : decode cX5_byteAt 20 = .ok (.aload_n 0, 1) := by decide +kernel
theorem dX5_byteAt_21 : decode cX5_byteAt 21 = .ok (.getfield 22, 3) := by decide +kernel
theorem dX5_byteAt_24 : decode cX5_byteAt 24 = .ok (.arraylength, 1) := by decide +kernel
theorem dX5_byteAt_25 : decode cX5_byteAt 25 = .ok (.if_icmp .lt 5, 3) := by decide +kernel
theorem dX5_byteAt_28 : decode cX5_byteAt 28 = .ok (.iconst (-1), 1) := by decide +kernel
theorem dX5_byteAt_29 : decode cX5_byteAt 29 = .ok (.ireturn, 1) := by decide +kernel
theorem dX5_byteAt_30 : decode cX5_byteAt 30 = .ok (.aload_n 0, 1) := by decide +kernel
theorem dX5_byteAt_31 : decode cX5_byteAt 31 = .ok (.getfield 22, 3) := by decide +kernel
theorem dX5_byteAt_34 : decode cX5_byteAt 34 = .ok (.iload_n 1, 1) := by decide +kernel
theorem dX5_byteAt_35 : decode cX5_byteAt 35 = .ok (.baload, 1) := by decide +kernel
theorem dX5_byteAt_36 : decode cX5_byteAt 36 = .ok (.sipush 255, 3) := by decide +kernel
theorem dX5_byteAt_39 : decode cX5_byteAt 39 = .ok (.iand, 1) := by decide +kernel
theorem dX5_byteAt_40 : decode cX5_byteAt 40 = .ok (.ireturn, 1) := by decide +kernel
theorem dX5_isDigit_0 : decode cX5_isDigit 0 = .ok (.iload_n 0, 1) := by decide +kernel
theorem dX5_isDigit_1 : decode cX5_isDigit 1 = .ok (.bipush 48, 2) := by decide +kernel
theorem dX5_isDigit_3 : decode cX5_isDigit 3 = .ok (.if_icmp .lt 13, 3) := by decide +kernel
theorem dX5_isDigit_6 : decode cX5_isDigit 6 = .ok (.iload_n 0, 1) := by decide +kernel
theorem dX5_isDigit_7 : decode cX5_isDigit 7 = .ok (.bipush 57, 2) := by decide +kernel
theorem dX5_isDigit_9 : decode cX5_isDigit 9 = .ok (.if_icmp .gt 7, 3) := by decide +kernel
theorem dX5_isDigit_12 : decode cX5_isDigit 12 = .ok (.iconst 1, 1) := by decide +kernel
theorem dX5_isDigit_13 : decode cX5_isDigit 13 = .ok (.goto 4, 3) := by decide +kernel
theorem dX5_isDigit_16 : decode cX5_isDigit 16 = .ok (.iconst 0, 1) := by decide +kernel
theorem dX5_isDigit_17 : decode cX5_isDigit 17 = .ok (.ireturn, 1) := by decide +kernel
theorem dX5_isLetter_0 : decode cX5_isLetter 0 = .ok (.iload_n 0, 1) := by decide +kernel
theorem dX5_isLetter_1 : decode cX5_isLetter 1 = .ok (.bipush 97, 2) := by decide +kernel
theorem dX5_isLetter_3 : decode cX5_isLetter 3 = .ok (.if_icmp .lt 13, 3) := by decide +kernel
theorem dX5_isLetter_6 : decode cX5_isLetter 6 = .ok (.iload_n 0, 1) := by decide +kernel
theorem dX5_isLetter_7 : decode cX5_isLetter 7 = .ok (.bipush 122, 2) := by decide +kernel
theorem dX5_isLetter_9 : decode cX5_isLetter 9 = .ok (.if_icmp .gt 7, 3) := by decide +kernel
theorem dX5_isLetter_12 : decode cX5_isLetter 12 = .ok (.iconst 1, 1) := by decide +kernel
theorem dX5_isLetter_13 : decode cX5_isLetter 13 = .ok (.goto 4, 3) := by decide +kernel
theorem dX5_isLetter_16 : decode cX5_isLetter 16 = .ok (.iconst 0, 1) := by decide +kernel
theorem dX5_isLetter_17 : decode cX5_isLetter 17 = .ok (.ireturn, 1) := by decide +kernel
theorem dX5_fail_0 : decode cX5_fail 0 = .ok (.aload_n 0, 1) := by decide +kernel
theorem dX5_fail_1 : decode cX5_fail 1 = .ok (.iload_n 1, 1) := by decide +kernel
theorem dX5_fail_2 : decode cX5_fail 2 = .ok (.putfield 42, 3) := by decide +kernel
theorem dX5_fail_5 : decode cX5_fail 5 = .ok (.aload_n 0, 1) := by decide +kernel
theorem dX5_fail_6 : decode cX5_fail 6 = .ok (.iload_n 2, 1) := by decide +kernel
theorem dX5_fail_7 : decode cX5_fail 7 = .ok (.putfield 18, 3) := by decide +kernel
theorem dX5_fail_10 : decode cX5_fail 10 = .ok (.iconst 0, 1) := by decide +kernel
theorem dX5_fail_11 : decode cX5_fail 11 = .ok (.ireturn, 1) := by decide +kernel
theorem dX6_init_0 : decode cX6_init 0 = .ok (.aload_n 0, 1) := by decide +kernel
theorem dX6_init_1 : decode cX6_init 1 = .ok (.invokespecial 3, 3) := by decide +kernel
theorem dX6_init_4 : decode cX6_init 4 = .ok (.aload_n 0, 1) := by decide +kernel
theorem dX6_init_5 : decode cX6_init 5 = .ok (.sipush 500, 3) := by decide +kernel
theorem dX6_init_8 : decode cX6_init 8 = .ok (.newarray .byte, 2) := by decide +kernel
theorem dX6_init_10 : decode cX6_init 10 = .ok (.putfield 9, 3) := by decide +kernel
theorem dX6_init_13 : decode cX6_init 13 = .ok (.aload_n 0, 1) := by decide +kernel
theorem dX6_init_14 : decode cX6_init 14 = .ok (.new 13, 3) := by decide +kernel
theorem dX6_init_17 : decode cX6_init 17 = .ok (.dup, 1) := by decide +kernel
theorem dX6_init_18 : decode cX6_init 18 = .ok (.invokespecial 15, 3) := by decide +kernel
theorem dX6_init_21 : decode cX6_init 21 = .ok (.putfield 16, 3) := by decide +kernel
theorem dX6_init_24 : decode cX6_init 24 = .ok (.aload_n 0, 1) := by decide +kernel
theorem dX6_init_25 : decode cX6_init 25 = .ok (.new 20, 3) := by decide +kernel
theorem dX6_init_28 : decode cX6_init 28 = .ok (.dup, 1) := by decide +kernel
theorem dX6_init_29 : decode cX6_init 29 = .ok (.invokespecial 22, 3) := by decide +kernel
theorem dX6_init_32 : decode cX6_init 32 = .ok (.putfield 23, 3) := by decide +kernel
theorem dX6_init_35 : decode cX6_init 35 = .ok (.aload_n 0, 1) := by decide +kernel
theorem dX6_init_36 : decode cX6_init 36 = .ok (.new 20, 3) := by decide +kernel
theorem dX6_init_39 : decode cX6_init 39 = .ok (.dup, 1) := by decide +kernel
theorem dX6_init_40 : decode cX6_init 40 = .ok (.invokespecial 22, 3) := by decide +kernel
theorem dX6_init_43 : decode cX6_init 43 = .ok (.putfield 27, 3) := by decide +kernel
theorem dX6_init_46 : decode cX6_init 46 = .ok (.aload_n 0, 1) := by decide +kernel
theorem dX6_init_47 : decode cX6_init 47 = .ok (.new 30, 3) := by decide +kernel
theorem dX6_init_50 : decode cX6_init 50 = .ok (.dup, 1) := by decide +kernel
theorem dX6_init_51 : decode cX6_init 51 = .ok (.invokespecial 32, 3) := by decide +kernel
theorem dX6_init_54 : decode cX6_init 54 = .ok (.putfield 33, 3) := by decide +kernel
theorem dX6_init_57 : decode cX6_init 57 = .ok (.aload_n 0, 1) := by decide +kernel
theorem dX6_init_58 : decode cX6_init 58 = .ok (.iconst 0, 1) := by decide +kernel
theorem dX6_init_59 : decode cX6_init 59 = .ok (.putfield 37, 3) := by decide +kernel
theorem dX6_init_62 : decode cX6_init 62 = .ok (.aload_n 0, 1) := by decide +kernel
theorem dX6_init_63 : decode cX6_init 63 = .ok (.iconst (-1), 1) := by decide +kernel
theorem dX6_init_64 : decode cX6_init 64 = .ok (.putfield 41, 3) := by decide +kernel
theorem dX6_init_67 : decode cX6_init 67 = .ok (.return_, 1) := by decide +kernel
theorem dX6_append_0 : decode cX6_append 0 = .ok (.aload_n 0, 1) := by decide +kernel
theorem dX6_append_1 : decode cX6_append 1 = .ok (.getfield 37, 3) := by decide +kernel
theorem dX6_append_4 : decode cX6_append 4 = .ok (.sipush 480, 3) := by decide +kernel
theorem dX6_append_7 : decode cX6_append 7 = .ok (.if_icmp .le 5, 3) := by decide +kernel
theorem dX6_append_10 : decode cX6_append 10 = .ok (.iconst (-1), 1) := by decide +kernel
theorem dX6_append_11 : decode cX6_append 11 = .ok (.ireturn, 1) := by decide +kernel
theorem dX6_append_12 : decode cX6_append 12 = .ok (.aload_n 0, 1) := by decide +kernel
theorem dX6_append_13 : decode cX6_append 13 = .ok (.iload_n 1, 1) := by decide +kernel
theorem dX6_append_14 : decode cX6_append 14 = .ok (.invokevirtual 44, 3) := by decide +kernel
theorem dX6_append_17 : decode cX6_append 17 = .ok (.aload_n 0, 1) := by decide +kernel
theorem dX6_append_18 : decode cX6_append 18 = .ok (.iload_n 2, 1) := by decide +kernel
theorem dX6_append_19 : decode cX6_append 19 = .ok (.invokevirtual 44, 3) := by decide +kernel
theorem dX6_append_22 : decode cX6_append 22 = .ok (.aload_n 0, 1) := by decide +kernel
theorem dX6_append_23 : decode cX6_append 23 = .ok (.iload_n 3, 1) := by decide +kernel
theorem dX6_append_24 : decode cX6_append 24 = .ok (.invokevirtual 44, 3) := by decide +kernel
theorem dX6_append_27 : decode cX6_append 27 = .ok (.aload_n 0, 1) := by decide +kernel
theorem dX6_append_28 : decode cX6_append 28 = .ok (.iload 4, 2) := by decide +kernel
theorem dX6_append_30 : decode cX6_append 30 = .ok (.invokevirtual 44, 3) := by decide +kernel
theorem dX6_append_33 : decode cX6_append 33 = .ok (.aload_n 0, 1) := by decide +kernel
theorem dX6_append_34 : decode cX6_append 34 = .ok (.iload 5, 2) := by decide +kernel
theorem dX6_append_36 : decode cX6_append 36 = .ok (.invokevirtual 44, 3) := by decide +kernel
theorem dX6_append_39 : decode cX6_append 39 = .ok (.aload_n 0, 1) := by decide +kernel
theorem dX6_append_40 : decode cX6_append 40 = .ok (.getfield 37, 3) := by decide +kernel
theorem dX6_append_43 : decode cX6_append 43 = .ok (.ireturn, 1) := by decide +kernel
theorem dX6_load_0 : decode cX6_load 0 = .ok (.iload_n 1, 1) := by decide +kernel
theorem dX6_load_1 : decode cX6_load 1 = .ok (.iconst 0, 1) := by decide +kernel
theorem dX6_load_2 : decode cX6_load 2 = .ok (.aload_n 0, 1) := by decide +kernel
theorem dX6_load_3 : decode cX6_load 3 = .ok (.getfield 37, 3) := by decide +kernel
theorem dX6_load_6 : decode cX6_load 6 = .ok (.invokestatic 48, 3) := by decide +kernel
theorem dX6_load_9 : decode cX6_load 9 = .ok (.aload_n 0, 1) := by decide +kernel
theorem dX6_load_10 : decode cX6_load 10 = .ok (.getfield 16, 3) := by decide +kernel
theorem dX6_load_13 : decode cX6_load 13 = .ok (.aload_n 0, 1) := by decide +kernel
theorem dX6_load_14 : decode cX6_load 14 = .ok (.getfield 9, 3) := by decide +kernel
theorem dX6_load_17 : decode cX6_load 17 = .ok (.iload_n 1, 1) := by decide +kernel
theorem dX6_load_18 : decode cX6_load 18 = .ok (.aload_n 0, 1) := by decide +kernel
theorem dX6_load_19 : decode cX6_load 19 = .ok (.getfield 27, 3) := by decide +kernel
theorem dX6_load_22 : decode cX6_load 22 = .ok (.invokevirtual 52, 3) := by decide +kernel
theorem dX6_load_25 : decode cX6_load 25 = .ok (.istore_n 2, 1) := by decide +kernel
theorem dX6_load_26 : decode cX6_load 26 = .ok (.aload_n 0, 1) := by decide +kernel
theorem dX6_load_27 : decode cX6_load 27 = .ok (.iconst 0, 1) := by decide +kernel
theorem dX6_load_28 : decode cX6_load 28 = .ok (.putfield 37, 3) := by decide +kernel
theorem dX6_load_31 : decode cX6_load 31 = .ok (.aload_n 0, 1) := by decide +kernel
theorem dX6_load_32 : decode cX6_load 32 = .ok (.aload_n 0, 1) := by decide +kernel
theorem dX6_load_33 : decode cX6_load 33 = .ok (.getfield 16, 3) := by decide +kernel
theorem dX6_load_36 : decode cX6_load 36 = .ok (.getfield 56, 3) := by decide +kernel
theorem dX6_load_39 : decode cX6_load 39 = .ok (.putfield 41, 3) := by decide +kernel
theorem dX6_load_42 : decode cX6_load 42 = .ok (.iload_n 2, 1) := by decide +kernel
theorem dX6_load_43 : decode cX6_load 43 = .ok (.ifCond .ne 11, 3) := by decide +kernel
theorem dX6_load_46 : decode cX6_load 46 = .ok (.aload_n 0, 1) := by decide +kernel
theorem dX6_load_47 : decode cX6_load 47 = .ok (.getfield 16, 3) := by decide +kernel
theorem dX6_load_50 : decode cX6_load 50 = .ok (.getfield 57, 3) := by decide +kernel
theorem dX6_load_53 : decode cX6_load 53 = .ok (.ireturn, 1) := by decide +kernel
theorem dX6_load_54 : decode cX6_load 54 = .ok (.aload_n 0, 1) := by decide +kernel
theorem dX6_load_55 : decode cX6_load 55 = .ok (.getfield 33, 3) := by decide +kernel
theorem dX6_load_58 : decode cX6_load 58 = .ok (.aload_n 0, 1) := by decide +kernel
theorem dX6_load_59 : decode cX6_load 59 = .ok (.getfield 23, 3) := by decide +kernel
theorem dX6_load_62 : decode cX6_load 62 = .ok (.invokevirtual 60, 3) := by decide +kernel
theorem dX6_load_65 : decode cX6_load 65 = .ok (.aload_n 0, 1) := by decide +kernel
theorem dX6_load_66 : decode cX6_load 66 = .ok (.getfield 23, 3) := by decide +kernel
theorem dX6_load_69 : decode cX6_load 69 = .ok (.aload_n 0, 1) := by decide +kernel
theorem dX6_load_70 : decode cX6_load 70 = .ok (.getfield 27, 3) := by decide +kernel
theorem dX6_load_73 : decode cX6_load 73 = .ok (.invokevirtual 64, 3) := by decide +kernel
theorem dX6_load_76 : decode cX6_load 76 = .ok (.aload_n 0, 1) := by decide +kernel
theorem dX6_load_77 : decode cX6_load 77 = .ok (.getfield 23, 3) := by decide +kernel
theorem dX6_load_80 : decode cX6_load 80 = .ok (.getfield 67, 3) := by decide +kernel
theorem dX6_load_83 : decode cX6_load 83 = .ok (.ireturn, 1) := by decide +kernel
theorem dX6_errorOffset_0 : decode cX6_errorOffset 0 = .ok (.aload_n 0, 1) := by decide +kernel
theorem dX6_errorOffset_1 : decode cX6_errorOffset 1 = .ok (.getfield 41, 3) := by decide +kernel
theorem dX6_errorOffset_4 : decode cX6_errorOffset 4 = .ok (.ireturn, 1) := by decide +kernel
theorem dX6_state_0 : decode cX6_state 0 = .ok (.iload_n 1, 1) := by decide +kernel
theorem dX6_state_1 : decode cX6_state 1 = .ok (.iconst 0, 1) := by decide +kernel
theorem dX6_state_2 : decode cX6_state 2 = .ok (.bipush 11, 2) := by decide +kernel
theorem dX6_state_4 : decode cX6_state 4 = .ok (.invokestatic 48, 3) := by decide +kernel
theorem dX6_state_7 : decode cX6_state 7 = .ok (.aload_n 0, 1) := by decide +kernel
theorem dX6_state_8 : decode cX6_state 8 = .ok (.getfield 23, 3) := by decide +kernel
theorem dX6_state_11 : decode cX6_state 11 = .ok (.iload_n 1, 1) := by decide +kernel
theorem dX6_state_12 : decode cX6_state 12 = .ok (.invokevirtual 70, 3) := by decide +kernel
theorem dX6_state_15 : decode cX6_state 15 = .ok (.ireturn, 1) := by decide +kernel
theorem dX6_account_0 : decode cX6_account 0 = .ok (.iload_n 1, 1) := by decide +kernel
theorem dX6_account_1 : decode cX6_account 1 = .ok (.iconst 0, 1) := by decide +kernel
theorem dX6_account_2 : decode cX6_account 2 = .ok (.bipush 7, 2) := by decide +kernel
theorem dX6_account_4 : decode cX6_account 4 = .ok (.invokestatic 48, 3) := by decide +kernel
theorem dX6_account_7 : decode cX6_account 7 = .ok (.aload_n 0, 1) := by decide +kernel
theorem dX6_account_8 : decode cX6_account 8 = .ok (.getfield 23, 3) := by decide +kernel
theorem dX6_account_11 : decode cX6_account 11 = .ok (.iload_n 1, 1) := by decide +kernel
theorem dX6_account_12 : decode cX6_account 12 = .ok (.invokevirtual 74, 3) := by decide +kernel
theorem dX6_account_15 : decode cX6_account 15 = .ok (.lreturn, 1) := by decide +kernel
theorem dX6_mass_0 : decode cX6_mass 0 = .ok (.aload_n 0, 1) := by decide +kernel
theorem dX6_mass_1 : decode cX6_mass 1 = .ok (.iload_n 1, 1) := by decide +kernel
theorem dX6_mass_2 : decode cX6_mass 2 = .ok (.invokevirtual 78, 3) := by decide +kernel
theorem dX6_mass_5 : decode cX6_mass 5 = .ok (.iload_n 2, 1) := by decide +kernel
theorem dX6_mass_6 : decode cX6_mass 6 = .ok (.iconst 0, 1) := by decide +kernel
theorem dX6_mass_7 : decode cX6_mass 7 = .ok (.iconst 3, 1) := by decide +kernel
theorem dX6_mass_8 : decode cX6_mass 8 = .ok (.invokestatic 48, 3) := by decide +kernel
theorem dX6_mass_11 : decode cX6_mass 11 = .ok (.aload_n 0, 1) := by decide +kernel
theorem dX6_mass_12 : decode cX6_mass 12 = .ok (.getfield 23, 3) := by decide +kernel
theorem dX6_mass_15 : decode cX6_mass 15 = .ok (.iload_n 1, 1) := by decide +kernel
theorem dX6_mass_16 : decode cX6_mass 16 = .ok (.iload_n 2, 1) := by decide +kernel
theorem dX6_mass_17 : decode cX6_mass 17 = .ok (.invokevirtual 81, 3) := by decide +kernel
theorem dX6_mass_20 : decode cX6_mass 20 = .ok (.ireturn, 1) := by decide +kernel
theorem dX6_spring_0 : decode cX6_spring 0 = .ok (.aload_n 0, 1) := by decide +kernel
theorem dX6_spring_1 : decode cX6_spring 1 = .ok (.iload_n 1, 1) := by decide +kernel
theorem dX6_spring_2 : decode cX6_spring 2 = .ok (.invokevirtual 85, 3) := by decide +kernel
theorem dX6_spring_5 : decode cX6_spring 5 = .ok (.iload_n 2, 1) := by decide +kernel
theorem dX6_spring_6 : decode cX6_spring 6 = .ok (.iconst 0, 1) := by decide +kernel
theorem dX6_spring_7 : decode cX6_spring 7 = .ok (.iconst 4, 1) := by decide +kernel
theorem dX6_spring_8 : decode cX6_spring 8 = .ok (.invokestatic 48, 3) := by decide +kernel
theorem dX6_spring_11 : decode cX6_spring 11 = .ok (.aload_n 0, 1) := by decide +kernel
theorem dX6_spring_12 : decode cX6_spring 12 = .ok (.getfield 23, 3) := by decide +kernel
theorem dX6_spring_15 : decode cX6_spring 15 = .ok (.iload_n 1, 1) := by decide +kernel
theorem dX6_spring_16 : decode cX6_spring 16 = .ok (.iload_n 2, 1) := by decide +kernel
theorem dX6_spring_17 : decode cX6_spring 17 = .ok (.invokevirtual 88, 3) := by decide +kernel
theorem dX6_spring_20 : decode cX6_spring 20 = .ok (.ireturn, 1) := by decide +kernel
theorem dX6_noted_0 : decode cX6_noted 0 = .ok (.iload_n 1, 1) := by decide +kernel
theorem dX6_noted_1 : decode cX6_noted 1 = .ok (.aload_n 0, 1) := by decide +kernel
theorem dX6_noted_2 : decode cX6_noted 2 = .ok (.getfield 23, 3) := by decide +kernel
theorem dX6_noted_5 : decode cX6_noted 5 = .ok (.getfield 91, 3) := by decide +kernel
theorem dX6_noted_8 : decode cX6_noted 8 = .ok (.getfield 95, 3) := by decide +kernel
theorem dX6_noted_11 : decode cX6_noted 11 = .ok (.invokestatic 100, 3) := by decide +kernel
theorem dX6_noted_14 : decode cX6_noted 14 = .ok (.iload_n 2, 1) := by decide +kernel
theorem dX6_noted_15 : decode cX6_noted 15 = .ok (.iconst 0, 1) := by decide +kernel
theorem dX6_noted_16 : decode cX6_noted 16 = .ok (.iconst 1, 1) := by decide +kernel
theorem dX6_noted_17 : decode cX6_noted 17 = .ok (.invokestatic 48, 3) := by decide +kernel
theorem dX6_noted_20 : decode cX6_noted 20 = .ok (.aload_n 0, 1) := by decide +kernel
theorem dX6_noted_21 : decode cX6_noted 21 = .ok (.getfield 23, 3) := by decide +kernel
theorem dX6_noted_24 : decode cX6_noted 24 = .ok (.getfield 91, 3) := by decide +kernel
theorem dX6_noted_27 : decode cX6_noted 27 = .ok (.iload_n 1, 1) := by decide +kernel
theorem dX6_noted_28 : decode cX6_noted 28 = .ok (.iload_n 2, 1) := by decide +kernel
theorem dX6_noted_29 : decode cX6_noted 29 = .ok (.invokevirtual 104, 3) := by decide +kernel
theorem dX6_noted_32 : decode cX6_noted 32 = .ok (.ireturn, 1) := by decide +kernel
theorem dX6_waiting_0 : decode cX6_waiting 0 = .ok (.iload_n 1, 1) := by decide +kernel
theorem dX6_waiting_1 : decode cX6_waiting 1 = .ok (.aload_n 0, 1) := by decide +kernel
theorem dX6_waiting_2 : decode cX6_waiting 2 = .ok (.getfield 23, 3) := by decide +kernel
theorem dX6_waiting_5 : decode cX6_waiting 5 = .ok (.getfield 107, 3) := by decide +kernel
theorem dX6_waiting_8 : decode cX6_waiting 8 = .ok (.getfield 111, 3) := by decide +kernel
theorem dX6_waiting_11 : decode cX6_waiting 11 = .ok (.invokestatic 100, 3) := by decide +kernel
theorem dX6_waiting_14 : decode cX6_waiting 14 = .ok (.iload_n 2, 1) := by decide +kernel
theorem dX6_waiting_15 : decode cX6_waiting 15 = .ok (.iconst 0, 1) := by decide +kernel
theorem dX6_waiting_16 : decode cX6_waiting 16 = .ok (.iconst 2, 1) := by decide +kernel
theorem dX6_waiting_17 : decode cX6_waiting 17 = .ok (.invokestatic 48, 3) := by decide +kernel
theorem dX6_waiting_20 : decode cX6_waiting 20 = .ok (.aload_n 0, 1) := by decide +kernel
theorem dX6_waiting_21 : decode cX6_waiting 21 = .ok (.getfield 23, 3) := by decide +kernel
theorem dX6_waiting_24 : decode cX6_waiting 24 = .ok (.getfield 107, 3) := by decide +kernel
theorem dX6_waiting_27 : decode cX6_waiting 27 = .ok (.iload_n 1, 1) := by decide +kernel
theorem dX6_waiting_28 : decode cX6_waiting 28 = .ok (.iload_n 2, 1) := by decide +kernel
theorem dX6_waiting_29 : decode cX6_waiting 29 = .ok (.invokevirtual 114, 3) := by decide +kernel
theorem dX6_waiting_32 : decode cX6_waiting 32 = .ok (.ireturn, 1) := by decide +kernel
theorem dX6_foretold_0 : decode cX6_foretold 0 = .ok (.aload_n 0, 1) := by decide +kernel
theorem dX6_foretold_1 : decode cX6_foretold 1 = .ok (.iload_n 2, 1) := by decide +kernel
theorem dX6_foretold_2 : decode cX6_foretold 2 = .ok (.invokevirtual 78, 3) := by decide +kernel
theorem dX6_foretold_5 : decode cX6_foretold 5 = .ok (.iload_n 1, 1) := by decide +kernel
theorem dX6_foretold_6 : decode cX6_foretold 6 = .ok (.iconst 1, 1) := by decide +kernel
theorem dX6_foretold_7 : decode cX6_foretold 7 = .ok (.sipush 200, 3) := by decide +kernel
theorem dX6_foretold_10 : decode cX6_foretold 10 = .ok (.invokestatic 48, 3) := by decide +kernel
theorem dX6_foretold_13 : decode cX6_foretold 13 = .ok (.iload_n 3, 1) := by decide +kernel
theorem dX6_foretold_14 : decode cX6_foretold 14 = .ok (.iconst 0, 1) := by decide +kernel
theorem dX6_foretold_15 : decode cX6_foretold 15 = .ok (.iconst 4, 1) := by decide +kernel
theorem dX6_foretold_16 : decode cX6_foretold 16 = .ok (.invokestatic 48, 3) := by decide +kernel
theorem dX6_foretold_19 : decode cX6_foretold 19 = .ok (.aload_n 0, 1) := by decide +kernel
theorem dX6_foretold_20 : decode cX6_foretold 20 = .ok (.getfield 27, 3) := by decide +kernel
theorem dX6_foretold_23 : decode cX6_foretold 23 = .ok (.aload_n 0, 1) := by decide +kernel
theorem dX6_foretold_24 : decode cX6_foretold 24 = .ok (.getfield 23, 3) := by decide +kernel
theorem dX6_foretold_27 : decode cX6_foretold 27 = .ok (.invokevirtual 64, 3) := by decide +kernel
theorem dX6_foretold_30 : decode cX6_foretold 30 = .ok (.iconst 0, 1) := by decide +kernel
theorem dX6_foretold_31 : decode cX6_foretold 31 = .ok (.istore 4, 2) := by decide +kernel
theorem dX6_foretold_33 : decode cX6_foretold 33 = .ok (.iconst 0, 1) := by decide +kernel
theorem dX6_foretold_34 : decode cX6_foretold 34 = .ok (.istore 5, 2) := by decide +kernel
theorem dX6_foretold_36 : decode cX6_foretold 36 = .ok (.iload 5, 2) := by decide +kernel
theorem dX6_foretold_38 : decode cX6_foretold 38 = .ok (.iload_n 1, 1) := by decide +kernel
theorem dX6_foretold_39 : decode cX6_foretold 39 = .ok (.if_icmp .ge 35, 3) := by decide +kernel
theorem dX6_foretold_42 : decode cX6_foretold 42 = .ok (.aload_n 0, 1) := by decide +kernel
theorem dX6_foretold_43 : decode cX6_foretold 43 = .ok (.getfield 27, 3) := by decide +kernel
theorem dX6_foretold_46 : decode cX6_foretold 46 = .ok (.invokevirtual 115, 3) := by decide +kernel
theorem dX6_foretold_49 : decode cX6_foretold 49 = .ok (.pop, 1) := by decide +kernel
theorem dX6_foretold_50 : decode cX6_foretold 50 = .ok (.iload 4, 2) := by decide +kernel
theorem dX6_foretold_52 : decode cX6_foretold 52 = .ok (.aload_n 0, 1) := by decide +kernel
theorem dX6_foretold_53 : decode cX6_foretold 53 = .ok (.getfield 27, 3) := by decide +kernel
theorem dX6_foretold_56 : decode cX6_foretold 56 = .ok (.iload_n 2, 1) := by decide +kernel
theorem dX6_foretold_57 : decode cX6_foretold 57 = .ok (.invokevirtual 119, 3) := by decide +kernel
theorem dX6_foretold_60 : decode cX6_foretold 60 = .ok (.invokestatic 122, 3) := by decide +kernel
theorem dX6_foretold_63 : decode cX6_foretold 63 = .ok (.invokestatic 127, 3) := by decide +kernel
theorem dX6_foretold_66 : decode cX6_foretold 66 = .ok (.istore 4, 2) := by decide +kernel
theorem dX6_foretold_68 : decode cX6_foretold 68 = .ok (.iinc 5 1, 3) := by decide +kernel
theorem dX6_foretold_71 : decode cX6_foretold 71 = .ok (.goto (-35), 3) := by decide +kernel
theorem dX6_foretold_74 : decode cX6_foretold 74 = .ok (.iload_n 3, 1) := by decide +kernel
theorem dX6_foretold_75 : decode cX6_foretold 75 = .ok (.tableswitch 58 0 3 #[29, 38, 47, 50], 29) := by decide +kernel
theorem dX6_foretold_104 : decode cX6_foretold 104 = .ok (.aload_n 0, 1) := by decide +kernel
theorem dX6_foretold_105 : decode cX6_foretold 105 = .ok (.getfield 27, 3) := by decide +kernel
theorem dX6_foretold_108 : decode cX6_foretold 108 = .ok (.iload_n 2, 1) := by decide +kernel
theorem dX6_foretold_109 : decode cX6_foretold 109 = .ok (.invokevirtual 119, 3) := by decide +kernel
theorem dX6_foretold_112 : decode cX6_foretold 112 = .ok (.ireturn, 1) := by decide +kernel
theorem dX6_foretold_113 : decode cX6_foretold 113 = .ok (.aload_n 0, 1) := by decide +kernel
theorem dX6_foretold_114 : decode cX6_foretold 114 = .ok (.getfield 27, 3) := by decide +kernel
theorem dX6_foretold_117 : decode cX6_foretold 117 = .ok (.iload_n 2, 1) := by decide +kernel
theorem dX6_foretold_118 : decode cX6_foretold 118 = .ok (.invokevirtual 130, 3) := by decide +kernel
theorem dX6_foretold_121 : decode cX6_foretold 121 = .ok (.ireturn, 1) := by decide +kernel
theorem dX6_foretold_122 : decode cX6_foretold 122 = .ok (.iload 4, 2) := by decide +kernel
theorem dX6_foretold_124 : decode cX6_foretold 124 = .ok (.ireturn, 1) := by decide +kernel
theorem dX6_foretold_125 : decode cX6_foretold 125 = .ok (.aload_n 0, 1) := by decide +kernel
theorem dX6_foretold_126 : decode cX6_foretold 126 = .ok (.getfield 27, 3) := by decide +kernel
theorem dX6_foretold_129 : decode cX6_foretold 129 = .ok (.invokevirtual 133, 3) := by decide +kernel
theorem dX6_foretold_132 : decode cX6_foretold 132 = .ok (.ireturn, 1) := by decide +kernel
theorem dX6_foretold_133 : decode cX6_foretold 133 = .ok (.aload_n 0, 1) := by decide +kernel
theorem dX6_foretold_134 : decode cX6_foretold 134 = .ok (.getfield 27, 3) := by decide +kernel
theorem dX6_foretold_137 : decode cX6_foretold 137 = .ok (.invokevirtual 136, 3) := by decide +kernel
theorem dX6_foretold_140 : decode cX6_foretold 140 = .ok (.ireturn, 1) := by decide +kernel
theorem dX6_period_0 : decode cX6_period 0 = .ok (.aload_n 0, 1) := by decide +kernel
theorem dX6_period_1 : decode cX6_period 1 = .ok (.iload_n 1, 1) := by decide +kernel
theorem dX6_period_2 : decode cX6_period 2 = .ok (.invokevirtual 78, 3) := by decide +kernel
theorem dX6_period_5 : decode cX6_period 5 = .ok (.iload_n 2, 1) := by decide +kernel
theorem dX6_period_6 : decode cX6_period 6 = .ok (.iconst 1, 1) := by decide +kernel
theorem dX6_period_7 : decode cX6_period 7 = .ok (.sipush 300, 3) := by decide +kernel
theorem dX6_period_10 : decode cX6_period 10 = .ok (.invokestatic 48, 3) := by decide +kernel
theorem dX6_period_13 : decode cX6_period 13 = .ok (.aload_n 0, 1) := by decide +kernel
theorem dX6_period_14 : decode cX6_period 14 = .ok (.getfield 27, 3) := by decide +kernel
theorem dX6_period_17 : decode cX6_period 17 = .ok (.aload_n 0, 1) := by decide +kernel
theorem dX6_period_18 : decode cX6_period 18 = .ok (.getfield 23, 3) := by decide +kernel
theorem dX6_period_21 : decode cX6_period 21 = .ok (.invokevirtual 64, 3) := by decide +kernel
theorem dX6_period_24 : decode cX6_period 24 = .ok (.iconst 0, 1) := by decide +kernel
theorem dX6_period_25 : decode cX6_period 25 = .ok (.istore_n 3, 1) := by decide +kernel
theorem dX6_period_26 : decode cX6_period 26 = .ok (.iconst 1, 1) := by decide +kernel
theorem dX6_period_27 : decode cX6_period 27 = .ok (.istore 4, 2) := by decide +kernel
theorem dX6_period_29 : decode cX6_period 29 = .ok (.iload 4, 2) := by decide +kernel
theorem dX6_period_31 : decode cX6_period 31 = .ok (.iload_n 2, 1) := by decide +kernel
theorem dX6_period_32 : decode cX6_period 32 = .ok (.if_icmp .gt 63, 3) := by decide +kernel
theorem dX6_period_35 : decode cX6_period 35 = .ok (.aload_n 0, 1) := by decide +kernel
theorem dX6_period_36 : decode cX6_period 36 = .ok (.getfield 27, 3) := by decide +kernel
theorem dX6_period_39 : decode cX6_period 39 = .ok (.iload_n 1, 1) := by decide +kernel
theorem dX6_period_40 : decode cX6_period 40 = .ok (.invokevirtual 119, 3) := by decide +kernel
theorem dX6_period_43 : decode cX6_period 43 = .ok (.ifCond .gt 7, 3) := by decide +kernel
theorem dX6_period_46 : decode cX6_period 46 = .ok (.iconst 1, 1) := by decide +kernel
theorem dX6_period_47 : decode cX6_period 47 = .ok (.goto 4, 3) := by decide +kernel
theorem dX6_period_50 : decode cX6_period 50 = .ok (.iconst 0, 1) := by decide +kernel
theorem dX6_period_51 : decode cX6_period 51 = .ok (.istore 5, 2) := by decide +kernel
theorem dX6_period_53 : decode cX6_period 53 = .ok (.aload_n 0, 1) := by decide +kernel
theorem dX6_period_54 : decode cX6_period 54 = .ok (.getfield 27, 3) := by decide +kernel
theorem dX6_period_57 : decode cX6_period 57 = .ok (.invokevirtual 115, 3) := by decide +kernel
theorem dX6_period_60 : decode cX6_period 60 = .ok (.pop, 1) := by decide +kernel
theorem dX6_period_61 : decode cX6_period 61 = .ok (.iload 5, 2) := by decide +kernel
theorem dX6_period_63 : decode cX6_period 63 = .ok (.ifCond .eq 26, 3) := by decide +kernel
theorem dX6_period_66 : decode cX6_period 66 = .ok (.aload_n 0, 1) := by decide +kernel
theorem dX6_period_67 : decode cX6_period 67 = .ok (.getfield 27, 3) := by decide +kernel
theorem dX6_period_70 : decode cX6_period 70 = .ok (.iload_n 1, 1) := by decide +kernel
theorem dX6_period_71 : decode cX6_period 71 = .ok (.invokevirtual 119, 3) := by decide +kernel
theorem dX6_period_74 : decode cX6_period 74 = .ok (.ifCond .le 15, 3) := by decide +kernel
theorem dX6_period_77 : decode cX6_period 77 = .ok (.iload_n 3, 1) := by decide +kernel
theorem dX6_period_78 : decode cX6_period 78 = .ok (.ifCond .le 8, 3) := by decide +kernel
theorem dX6_period_81 : decode cX6_period 81 = .ok (.iload 4, 2) := by decide +kernel
theorem dX6_period_83 : decode cX6_period 83 = .ok (.iload_n 3, 1) := by decide +kernel
theorem dX6_period_84 : decode cX6_period 84 = .ok (.isub, 1) := by decide +kernel
theorem dX6_period_85 : decode cX6_period 85 = .ok (.ireturn, 1) := by decide +kernel
theorem dX6_period_86 : decode cX6_period 86 = .ok (.iload 4, 2) := by decide +kernel
theorem dX6_period_88 : decode cX6_period 88 = .ok (.istore_n 3, 1) := by decide +kernel
theorem dX6_period_89 : decode cX6_period 89 = .ok (.iinc 4 1, 3) := by decide +kernel
theorem dX6_period_92 : decode cX6_period 92 = .ok (.goto (-63), 3) := by decide +kernel
theorem dX6_period_95 : decode cX6_period 95 = .ok (.iconst (-1), 1) := by decide +kernel
theorem dX6_period_96 : decode cX6_period 96 = .ok (.ireturn, 1) := by decide +kernel
theorem dX6_breaksIn_0 : decode cX6_breaksIn 0 = .ok (.iload_n 1, 1) := by decide +kernel
theorem dX6_breaksIn_1 : decode cX6_breaksIn 1 = .ok (.iconst 1, 1) := by decide +kernel
theorem dX6_breaksIn_2 : decode cX6_breaksIn 2 = .ok (.sipush 200, 3) := by decide +kernel
theorem dX6_breaksIn_5 : decode cX6_breaksIn 5 = .ok (.invokestatic 48, 3) := by decide +kernel
theorem dX6_breaksIn_8 : decode cX6_breaksIn 8 = .ok (.aload_n 0, 1) := by decide +kernel
theorem dX6_breaksIn_9 : decode cX6_breaksIn 9 = .ok (.getfield 27, 3) := by decide +kernel
theorem dX6_breaksIn_12 : decode cX6_breaksIn 12 = .ok (.aload_n 0, 1) := by decide +kernel
theorem dX6_breaksIn_13 : decode cX6_breaksIn 13 = .ok (.getfield 23, 3) := by decide +kernel
theorem dX6_breaksIn_16 : decode cX6_breaksIn 16 = .ok (.invokevirtual 64, 3) := by decide +kernel
theorem dX6_breaksIn_19 : decode cX6_breaksIn 19 = .ok (.iconst 1, 1) := by decide +kernel
theorem dX6_breaksIn_20 : decode cX6_breaksIn 20 = .ok (.istore_n 2, 1) := by decide +kernel
theorem dX6_breaksIn_21 : decode cX6_breaksIn 21 = .ok (.iload_n 2, 1) := by decide +kernel
theorem dX6_breaksIn_22 : decode cX6_breaksIn 22 = .ok (.iload_n 1, 1) := by decide +kernel
theorem dX6_breaksIn_23 : decode cX6_breaksIn 23 = .ok (.if_icmp .gt 21, 3) := by decide +kernel
theorem dX6_breaksIn_26 : decode cX6_breaksIn 26 = .ok (.aload_n 0, 1) := by decide +kernel
theorem dX6_breaksIn_27 : decode cX6_breaksIn 27 = .ok (.getfield 27, 3) := by decide +kernel
theorem dX6_breaksIn_30 : decode cX6_breaksIn 30 = .ok (.invokevirtual 115, 3) := by decide +kernel
theorem dX6_breaksIn_33 : decode cX6_breaksIn 33 = .ok (.ifCond .le 5, 3) := by decide +kernel
theorem dX6_breaksIn_36 : decode cX6_breaksIn 36 = .ok (.iload_n 2, 1) := by decide +kernel
theorem dX6_breaksIn_37 : decode cX6_breaksIn 37 = .ok (.ireturn, 1) := by decide +kernel
theorem dX6_breaksIn_38 : decode cX6_breaksIn 38 = .ok (.iinc 2 1, 3) := by decide +kernel
theorem dX6_breaksIn_41 : decode cX6_breaksIn 41 = .ok (.goto (-20), 3) := by decide +kernel
theorem dX6_breaksIn_44 : decode cX6_breaksIn 44 = .ok (.iconst (-1), 1) := by decide +kernel
theorem dX6_breaksIn_45 : decode cX6_breaksIn 45 = .ok (.ireturn, 1) := by decide +kernel
theorem dX6_pass_0 : decode cX6_pass 0 = .ok (.iload_n 1, 1) := by decide +kernel
theorem dX6_pass_1 : decode cX6_pass 1 = .ok (.iconst 1, 1) := by decide +kernel
theorem dX6_pass_2 : decode cX6_pass 2 = .ok (.bipush 50, 2) := by decide +kernel
theorem dX6_pass_4 : decode cX6_pass 4 = .ok (.invokestatic 48, 3) := by decide +kernel
theorem dX6_pass_7 : decode cX6_pass 7 = .ok (.aload_n 0, 1) := by decide +kernel
theorem dX6_pass_8 : decode cX6_pass 8 = .ok (.getfield 33, 3) := by decide +kernel
theorem dX6_pass_11 : decode cX6_pass 11 = .ok (.aload_n 0, 1) := by decide +kernel
theorem dX6_pass_12 : decode cX6_pass 12 = .ok (.getfield 23, 3) := by decide +kernel
theorem dX6_pass_15 : decode cX6_pass 15 = .ok (.invokevirtual 60, 3) := by decide +kernel
theorem dX6_pass_18 : decode cX6_pass 18 = .ok (.iconst 0, 1) := by decide +kernel
theorem dX6_pass_19 : decode cX6_pass 19 = .ok (.istore_n 2, 1) := by decide +kernel
theorem dX6_pass_20 : decode cX6_pass 20 = .ok (.iconst 0, 1) := by decide +kernel
theorem dX6_pass_21 : decode cX6_pass 21 = .ok (.istore_n 3, 1) := by decide +kernel
theorem dX6_pass_22 : decode cX6_pass 22 = .ok (.iload_n 3, 1) := by decide +kernel
theorem dX6_pass_23 : decode cX6_pass 23 = .ok (.iload_n 1, 1) := by decide +kernel
theorem dX6_pass_24 : decode cX6_pass 24 = .ok (.if_icmp .ge 19, 3) := by decide +kernel
theorem dX6_pass_27 : decode cX6_pass 27 = .ok (.iload_n 2, 1) := by decide +kernel
theorem dX6_pass_28 : decode cX6_pass 28 = .ok (.aload_n 0, 1) := by decide +kernel
theorem dX6_pass_29 : decode cX6_pass 29 = .ok (.getfield 23, 3) := by decide +kernel
theorem dX6_pass_32 : decode cX6_pass 32 = .ok (.invokevirtual 115, 3) := by decide +kernel
theorem dX6_pass_35 : decode cX6_pass 35 = .ok (.iadd, 1) := by decide +kernel
theorem dX6_pass_36 : decode cX6_pass 36 = .ok (.istore_n 2, 1) := by decide +kernel
theorem dX6_pass_37 : decode cX6_pass 37 = .ok (.iinc 3 1, 3) := by decide +kernel
theorem dX6_pass_40 : decode cX6_pass 40 = .ok (.goto (-18), 3) := by decide +kernel
theorem dX6_pass_43 : decode cX6_pass 43 = .ok (.iload_n 2, 1) := by decide +kernel
theorem dX6_pass_44 : decode cX6_pass 44 = .ok (.ireturn, 1) := by decide +kernel
theorem dX6_pluck_0 : decode cX6_pluck 0 = .ok (.aload_n 0, 1) := by decide +kernel
theorem dX6_pluck_1 : decode cX6_pluck 1 = .ok (.iload_n 1, 1) := by decide +kernel
theorem dX6_pluck_2 : decode cX6_pluck 2 = .ok (.invokevirtual 78, 3) := by decide +kernel
theorem dX6_pluck_5 : decode cX6_pluck 5 = .ok (.iload_n 2, 1) := by decide +kernel
theorem dX6_pluck_6 : decode cX6_pluck 6 = .ok (.sipush (-10000), 3) := by decide +kernel
theorem dX6_pluck_9 : decode cX6_pluck 9 = .ok (.sipush 10000, 3) := by decide +kernel
theorem dX6_pluck_12 : decode cX6_pluck 12 = .ok (.invokestatic 48, 3) := by decide +kernel
theorem dX6_pluck_15 : decode cX6_pluck 15 = .ok (.aload_n 0, 1) := by decide +kernel
theorem dX6_pluck_16 : decode cX6_pluck 16 = .ok (.getfield 33, 3) := by decide +kernel
theorem dX6_pluck_19 : decode cX6_pluck 19 = .ok (.aload_n 0, 1) := by decide +kernel
theorem dX6_pluck_20 : decode cX6_pluck 20 = .ok (.getfield 23, 3) := by decide +kernel
theorem dX6_pluck_23 : decode cX6_pluck 23 = .ok (.invokevirtual 60, 3) := by decide +kernel
theorem dX6_pluck_26 : decode cX6_pluck 26 = .ok (.aload_n 0, 1) := by decide +kernel
theorem dX6_pluck_27 : decode cX6_pluck 27 = .ok (.getfield 23, 3) := by decide +kernel
theorem dX6_pluck_30 : decode cX6_pluck 30 = .ok (.iload_n 1, 1) := by decide +kernel
theorem dX6_pluck_31 : decode cX6_pluck 31 = .ok (.invokevirtual 119, 3) := by decide +kernel
theorem dX6_pluck_34 : decode cX6_pluck 34 = .ok (.istore_n 3, 1) := by decide +kernel
theorem dX6_pluck_35 : decode cX6_pluck 35 = .ok (.aload_n 0, 1) := by decide +kernel
theorem dX6_pluck_36 : decode cX6_pluck 36 = .ok (.getfield 23, 3) := by decide +kernel
theorem dX6_pluck_39 : decode cX6_pluck 39 = .ok (.iload_n 1, 1) := by decide +kernel
theorem dX6_pluck_40 : decode cX6_pluck 40 = .ok (.iload_n 2, 1) := by decide +kernel
theorem dX6_pluck_41 : decode cX6_pluck 41 = .ok (.invokevirtual 146, 3) := by decide +kernel
theorem dX6_pluck_44 : decode cX6_pluck 44 = .ok (.iload_n 3, 1) := by decide +kernel
theorem dX6_pluck_45 : decode cX6_pluck 45 = .ok (.ireturn, 1) := by decide +kernel
theorem dX6_strike_0 : decode cX6_strike 0 = .ok (.aload_n 0, 1) := by decide +kernel
theorem dX6_strike_1 : decode cX6_strike 1 = .ok (.iload_n 1, 1) := by decide +kernel
theorem dX6_strike_2 : decode cX6_strike 2 = .ok (.invokevirtual 78, 3) := by decide +kernel
theorem dX6_strike_5 : decode cX6_strike 5 = .ok (.iload_n 2, 1) := by decide +kernel
theorem dX6_strike_6 : decode cX6_strike 6 = .ok (.ldc 149, 2) := by decide +kernel
theorem dX6_strike_8 : decode cX6_strike 8 = .ok (.ldc 150, 2) := by decide +kernel
theorem dX6_strike_10 : decode cX6_strike 10 = .ok (.invokestatic 48, 3) := by decide +kernel
theorem dX6_strike_13 : decode cX6_strike 13 = .ok (.aload_n 0, 1) := by decide +kernel
theorem dX6_strike_14 : decode cX6_strike 14 = .ok (.getfield 33, 3) := by decide +kernel
theorem dX6_strike_17 : decode cX6_strike 17 = .ok (.aload_n 0, 1) := by decide +kernel
theorem dX6_strike_18 : decode cX6_strike 18 = .ok (.getfield 23, 3) := by decide +kernel
theorem dX6_strike_21 : decode cX6_strike 21 = .ok (.invokevirtual 60, 3) := by decide +kernel
theorem dX6_strike_24 : decode cX6_strike 24 = .ok (.aload_n 0, 1) := by decide +kernel
theorem dX6_strike_25 : decode cX6_strike 25 = .ok (.getfield 23, 3) := by decide +kernel
theorem dX6_strike_28 : decode cX6_strike 28 = .ok (.iload_n 1, 1) := by decide +kernel
theorem dX6_strike_29 : decode cX6_strike 29 = .ok (.iload_n 2, 1) := by decide +kernel
theorem dX6_strike_30 : decode cX6_strike 30 = .ok (.invokevirtual 151, 3) := by decide +kernel
theorem dX6_strike_33 : decode cX6_strike 33 = .ok (.aload_n 0, 1) := by decide +kernel
theorem dX6_strike_34 : decode cX6_strike 34 = .ok (.getfield 23, 3) := by decide +kernel
theorem dX6_strike_37 : decode cX6_strike 37 = .ok (.iload_n 1, 1) := by decide +kernel
theorem dX6_strike_38 : decode cX6_strike 38 = .ok (.invokevirtual 130, 3) := by decide +kernel
theorem dX6_strike_41 : decode cX6_strike 41 = .ok (.ireturn, 1) := by decide +kernel
theorem dX6_impulse_0 : decode cX6_impulse 0 = .ok (.aload_n 0, 1) := by decide +kernel
theorem dX6_impulse_1 : decode cX6_impulse 1 = .ok (.iload_n 2, 1) := by decide +kernel
theorem dX6_impulse_2 : decode cX6_impulse 2 = .ok (.invokevirtual 78, 3) := by decide +kernel
theorem dX6_impulse_5 : decode cX6_impulse 5 = .ok (.iload_n 1, 1) := by decide +kernel
theorem dX6_impulse_6 : decode cX6_impulse 6 = .ok (.aload_n 0, 1) := by decide +kernel
theorem dX6_impulse_7 : decode cX6_impulse 7 = .ok (.getfield 23, 3) := by decide +kernel
theorem dX6_impulse_10 : decode cX6_impulse 10 = .ok (.getfield 154, 3) := by decide +kernel
theorem dX6_impulse_13 : decode cX6_impulse 13 = .ok (.sipush 9999, 3) := by decide +kernel
theorem dX6_impulse_16 : decode cX6_impulse 16 = .ok (.invokestatic 48, 3) := by decide +kernel
theorem dX6_impulse_19 : decode cX6_impulse 19 = .ok (.iload_n 3, 1) := by decide +kernel
theorem dX6_impulse_20 : decode cX6_impulse 20 = .ok (.sipush (-9999), 3) := by decide +kernel
theorem dX6_impulse_23 : decode cX6_impulse 23 = .ok (.sipush 9999, 3) := by decide +kernel
theorem dX6_impulse_26 : decode cX6_impulse 26 = .ok (.invokestatic 48, 3) := by decide +kernel
theorem dX6_impulse_29 : decode cX6_impulse 29 = .ok (.iload_n 3, 1) := by decide +kernel
theorem dX6_impulse_30 : decode cX6_impulse 30 = .ok (.ifCond .ne 13, 3) := by decide +kernel
theorem dX6_impulse_33 : decode cX6_impulse 33 = .ok (.new 157, 3) := by decide +kernel
theorem dX6_impulse_36 : decode cX6_impulse 36 = .ok (.dup, 1) := by decide +kernel
theorem dX6_impulse_37 : decode cX6_impulse 37 = .ok (.ldc 159, 2) := by decide +kernel
theorem dX6_impulse_39 : decode cX6_impulse 39 = .ok (.invokespecial 161, 3) := by decide +kernel
theorem dX6_impulse_42 : decode cX6_impulse 42 = .ok (.athrow, 1) := by decide +kernel
theorem dX6_impulse_43 : decode cX6_impulse 43 = .ok (.aload_n 0, 1) := by decide +kernel
theorem dX6_impulse_44 : decode cX6_impulse 44 = .ok (.getfield 23, 3) := by decide +kernel
theorem dX6_impulse_47 : decode cX6_impulse 47 = .ok (.getfield 107, 3) := by decide +kernel
theorem dX6_impulse_50 : decode cX6_impulse 50 = .ok (.getfield 111, 3) := by decide +kernel
theorem dX6_impulse_53 : decode cX6_impulse 53 = .ok (.bipush 16, 2) := by decide +kernel
theorem dX6_impulse_55 : decode cX6_impulse 55 = .ok (.if_icmp .lt 13, 3) := by decide +kernel
theorem dX6_impulse_58 : decode cX6_impulse 58 = .ok (.new 164, 3) := by decide +kernel
theorem dX6_impulse_61 : decode cX6_impulse 61 = .ok (.dup, 1) := by decide +kernel
theorem dX6_impulse_62 : decode cX6_impulse 62 = .ok (.ldc 166, 2) := by decide +kernel
theorem dX6_impulse_64 : decode cX6_impulse 64 = .ok (.invokespecial 168, 3) := by decide +kernel
theorem dX6_impulse_67 : decode cX6_impulse 67 = .ok (.athrow, 1) := by decide +kernel
theorem dX6_impulse_68 : decode cX6_impulse 68 = .ok (.aload_n 0, 1) := by decide +kernel
theorem dX6_impulse_69 : decode cX6_impulse 69 = .ok (.getfield 33, 3) := by decide +kernel
theorem dX6_impulse_72 : decode cX6_impulse 72 = .ok (.aload_n 0, 1) := by decide +kernel
theorem dX6_impulse_73 : decode cX6_impulse 73 = .ok (.getfield 23, 3) := by decide +kernel
theorem dX6_impulse_76 : decode cX6_impulse 76 = .ok (.invokevirtual 60, 3) := by decide +kernel
theorem dX6_impulse_79 : decode cX6_impulse 79 = .ok (.aload_n 0, 1) := by decide +kernel
theorem dX6_impulse_80 : decode cX6_impulse 80 = .ok (.getfield 23, 3) := by decide +kernel
theorem dX6_impulse_83 : decode cX6_impulse 83 = .ok (.getfield 107, 3) := by decide +kernel
theorem dX6_impulse_86 : decode cX6_impulse 86 = .ok (.iload_n 1, 1) := by decide +kernel
theorem dX6_impulse_87 : decode cX6_impulse 87 = .ok (.iload_n 2, 1) := by decide +kernel
theorem dX6_impulse_88 : decode cX6_impulse 88 = .ok (.iload_n 3, 1) := by decide +kernel
theorem dX6_impulse_89 : decode cX6_impulse 89 = .ok (.invokevirtual 169, 3) := by decide +kernel
theorem dX6_impulse_92 : decode cX6_impulse 92 = .ok (.aload_n 0, 1) := by decide +kernel
theorem dX6_impulse_93 : decode cX6_impulse 93 = .ok (.getfield 23, 3) := by decide +kernel
theorem dX6_impulse_96 : decode cX6_impulse 96 = .ok (.getfield 107, 3) := by decide +kernel
theorem dX6_impulse_99 : decode cX6_impulse 99 = .ok (.getfield 111, 3) := by decide +kernel
theorem dX6_impulse_102 : decode cX6_impulse 102 = .ok (.ireturn, 1) := by decide +kernel
theorem dX6_stiffen_0 : decode cX6_stiffen 0 = .ok (.aload_n 0, 1) := by decide +kernel
theorem dX6_stiffen_1 : decode cX6_stiffen 1 = .ok (.iload_n 1, 1) := by decide +kernel
theorem dX6_stiffen_2 : decode cX6_stiffen 2 = .ok (.invokevirtual 85, 3) := by decide +kernel
theorem dX6_stiffen_5 : decode cX6_stiffen 5 = .ok (.iload_n 2, 1) := by decide +kernel
theorem dX6_stiffen_6 : decode cX6_stiffen 6 = .ok (.iconst 0, 1) := by decide +kernel
theorem dX6_stiffen_7 : decode cX6_stiffen 7 = .ok (.sipush 999, 3) := by decide +kernel
theorem dX6_stiffen_10 : decode cX6_stiffen 10 = .ok (.invokestatic 48, 3) := by decide +kernel
theorem dX6_stiffen_13 : decode cX6_stiffen 13 = .ok (.aload_n 0, 1) := by decide +kernel
theorem dX6_stiffen_14 : decode cX6_stiffen 14 = .ok (.getfield 33, 3) := by decide +kernel
theorem dX6_stiffen_17 : decode cX6_stiffen 17 = .ok (.aload_n 0, 1) := by decide +kernel
theorem dX6_stiffen_18 : decode cX6_stiffen 18 = .ok (.getfield 23, 3) := by decide +kernel
theorem dX6_stiffen_21 : decode cX6_stiffen 21 = .ok (.invokevirtual 60, 3) := by decide +kernel
theorem dX6_stiffen_24 : decode cX6_stiffen 24 = .ok (.aload_n 0, 1) := by decide +kernel
theorem dX6_stiffen_25 : decode cX6_stiffen 25 = .ok (.getfield 23, 3) := by decide +kernel
theorem dX6_stiffen_28 : decode cX6_stiffen 28 = .ok (.iload_n 1, 1) := by decide +kernel
theorem dX6_stiffen_29 : decode cX6_stiffen 29 = .ok (.invokevirtual 172, 3) := by decide +kernel
theorem dX6_stiffen_32 : decode cX6_stiffen 32 = .ok (.istore_n 3, 1) := by decide +kernel
theorem dX6_stiffen_33 : decode cX6_stiffen 33 = .ok (.aload_n 0, 1) := by decide +kernel
theorem dX6_stiffen_34 : decode cX6_stiffen 34 = .ok (.getfield 23, 3) := by decide +kernel
theorem dX6_stiffen_37 : decode cX6_stiffen 37 = .ok (.iload_n 1, 1) := by decide +kernel
theorem dX6_stiffen_38 : decode cX6_stiffen 38 = .ok (.iload_n 2, 1) := by decide +kernel
theorem dX6_stiffen_39 : decode cX6_stiffen 39 = .ok (.invokevirtual 175, 3) := by decide +kernel
theorem dX6_stiffen_42 : decode cX6_stiffen 42 = .ok (.iload_n 3, 1) := by decide +kernel
theorem dX6_stiffen_43 : decode cX6_stiffen 43 = .ok (.ireturn, 1) := by decide +kernel
theorem dX6_mend_0 : decode cX6_mend 0 = .ok (.aload_n 0, 1) := by decide +kernel
theorem dX6_mend_1 : decode cX6_mend 1 = .ok (.iload_n 1, 1) := by decide +kernel
theorem dX6_mend_2 : decode cX6_mend 2 = .ok (.invokevirtual 85, 3) := by decide +kernel
theorem dX6_mend_5 : decode cX6_mend 5 = .ok (.aload_n 0, 1) := by decide +kernel
theorem dX6_mend_6 : decode cX6_mend 6 = .ok (.getfield 23, 3) := by decide +kernel
theorem dX6_mend_9 : decode cX6_mend 9 = .ok (.iload_n 1, 1) := by decide +kernel
theorem dX6_mend_10 : decode cX6_mend 10 = .ok (.invokevirtual 178, 3) := by decide +kernel
theorem dX6_mend_13 : decode cX6_mend 13 = .ok (.ifCond .ne 13, 3) := by decide +kernel
theorem dX6_mend_16 : decode cX6_mend 16 = .ok (.new 164, 3) := by decide +kernel
theorem dX6_mend_19 : decode cX6_mend 19 = .ok (.dup, 1) := by decide +kernel
theorem dX6_mend_20 : decode cX6_mend 20 = .ok (.ldc 182, 2) := by decide +kernel
theorem dX6_mend_22 : decode cX6_mend 22 = .ok (.invokespecial 168, 3) := by decide +kernel
theorem dX6_mend_25 : decode cX6_mend 25 = .ok (.athrow, 1) := by decide +kernel
theorem dX6_mend_26 : decode cX6_mend 26 = .ok (.aload_n 0, 1) := by decide +kernel
theorem dX6_mend_27 : decode cX6_mend 27 = .ok (.getfield 33, 3) := by decide +kernel
theorem dX6_mend_30 : decode cX6_mend 30 = .ok (.aload_n 0, 1) := by decide +kernel
theorem dX6_mend_31 : decode cX6_mend 31 = .ok (.getfield 23, 3) := by decide +kernel
theorem dX6_mend_34 : decode cX6_mend 34 = .ok (.invokevirtual 60, 3) := by decide +kernel
theorem dX6_mend_37 : decode cX6_mend 37 = .ok (.aload_n 0, 1) := by decide +kernel
theorem dX6_mend_38 : decode cX6_mend 38 = .ok (.getfield 23, 3) := by decide +kernel
theorem dX6_mend_41 : decode cX6_mend 41 = .ok (.iload_n 1, 1) := by decide +kernel
theorem dX6_mend_42 : decode cX6_mend 42 = .ok (.iconst 0, 1) := by decide +kernel
theorem dX6_mend_43 : decode cX6_mend 43 = .ok (.invokevirtual 184, 3) := by decide +kernel
theorem dX6_mend_46 : decode cX6_mend 46 = .ok (.aload_n 0, 1) := by decide +kernel
theorem dX6_mend_47 : decode cX6_mend 47 = .ok (.getfield 23, 3) := by decide +kernel
theorem dX6_mend_50 : decode cX6_mend 50 = .ok (.invokevirtual 133, 3) := by decide +kernel
theorem dX6_mend_53 : decode cX6_mend 53 = .ok (.ireturn, 1) := by decide +kernel
theorem dX6_move_0 : decode cX6_move 0 = .ok (.iload_n 2, 1) := by decide +kernel
theorem dX6_move_1 : decode cX6_move 1 = .ok (.ldc 149, 2) := by decide +kernel
theorem dX6_move_3 : decode cX6_move 3 = .ok (.ldc 150, 2) := by decide +kernel
theorem dX6_move_5 : decode cX6_move 5 = .ok (.invokestatic 48, 3) := by decide +kernel
theorem dX6_move_8 : decode cX6_move 8 = .ok (.aload_n 0, 1) := by decide +kernel
theorem dX6_move_9 : decode cX6_move 9 = .ok (.getfield 33, 3) := by decide +kernel
theorem dX6_move_12 : decode cX6_move 12 = .ok (.aload_n 0, 1) := by decide +kernel
theorem dX6_move_13 : decode cX6_move 13 = .ok (.getfield 23, 3) := by decide +kernel
theorem dX6_move_16 : decode cX6_move 16 = .ok (.invokevirtual 60, 3) := by decide +kernel
theorem dX6_move_19 : decode cX6_move 19 = .ok (.iload_n 1, 1) := by decide +kernel
theorem dX6_move_20 : decode cX6_move 20 = .ok (.ifCond .eq 13, 3) := by decide +kernel
theorem dX6_move_23 : decode cX6_move 23 = .ok (.aload_n 0, 1) := by decide +kernel
theorem dX6_move_24 : decode cX6_move 24 = .ok (.getfield 23, 3) := by decide +kernel
theorem dX6_move_27 : decode cX6_move 27 = .ok (.getfield 188, 3) := by decide +kernel
theorem dX6_move_30 : decode cX6_move 30 = .ok (.goto 10, 3) := by decide +kernel
theorem dX6_move_33 : decode cX6_move 33 = .ok (.aload_n 0, 1) := by decide +kernel
theorem dX6_move_34 : decode cX6_move 34 = .ok (.getfield 23, 3) := by decide +kernel
theorem dX6_move_37 : decode cX6_move 37 = .ok (.getfield 191, 3) := by decide +kernel
theorem dX6_move_40 : decode cX6_move 40 = .ok (.istore_n 3, 1) := by decide +kernel
theorem dX6_move_41 : decode cX6_move 41 = .ok (.aload_n 0, 1) := by decide +kernel
theorem dX6_move_42 : decode cX6_move 42 = .ok (.getfield 23, 3) := by decide +kernel
theorem dX6_move_45 : decode cX6_move 45 = .ok (.iload_n 1, 1) := by decide +kernel
theorem dX6_move_46 : decode cX6_move 46 = .ok (.iload_n 2, 1) := by decide +kernel
theorem dX6_move_47 : decode cX6_move 47 = .ok (.invokevirtual 194, 3) := by decide +kernel
theorem dX6_move_50 : decode cX6_move 50 = .ok (.iload_n 3, 1) := by decide +kernel
theorem dX6_move_51 : decode cX6_move 51 = .ok (.ireturn, 1) := by decide +kernel
theorem dX6_undo_0 : decode cX6_undo 0 = .ok (.aload_n 0, 1) := by decide +kernel
theorem dX6_undo_1 : decode cX6_undo 1 = .ok (.getfield 33, 3) := by decide +kernel
theorem dX6_undo_4 : decode cX6_undo 4 = .ok (.getfield 198, 3) := by decide +kernel
theorem dX6_undo_7 : decode cX6_undo 7 = .ok (.ifCond .ne 5, 3) := by decide +kernel
theorem dX6_undo_10 : decode cX6_undo 10 = .ok (.iconst (-1), 1) := by decide +kernel
theorem dX6_undo_11 : decode cX6_undo 11 = .ok (.ireturn, 1) := by decide +kernel
theorem dX6_undo_12 : decode cX6_undo 12 = .ok (.aload_n 0, 1) := by decide +kernel
theorem dX6_undo_13 : decode cX6_undo 13 = .ok (.getfield 33, 3) := by decide +kernel
theorem dX6_undo_16 : decode cX6_undo 16 = .ok (.aload_n 0, 1) := by decide +kernel
theorem dX6_undo_17 : decode cX6_undo 17 = .ok (.getfield 23, 3) := by decide +kernel
theorem dX6_undo_20 : decode cX6_undo 20 = .ok (.invokevirtual 199, 3) := by decide +kernel
theorem dX6_undo_23 : decode cX6_undo 23 = .ok (.aload_n 0, 1) := by decide +kernel
theorem dX6_undo_24 : decode cX6_undo 24 = .ok (.getfield 33, 3) := by decide +kernel
theorem dX6_undo_27 : decode cX6_undo 27 = .ok (.getfield 198, 3) := by decide +kernel
theorem dX6_undo_30 : decode cX6_undo 30 = .ok (.ireturn, 1) := by decide +kernel
theorem dX6_checksum_0 : decode cX6_checksum 0 = .ok (.lconst 0, 1) := by decide +kernel
theorem dX6_checksum_1 : decode cX6_checksum 1 = .ok (.lstore_n 1, 1) := by decide +kernel
theorem dX6_checksum_2 : decode cX6_checksum 2 = .ok (.iconst 0, 1) := by decide +kernel
theorem dX6_checksum_3 : decode cX6_checksum 3 = .ok (.istore_n 3, 1) := by decide +kernel
theorem dX6_checksum_4 : decode cX6_checksum 4 = .ok (.iload_n 3, 1) := by decide +kernel
theorem dX6_checksum_5 : decode cX6_checksum 5 = .ok (.bipush 11, 2) := by decide +kernel
theorem dX6_checksum_7 : decode cX6_checksum 7 = .ok (.if_icmp .gt 25, 3) := by decide +kernel
theorem dX6_checksum_10 : decode cX6_checksum 10 = .ok (.ldc2_w 202, 3) := by decide +kernel
theorem dX6_checksum_13 : decode cX6_checksum 13 = .ok (.lload_n 1, 1) := by decide +kernel
theorem dX6_checksum_14 : decode cX6_checksum 14 = .ok (.lmul, 1) := by decide +kernel
theorem dX6_checksum_15 : decode cX6_checksum 15 = .ok (.aload_n 0, 1) := by decide +kernel
theorem dX6_checksum_16 : decode cX6_checksum 16 = .ok (.getfield 23, 3) := by decide +kernel
theorem dX6_checksum_19 : decode cX6_checksum 19 = .ok (.iload_n 3, 1) := by decide +kernel
theorem dX6_checksum_20 : decode cX6_checksum 20 = .ok (.invokevirtual 70, 3) := by decide +kernel
theorem dX6_checksum_23 : decode cX6_checksum 23 = .ok (.i2l, 1) := by decide +kernel
theorem dX6_checksum_24 : decode cX6_checksum 24 = .ok (.ladd, 1) := by decide +kernel
theorem dX6_checksum_25 : decode cX6_checksum 25 = .ok (.lstore_n 1, 1) := by decide +kernel
theorem dX6_checksum_26 : decode cX6_checksum 26 = .ok (.iinc 3 1, 3) := by decide +kernel
theorem dX6_checksum_29 : decode cX6_checksum 29 = .ok (.goto (-25), 3) := by decide +kernel
theorem dX6_checksum_32 : decode cX6_checksum 32 = .ok (.iconst 0, 1) := by decide +kernel
theorem dX6_checksum_33 : decode cX6_checksum 33 = .ok (.istore_n 3, 1) := by decide +kernel
theorem dX6_checksum_34 : decode cX6_checksum 34 = .ok (.iload_n 3, 1) := by decide +kernel
theorem dX6_checksum_35 : decode cX6_checksum 35 = .ok (.bipush 7, 2) := by decide +kernel
theorem dX6_checksum_37 : decode cX6_checksum 37 = .ok (.if_icmp .gt 24, 3) := by decide +kernel
theorem dX6_checksum_40 : decode cX6_checksum 40 = .ok (.ldc2_w 202, 3) := by decide +kernel
theorem dX6_checksum_43 : decode cX6_checksum 43 = .ok (.lload_n 1, 1) := by decide +kernel
theorem dX6_checksum_44 : decode cX6_checksum 44 = .ok (.lmul, 1) := by decide +kernel
theorem dX6_checksum_45 : decode cX6_checksum 45 = .ok (.aload_n 0, 1) := by decide +kernel
theorem dX6_checksum_46 : decode cX6_checksum 46 = .ok (.getfield 23, 3) := by decide +kernel
theorem dX6_checksum_49 : decode cX6_checksum 49 = .ok (.iload_n 3, 1) := by decide +kernel
theorem dX6_checksum_50 : decode cX6_checksum 50 = .ok (.invokevirtual 74, 3) := by decide +kernel
theorem dX6_checksum_53 : decode cX6_checksum 53 = .ok (.ladd, 1) := by decide +kernel
theorem dX6_checksum_54 : decode cX6_checksum 54 = .ok (.lstore_n 1, 1) := by decide +kernel
theorem dX6_checksum_55 : decode cX6_checksum 55 = .ok (.iinc 3 1, 3) := by decide +kernel
theorem dX6_checksum_58 : decode cX6_checksum 58 = .ok (.goto (-24), 3) := by decide +kernel
theorem dX6_checksum_61 : decode cX6_checksum 61 = .ok (.iconst 0, 1) := by decide +kernel
theorem dX6_checksum_62 : decode cX6_checksum 62 = .ok (.istore_n 3, 1) := by decide +kernel
theorem dX6_checksum_63 : decode cX6_checksum 63 = .ok (.iload_n 3, 1) := by decide +kernel
theorem dX6_checksum_64 : decode cX6_checksum 64 = .ok (.aload_n 0, 1) := by decide +kernel
theorem dX6_checksum_65 : decode cX6_checksum 65 = .ok (.getfield 23, 3) := by decide +kernel
theorem dX6_checksum_68 : decode cX6_checksum 68 = .ok (.getfield 67, 3) := by decide +kernel
theorem dX6_checksum_71 : decode cX6_checksum 71 = .ok (.if_icmp .ge 42, 3) := by decide +kernel
theorem dX6_checksum_74 : decode cX6_checksum 74 = .ok (.iconst 0, 1) := by decide +kernel
theorem dX6_checksum_75 : decode cX6_checksum 75 = .ok (.istore 4, 2) := by decide +kernel
theorem dX6_checksum_77 : decode cX6_checksum 77 = .ok (.iload 4, 2) := by decide +kernel
theorem dX6_checksum_79 : decode cX6_checksum 79 = .ok (.iconst 3, 1) := by decide +kernel
theorem dX6_checksum_80 : decode cX6_checksum 80 = .ok (.if_icmp .gt 27, 3) := by decide +kernel
theorem dX6_checksum_83 : decode cX6_checksum 83 = .ok (.ldc2_w 202, 3) := by decide +kernel
theorem dX6_checksum_86 : decode cX6_checksum 86 = .ok (.lload_n 1, 1) := by decide +kernel
theorem dX6_checksum_87 : decode cX6_checksum 87 = .ok (.lmul, 1) := by decide +kernel
theorem dX6_checksum_88 : decode cX6_checksum 88 = .ok (.aload_n 0, 1) := by decide +kernel
theorem dX6_checksum_89 : decode cX6_checksum 89 = .ok (.getfield 23, 3) := by decide +kernel
theorem dX6_checksum_92 : decode cX6_checksum 92 = .ok (.iload_n 3, 1) := by decide +kernel
theorem dX6_checksum_93 : decode cX6_checksum 93 = .ok (.iload 4, 2) := by decide +kernel
theorem dX6_checksum_95 : decode cX6_checksum 95 = .ok (.invokevirtual 81, 3) := by decide +kernel
theorem dX6_checksum_98 : decode cX6_checksum 98 = .ok (.i2l, 1) := by decide +kernel
theorem dX6_checksum_99 : decode cX6_checksum 99 = .ok (.ladd, 1) := by decide +kernel
theorem dX6_checksum_100 : decode cX6_checksum 100 = .ok (.lstore_n 1, 1) := by decide +kernel
theorem dX6_checksum_101 : decode cX6_checksum 101 = .ok (.iinc 4 1, 3) := by decide +kernel
theorem dX6_checksum_104 : decode cX6_checksum 104 = .ok (.goto (-27), 3) := by decide +kernel
theorem dX6_checksum_107 : decode cX6_checksum 107 = .ok (.iinc 3 1, 3) := by decide +kernel
theorem dX6_checksum_110 : decode cX6_checksum 110 = .ok (.goto (-47), 3) := by decide +kernel
theorem dX6_checksum_113 : decode cX6_checksum 113 = .ok (.iconst 0, 1) := by decide +kernel
theorem dX6_checksum_114 : decode cX6_checksum 114 = .ok (.istore_n 3, 1) := by decide +kernel
theorem dX6_checksum_115 : decode cX6_checksum 115 = .ok (.iload_n 3, 1) := by decide +kernel
theorem dX6_checksum_116 : decode cX6_checksum 116 = .ok (.aload_n 0, 1) := by decide +kernel
theorem dX6_checksum_117 : decode cX6_checksum 117 = .ok (.getfield 23, 3) := by decide +kernel
theorem dX6_checksum_120 : decode cX6_checksum 120 = .ok (.getfield 67, 3) := by decide +kernel
theorem dX6_checksum_123 : decode cX6_checksum 123 = .ok (.if_icmp .gt 42, 3) := by decide +kernel
theorem dX6_checksum_126 : decode cX6_checksum 126 = .ok (.iconst 0, 1) := by decide +kernel
theorem dX6_checksum_127 : decode cX6_checksum 127 = .ok (.istore 4, 2) := by decide +kernel
theorem dX6_checksum_129 : decode cX6_checksum 129 = .ok (.iload 4, 2) := by decide +kernel
theorem dX6_checksum_131 : decode cX6_checksum 131 = .ok (.iconst 4, 1) := by decide +kernel
theorem dX6_checksum_132 : decode cX6_checksum 132 = .ok (.if_icmp .gt 27, 3) := by decide +kernel
theorem dX6_checksum_135 : decode cX6_checksum 135 = .ok (.ldc2_w 202, 3) := by decide +kernel
theorem dX6_checksum_138 : decode cX6_checksum 138 = .ok (.lload_n 1, 1) := by decide +kernel
theorem dX6_checksum_139 : decode cX6_checksum 139 = .ok (.lmul, 1) := by decide +kernel
theorem dX6_checksum_140 : decode cX6_checksum 140 = .ok (.aload_n 0, 1) := by decide +kernel
theorem dX6_checksum_141 : decode cX6_checksum 141 = .ok (.getfield 23, 3) := by decide +kernel
theorem dX6_checksum_144 : decode cX6_checksum 144 = .ok (.iload_n 3, 1) := by decide +kernel
theorem dX6_checksum_145 : decode cX6_checksum 145 = .ok (.iload 4, 2) := by decide +kernel
theorem dX6_checksum_147 : decode cX6_checksum 147 = .ok (.invokevirtual 88, 3) := by decide +kernel
theorem dX6_checksum_150 : decode cX6_checksum 150 = .ok (.i2l, 1) := by decide +kernel
theorem dX6_checksum_151 : decode cX6_checksum 151 = .ok (.ladd, 1) := by decide +kernel
theorem dX6_checksum_152 : decode cX6_checksum 152 = .ok (.lstore_n 1, 1) := by decide +kernel
theorem dX6_checksum_153 : decode cX6_checksum 153 = .ok (.iinc 4 1, 3) := by decide +kernel
theorem dX6_checksum_156 : decode cX6_checksum 156 = .ok (.goto (-27), 3) := by decide +kernel
theorem dX6_checksum_159 : decode cX6_checksum 159 = .ok (.iinc 3 1, 3) := by decide +kernel
theorem dX6_checksum_162 : decode cX6_checksum 162 = .ok (.goto (-47), 3) := by decide +kernel
theorem dX6_checksum_165 : decode cX6_checksum 165 = .ok (.iconst 0, 1) := by decide +kernel
theorem dX6_checksum_166 : decode cX6_checksum 166 = .ok (.istore_n 3, 1) := by decide +kernel
theorem dX6_checksum_167 : decode cX6_checksum 167 = .ok (.iload_n 3, 1) := by decide +kernel
theorem dX6_checksum_168 : decode cX6_checksum 168 = .ok (.aload_n 0, 1) := by decide +kernel
theorem dX6_checksum_169 : decode cX6_checksum 169 = .ok (.getfield 23, 3) := by decide +kernel
theorem dX6_checksum_172 : decode cX6_checksum 172 = .ok (.getfield 91, 3) := by decide +kernel
theorem dX6_checksum_175 : decode cX6_checksum 175 = .ok (.getfield 95, 3) := by decide +kernel
theorem dX6_checksum_178 : decode cX6_checksum 178 = .ok (.if_icmp .ge 45, 3) := by decide +kernel
theorem dX6_checksum_181 : decode cX6_checksum 181 = .ok (.iconst 0, 1) := by decide +kernel
theorem dX6_checksum_182 : decode cX6_checksum 182 = .ok (.istore 4, 2) := by decide +kernel
theorem dX6_checksum_184 : decode cX6_checksum 184 = .ok (.iload 4, 2) := by decide +kernel
theorem dX6_checksum_186 : decode cX6_checksum 186 = .ok (.iconst 1, 1) := by decide +kernel
theorem dX6_checksum_187 : decode cX6_checksum 187 = .ok (.if_icmp .gt 30, 3) := by decide +kernel
theorem dX6_checksum_190 : decode cX6_checksum 190 = .ok (.ldc2_w 202, 3) := by decide +kernel
theorem dX6_checksum_193 : decode cX6_checksum 193 = .ok (.lload_n 1, 1) := by decide +kernel
theorem dX6_checksum_194 : decode cX6_checksum 194 = .ok (.lmul, 1) := by decide +kernel
theorem dX6_checksum_195 : decode cX6_checksum 195 = .ok (.aload_n 0, 1) := by decide +kernel
theorem dX6_checksum_196 : decode cX6_checksum 196 = .ok (.getfield 23, 3) := by decide +kernel
theorem dX6_checksum_199 : decode cX6_checksum 199 = .ok (.getfield 91, 3) := by decide +kernel
theorem dX6_checksum_202 : decode cX6_checksum 202 = .ok (.iload_n 3, 1) := by decide +kernel
theorem dX6_checksum_203 : decode cX6_checksum 203 = .ok (.iload 4, 2) := by decide +kernel
theorem dX6_checksum_205 : decode cX6_checksum 205 = .ok (.invokevirtual 104, 3) := by decide +kernel
theorem dX6_checksum_208 : decode cX6_checksum 208 = .ok (.i2l, 1) := by decide +kernel
theorem dX6_checksum_209 : decode cX6_checksum 209 = .ok (.ladd, 1) := by decide +kernel
theorem dX6_checksum_210 : decode cX6_checksum 210 = .ok (.lstore_n 1, 1) := by decide +kernel
theorem dX6_checksum_211 : decode cX6_checksum 211 = .ok (.iinc 4 1, 3) := by decide +kernel
theorem dX6_checksum_214 : decode cX6_checksum 214 = .ok (.goto (-30), 3) := by decide +kernel
theorem dX6_checksum_217 : decode cX6_checksum 217 = .ok (.iinc 3 1, 3) := by decide +kernel
theorem dX6_checksum_220 : decode cX6_checksum 220 = .ok (.goto (-53), 3) := by decide +kernel
theorem dX6_checksum_223 : decode cX6_checksum 223 = .ok (.lload_n 1, 1) := by decide +kernel
theorem dX6_checksum_224 : decode cX6_checksum 224 = .ok (.lreturn, 1) := by decide +kernel
theorem dX6_appendWord_0 : decode cX6_appendWord 0 = .ok (.bipush 24, 2) := by decide +kernel
theorem dX6_appendWord_2 : decode cX6_appendWord 2 = .ok (.istore_n 2, 1) := by decide +kernel
theorem dX6_appendWord_3 : decode cX6_appendWord 3 = .ok (.iload_n 2, 1) := by decide +kernel
theorem dX6_appendWord_4 : decode cX6_appendWord 4 = .ok (.ifCond .lt 51, 3) := by decide +kernel
theorem dX6_appendWord_7 : decode cX6_appendWord 7 = .ok (.aload_n 0, 1) := by decide +kernel
theorem dX6_appendWord_8 : decode cX6_appendWord 8 = .ok (.getfield 37, 3) := by decide +kernel
theorem dX6_appendWord_11 : decode cX6_appendWord 11 = .ok (.ifCond .lt 38, 3) := by decide +kernel
theorem dX6_appendWord_14 : decode cX6_appendWord 14 = .ok (.aload_n 0, 1) := by decide +kernel
theorem dX6_appendWord_15 : decode cX6_appendWord 15 = .ok (.getfield 37, 3) := by decide +kernel
theorem dX6_appendWord_18 : decode cX6_appendWord 18 = .ok (.aload_n 0, 1) := by decide +kernel
theorem dX6_appendWord_19 : decode cX6_appendWord 19 = .ok (.getfield 9, 3) := by decide +kernel
theorem dX6_appendWord_22 : decode cX6_appendWord 22 = .ok (.arraylength, 1) := by decide +kernel
theorem dX6_appendWord_23 : decode cX6_appendWord 23 = .ok (.if_icmp .ge 26, 3) := by decide +kernel
theorem dX6_appendWord_26 : decode cX6_appendWord 26 = .ok (.aload_n 0, 1) := by decide +kernel
theorem dX6_appendWord_27 : decode cX6_appendWord 27 = .ok (.getfield 9, 3) := by decide +kernel
theorem dX6_appendWord_30 : decode cX6_appendWord 30 = .ok (.aload_n 0, 1) := by decide +kernel
theorem dX6_appendWord_31 : decode cX6_appendWord 31 = .ok (.getfield 37, 3) := by decide +kernel
theorem dX6_appendWord_34 : decode cX6_appendWord 34 = .ok (.iload_n 1, 1) := by decide +kernel
theorem dX6_appendWord_35 : decode cX6_appendWord 35 = .ok (.iload_n 2, 1) := by decide +kernel
theorem dX6_appendWord_36 : decode cX6_appendWord 36 = .ok (.ishr, 1) := by decide +kernel
theorem dX6_appendWord_37 : decode cX6_appendWord 37 = .ok (.i2b, 1) := by decide +kernel
theorem dX6_appendWord_38 : decode cX6_appendWord 38 = .ok (.bastore, 1) := by decide +kernel
theorem dX6_appendWord_39 : decode cX6_appendWord 39 = .ok (.aload_n 0, 1) := by decide +kernel
theorem dX6_appendWord_40 : decode cX6_appendWord 40 = .ok (.dup, 1) := by decide +kernel
theorem dX6_appendWord_41 : decode cX6_appendWord 41 = .ok (.getfield 37, 3) := by decide +kernel
theorem dX6_appendWord_44 : decode cX6_appendWord 44 = .ok (.iconst 1, 1) := by decide +kernel
theorem dX6_appendWord_45 : decode cX6_appendWord 45 = .ok (.iadd, 1) := by decide +kernel
theorem dX6_appendWord_46 : decode cX6_appendWord 46 = .ok (.putfield 37, 3) := by decide +kernel
theorem dX6_appendWord_49 : decode cX6_appendWord 49 = .ok (.iinc 2 (-8), 3) := by decide +kernel
theorem dX6_appendWord_52 : decode cX6_appendWord 52 = .ok (.goto (-49), 3) := by decide +kernel
theorem dX6_appendWord_55 : decode cX6_appendWord 55 = .ok (.return_, 1) := by decide +kernel
theorem dX6_requireMass_0 : decode cX6_requireMass 0 = .ok (.iload_n 1, 1) := by decide +kernel
theorem dX6_requireMass_1 : decode cX6_requireMass 1 = .ok (.ifCond .lt 14, 3) := by decide +kernel
theorem dX6_requireMass_4 : decode cX6_requireMass 4 = .ok (.iload_n 1, 1) := by decide +kernel
theorem dX6_requireMass_5 : decode cX6_requireMass 5 = .ok (.aload_n 0, 1) := by decide +kernel
theorem dX6_requireMass_6 : decode cX6_requireMass 6 = .ok (.getfield 23, 3) := by decide +kernel
theorem dX6_requireMass_9 : decode cX6_requireMass 9 = .ok (.getfield 67, 3) := by decide +kernel
theorem dX6_requireMass_12 : decode cX6_requireMass 12 = .ok (.if_icmp .lt 13, 3) := by decide +kernel
theorem dX6_requireMass_15 : decode cX6_requireMass 15 = .ok (.new 204, 3) := by decide +kernel
theorem dX6_requireMass_18 : decode cX6_requireMass 18 = .ok (.dup, 1) := by decide +kernel
theorem dX6_requireMass_19 : decode cX6_requireMass 19 = .ok (.ldc 206, 2) := by decide +kernel
theorem dX6_requireMass_21 : decode cX6_requireMass 21 = .ok (.invokespecial 208, 3) := by decide +kernel
theorem dX6_requireMass_24 : decode cX6_requireMass 24 = .ok (.athrow, 1) := by decide +kernel
theorem dX6_requireMass_25 : decode cX6_requireMass 25 = .ok (.return_, 1) := by decide +kernel
theorem dX6_requireSpring_0 : decode cX6_requireSpring 0 = .ok (.iload_n 1, 1) := by decide +kernel
theorem dX6_requireSpring_1 : decode cX6_requireSpring 1 = .ok (.ifCond .lt 14, 3) := by decide +kernel
theorem dX6_requireSpring_4 : decode cX6_requireSpring 4 = .ok (.iload_n 1, 1) := by decide +kernel
theorem dX6_requireSpring_5 : decode cX6_requireSpring 5 = .ok (.aload_n 0, 1) := by decide +kernel
theorem dX6_requireSpring_6 : decode cX6_requireSpring 6 = .ok (.getfield 23, 3) := by decide +kernel
theorem dX6_requireSpring_9 : decode cX6_requireSpring 9 = .ok (.getfield 67, 3) := by decide +kernel
theorem dX6_requireSpring_12 : decode cX6_requireSpring 12 = .ok (.if_icmp .le 13, 3) := by decide +kernel
theorem dX6_requireSpring_15 : decode cX6_requireSpring 15 = .ok (.new 204, 3) := by decide +kernel
theorem dX6_requireSpring_18 : decode cX6_requireSpring 18 = .ok (.dup, 1) := by decide +kernel
theorem dX6_requireSpring_19 : decode cX6_requireSpring 19 = .ok (.ldc 209, 2) := by decide +kernel
theorem dX6_requireSpring_21 : decode cX6_requireSpring 21 = .ok (.invokespecial 208, 3) := by decide +kernel
theorem dX6_requireSpring_24 : decode cX6_requireSpring 24 = .ok (.athrow, 1) := by decide +kernel
theorem dX6_requireSpring_25 : decode cX6_requireSpring 25 = .ok (.return_, 1) := by decide +kernel
theorem dX6_requireElement_0 : decode cX6_requireElement 0 = .ok (.iload_n 0, 1) := by decide +kernel
theorem dX6_requireElement_1 : decode cX6_requireElement 1 = .ok (.ifCond .lt 8, 3) := by decide +kernel
theorem dX6_requireElement_4 : decode cX6_requireElement 4 = .ok (.iload_n 0, 1) := by decide +kernel
theorem dX6_requireElement_5 : decode cX6_requireElement 5 = .ok (.iload_n 1, 1) := by decide +kernel
theorem dX6_requireElement_6 : decode cX6_requireElement 6 = .ok (.if_icmp .lt 13, 3) := by decide +kernel
theorem dX6_requireElement_9 : decode cX6_requireElement 9 = .ok (.new 211, 3) := by decide +kernel
theorem dX6_requireElement_12 : decode cX6_requireElement 12 = .ok (.dup, 1) := by decide +kernel
theorem dX6_requireElement_13 : decode cX6_requireElement 13 = .ok (.ldc 213, 2) := by decide +kernel
theorem dX6_requireElement_15 : decode cX6_requireElement 15 = .ok (.invokespecial 215, 3) := by decide +kernel
theorem dX6_requireElement_18 : decode cX6_requireElement 18 = .ok (.athrow, 1) := by decide +kernel
theorem dX6_requireElement_19 : decode cX6_requireElement 19 = .ok (.return_, 1) := by decide +kernel
theorem dX6_requireWithin_0 : decode cX6_requireWithin 0 = .ok (.iload_n 0, 1) := by decide +kernel
theorem dX6_requireWithin_1 : decode cX6_requireWithin 1 = .ok (.iload_n 1, 1) := by decide +kernel
theorem dX6_requireWithin_2 : decode cX6_requireWithin 2 = .ok (.if_icmp .lt 8, 3) := by decide +kernel
theorem dX6_requireWithin_5 : decode cX6_requireWithin 5 = .ok (.iload_n 0, 1) := by decide +kernel
theorem dX6_requireWithin_6 : decode cX6_requireWithin 6 = .ok (.iload_n 2, 1) := by decide +kernel
theorem dX6_requireWithin_7 : decode cX6_requireWithin 7 = .ok (.if_icmp .le 13, 3) := by decide +kernel
theorem dX6_requireWithin_10 : decode cX6_requireWithin 10 = .ok (.new 157, 3) := by decide +kernel
theorem dX6_requireWithin_13 : decode cX6_requireWithin 13 = .ok (.dup, 1) := by decide +kernel
theorem dX6_requireWithin_14 : decode cX6_requireWithin 14 = .ok (.ldc 216, 2) := by decide +kernel
theorem dX6_requireWithin_16 : decode cX6_requireWithin 16 = .ok (.invokespecial 161, 3) := by decide +kernel
theorem dX6_requireWithin_19 : decode cX6_requireWithin 19 = .ok (.athrow, 1) := by decide +kernel
theorem dX6_requireWithin_20 : decode cX6_requireWithin 20 = .ok (.return_, 1) := by decide +kernel
theorem dX6_limited_0 : decode cX6_limited 0 = .ok (.iload_n 2, 1) := by decide +kernel
theorem dX6_limited_1 : decode cX6_limited 1 = .ok (.ineg, 1) := by decide +kernel
theorem dX6_limited_2 : decode cX6_limited 2 = .ok (.i2l, 1) := by decide +kernel
theorem dX6_limited_3 : decode cX6_limited 3 = .ok (.iload_n 2, 1) := by decide +kernel
theorem dX6_limited_4 : decode cX6_limited 4 = .ok (.i2l, 1) := by decide +kernel
theorem dX6_limited_5 : decode cX6_limited 5 = .ok (.lload_n 0, 1) := by decide +kernel
theorem dX6_limited_6 : decode cX6_limited 6 = .ok (.invokestatic 218, 3) := by decide +kernel
theorem dX6_limited_9 : decode cX6_limited 9 = .ok (.invokestatic 222, 3) := by decide +kernel
theorem dX6_limited_12 : decode cX6_limited 12 = .ok (.l2i, 1) := by decide +kernel
theorem dX6_limited_13 : decode cX6_limited 13 = .ok (.ireturn, 1) := by decide +kernel
theorem dX7_init_0 : decode cX7_init 0 = .ok (.aload_n 0, 1) := by decide +kernel
theorem dX7_init_1 : decode cX7_init 1 = .ok (.invokespecial 1, 3) := by decide +kernel
theorem dX7_init_4 : decode cX7_init 4 = .ok (.aload_n 0, 1) := by decide +kernel
theorem dX7_init_5 : decode cX7_init 5 = .ok (.iconst 1, 1) := by decide +kernel
theorem dX7_init_6 : decode cX7_init 6 = .ok (.anewarray 7, 3) := by decide +kernel
theorem dX7_init_9 : decode cX7_init 9 = .ok (.dup, 1) := by decide +kernel
theorem dX7_init_10 : decode cX7_init 10 = .ok (.iconst 0, 1) := by decide +kernel
theorem dX7_init_11 : decode cX7_init 11 = .ok (.new 7, 3) := by decide +kernel
theorem dX7_init_14 : decode cX7_init 14 = .ok (.dup, 1) := by decide +kernel
theorem dX7_init_15 : decode cX7_init 15 = .ok (.invokespecial 9, 3) := by decide +kernel
theorem dX7_init_18 : decode cX7_init 18 = .ok (.aastore, 1) := by decide +kernel
theorem dX7_init_19 : decode cX7_init 19 = .ok (.putfield 10, 3) := by decide +kernel
theorem dX7_init_22 : decode cX7_init 22 = .ok (.aload_n 0, 1) := by decide +kernel
theorem dX7_init_23 : decode cX7_init 23 = .ok (.iconst 2, 1) := by decide +kernel
theorem dX7_init_24 : decode cX7_init 24 = .ok (.anewarray 16, 3) := by decide +kernel
theorem dX7_init_27 : decode cX7_init 27 = .ok (.dup, 1) := by decide +kernel
theorem dX7_init_28 : decode cX7_init 28 = .ok (.iconst 0, 1) := by decide +kernel
theorem dX7_init_29 : decode cX7_init 29 = .ok (.new 16, 3) := by decide +kernel
theorem dX7_init_32 : decode cX7_init 32 = .ok (.dup, 1) := by decide +kernel
theorem dX7_init_33 : decode cX7_init 33 = .ok (.invokespecial 18, 3) := by decide +kernel
theorem dX7_init_36 : decode cX7_init 36 = .ok (.aastore, 1) := by decide +kernel
theorem dX7_init_37 : decode cX7_init 37 = .ok (.dup, 1) := by decide +kernel
theorem dX7_init_38 : decode cX7_init 38 = .ok (.iconst 1, 1) := by decide +kernel
theorem dX7_init_39 : decode cX7_init 39 = .ok (.new 16, 3) := by decide +kernel
theorem dX7_init_42 : decode cX7_init 42 = .ok (.dup, 1) := by decide +kernel
theorem dX7_init_43 : decode cX7_init 43 = .ok (.invokespecial 18, 3) := by decide +kernel
theorem dX7_init_46 : decode cX7_init 46 = .ok (.aastore, 1) := by decide +kernel
theorem dX7_init_47 : decode cX7_init 47 = .ok (.putfield 19, 3) := by decide +kernel
theorem dX7_init_50 : decode cX7_init 50 = .ok (.aload_n 0, 1) := by decide +kernel
theorem dX7_init_51 : decode cX7_init 51 = .ok (.iconst 0, 1) := by decide +kernel
theorem dX7_init_52 : decode cX7_init 52 = .ok (.anewarray 23, 3) := by decide +kernel
theorem dX7_init_55 : decode cX7_init 55 = .ok (.putfield 25, 3) := by decide +kernel
theorem dX7_init_58 : decode cX7_init 58 = .ok (.aload_n 0, 1) := by decide +kernel
theorem dX7_init_59 : decode cX7_init 59 = .ok (.iconst 0, 1) := by decide +kernel
theorem dX7_init_60 : decode cX7_init 60 = .ok (.anewarray 23, 3) := by decide +kernel
theorem dX7_init_63 : decode cX7_init 63 = .ok (.putfield 29, 3) := by decide +kernel
theorem dX7_init_66 : decode cX7_init 66 = .ok (.aload_n 0, 1) := by decide +kernel
theorem dX7_init_67 : decode cX7_init 67 = .ok (.bipush 6, 2) := by decide +kernel
theorem dX7_init_69 : decode cX7_init 69 = .ok (.newarray .long, 2) := by decide +kernel
theorem dX7_init_71 : decode cX7_init 71 = .ok (.putfield 32, 3) := by decide +kernel
theorem dX7_init_74 : decode cX7_init 74 = .ok (.return_, 1) := by decide +kernel
theorem dX7_of_0 : decode cX7_of 0 = .ok (.new 11, 3) := by decide +kernel
theorem dX7_of_3 : decode cX7_of 3 = .ok (.dup, 1) := by decide +kernel
theorem dX7_of_4 : decode cX7_of 4 = .ok (.invokespecial 36, 3) := by decide +kernel
theorem dX7_of_7 : decode cX7_of 7 = .ok (.astore_n 1, 1) := by decide +kernel
theorem dX7_of_8 : decode cX7_of 8 = .ok (.aload_n 1, 1) := by decide +kernel
theorem dX7_of_9 : decode cX7_of 9 = .ok (.iload_n 0, 1) := by decide +kernel
theorem dX7_of_10 : decode cX7_of 10 = .ok (.anewarray 7, 3) := by decide +kernel
theorem dX7_of_13 : decode cX7_of 13 = .ok (.putfield 10, 3) := by decide +kernel
theorem dX7_of_16 : decode cX7_of 16 = .ok (.aload_n 1, 1) := by decide +kernel
theorem dX7_of_17 : decode cX7_of 17 = .ok (.iload_n 0, 1) := by decide +kernel
theorem dX7_of_18 : decode cX7_of 18 = .ok (.iconst 1, 1) := by decide +kernel
theorem dX7_of_19 : decode cX7_of 19 = .ok (.iadd, 1) := by decide +kernel
theorem dX7_of_20 : decode cX7_of 20 = .ok (.anewarray 16, 3) := by decide +kernel
theorem dX7_of_23 : decode cX7_of 23 = .ok (.putfield 19, 3) := by decide +kernel
theorem dX7_of_26 : decode cX7_of 26 = .ok (.iconst 0, 1) := by decide +kernel
theorem dX7_of_27 : decode cX7_of 27 = .ok (.istore_n 2, 1) := by decide +kernel
theorem dX7_of_28 : decode cX7_of 28 = .ok (.iload_n 2, 1) := by decide +kernel
theorem dX7_of_29 : decode cX7_of 29 = .ok (.iload_n 0, 1) := by decide +kernel
theorem dX7_of_30 : decode cX7_of 30 = .ok (.if_icmp .ge 22, 3) := by decide +kernel
theorem dX7_of_33 : decode cX7_of 33 = .ok (.aload_n 1, 1) := by decide +kernel
theorem dX7_of_34 : decode cX7_of 34 = .ok (.getfield 10, 3) := by decide +kernel
theorem dX7_of_37 : decode cX7_of 37 = .ok (.iload_n 2, 1) := by decide +kernel
theorem dX7_of_38 : decode cX7_of 38 = .ok (.new 7, 3) := by decide +kernel
theorem dX7_of_41 : decode cX7_of 41 = .ok (.dup, 1) := by decide +kernel
theorem dX7_of_42 : decode cX7_of 42 = .ok (.invokespecial 9, 3) := by decide +kernel
theorem dX7_of_45 : decode cX7_of 45 = .ok (.aastore, 1) := by decide +kernel
theorem dX7_of_46 : decode cX7_of 46 = .ok (.iinc 2 1, 3) := by decide +kernel
theorem dX7_of_49 : decode cX7_of 49 = .ok (.goto (-21), 3) := by decide +kernel
theorem dX7_of_52 : decode cX7_of 52 = .ok (.iconst 0, 1) := by decide +kernel
theorem dX7_of_53 : decode cX7_of 53 = .ok (.istore_n 2, 1) := by decide +kernel
theorem dX7_of_54 : decode cX7_of 54 = .ok (.iload_n 2, 1) := by decide +kernel
theorem dX7_of_55 : decode cX7_of 55 = .ok (.iload_n 0, 1) := by decide +kernel
theorem dX7_of_56 : decode cX7_of 56 = .ok (.if_icmp .gt 22, 3) := by decide +kernel
theorem dX7_of_59 : decode cX7_of 59 = .ok (.aload_n 1, 1) := by decide +kernel
theorem dX7_of_60 : decode cX7_of 60 = .ok (.getfield 19, 3) := by decide +kernel
theorem dX7_of_63 : decode cX7_of 63 = .ok (.iload_n 2, 1) := by decide +kernel
theorem dX7_of_64 : decode cX7_of 64 = .ok (.new 16, 3) := by decide +kernel
theorem dX7_of_67 : decode cX7_of 67 = .ok (.dup, 1) := by decide +kernel
theorem dX7_of_68 : decode cX7_of 68 = .ok (.invokespecial 18, 3) := by decide +kernel
theorem dX7_of_71 : decode cX7_of 71 = .ok (.aastore, 1) := by decide +kernel
theorem dX7_of_72 : decode cX7_of 72 = .ok (.iinc 2 1, 3) := by decide +kernel
theorem dX7_of_75 : decode cX7_of 75 = .ok (.goto (-21), 3) := by decide +kernel
theorem dX7_of_78 : decode cX7_of 78 = .ok (.aload_n 1, 1) := by decide +kernel
theorem dX7_of_79 : decode cX7_of 79 = .ok (.areturn, 1) := by decide +kernel
theorem dX7_copy_0 : decode cX7_copy 0 = .ok (.aload_n 0, 1) := by decide +kernel
theorem dX7_copy_1 : decode cX7_copy 1 = .ok (.getfield 10, 3) := by decide +kernel
theorem dX7_copy_4 : decode cX7_copy 4 = .ok (.arraylength, 1) := by decide +kernel
theorem dX7_copy_5 : decode cX7_copy 5 = .ok (.invokestatic 37, 3) := by decide +kernel
theorem dX7_copy_8 : decode cX7_copy 8 = .ok (.astore_n 1, 1) := by decide +kernel
theorem dX7_copy_9 : decode cX7_copy 9 = .ok (.aload_n 1, 1) := by decide +kernel
theorem dX7_copy_10 : decode cX7_copy 10 = .ok (.aload_n 0, 1) := by decide +kernel
theorem dX7_copy_11 : decode cX7_copy 11 = .ok (.getfield 41, 3) := by decide +kernel
theorem dX7_copy_14 : decode cX7_copy 14 = .ok (.putfield 41, 3) := by decide +kernel
theorem dX7_copy_17 : decode cX7_copy 17 = .ok (.aload_n 1, 1) := by decide +kernel
theorem dX7_copy_18 : decode cX7_copy 18 = .ok (.aload_n 0, 1) := by decide +kernel
theorem dX7_copy_19 : decode cX7_copy 19 = .ok (.getfield 45, 3) := by decide +kernel
theorem dX7_copy_22 : decode cX7_copy 22 = .ok (.putfield 45, 3) := by decide +kernel
theorem dX7_copy_25 : decode cX7_copy 25 = .ok (.aload_n 1, 1) := by decide +kernel
theorem dX7_copy_26 : decode cX7_copy 26 = .ok (.aload_n 0, 1) := by decide +kernel
theorem dX7_copy_27 : decode cX7_copy 27 = .ok (.getfield 48, 3) := by decide +kernel
theorem dX7_copy_30 : decode cX7_copy 30 = .ok (.putfield 48, 3) := by decide +kernel
theorem dX7_copy_33 : decode cX7_copy 33 = .ok (.aload_n 1, 1) := by decide +kernel
theorem dX7_copy_34 : decode cX7_copy 34 = .ok (.aload_n 0, 1) := by decide +kernel
theorem dX7_copy_35 : decode cX7_copy 35 = .ok (.getfield 51, 3) := by decide +kernel
theorem dX7_copy_38 : decode cX7_copy 38 = .ok (.putfield 51, 3) := by decide +kernel
theorem dX7_copy_41 : decode cX7_copy 41 = .ok (.iconst 0, 1) := by decide +kernel
theorem dX7_copy_42 : decode cX7_copy 42 = .ok (.istore_n 2, 1) := by decide +kernel
theorem dX7_copy_43 : decode cX7_copy 43 = .ok (.iload_n 2, 1) := by decide +kernel
theorem dX7_copy_44 : decode cX7_copy 44 = .ok (.aload_n 0, 1) := by decide +kernel
theorem dX7_copy_45 : decode cX7_copy 45 = .ok (.getfield 10, 3) := by decide +kernel
theorem dX7_copy_48 : decode cX7_copy 48 = .ok (.arraylength, 1) := by decide +kernel
theorem dX7_copy_49 : decode cX7_copy 49 = .ok (.if_icmp .ge 24, 3) := by decide +kernel
theorem dX7_copy_52 : decode cX7_copy 52 = .ok (.aload_n 1, 1) := by decide +kernel
theorem dX7_copy_53 : decode cX7_copy 53 = .ok (.getfield 10, 3) := by decide +kernel
theorem dX7_copy_56 : decode cX7_copy 56 = .ok (.iload_n 2, 1) := by decide +kernel
theorem dX7_copy_57 : decode cX7_copy 57 = .ok (.aload_n 0, 1) := by decide +kernel
theorem dX7_copy_58 : decode cX7_copy 58 = .ok (.getfield 10, 3) := by decide +kernel
theorem dX7_copy_61 : decode cX7_copy 61 = .ok (.iload_n 2, 1) := by decide +kernel
theorem dX7_copy_62 : decode cX7_copy 62 = .ok (.aaload, 1) := by decide +kernel
theorem dX7_copy_63 : decode cX7_copy 63 = .ok (.invokevirtual 54, 3) := by decide +kernel
theorem dX7_copy_66 : decode cX7_copy 66 = .ok (.aastore, 1) := by decide +kernel
theorem dX7_copy_67 : decode cX7_copy 67 = .ok (.iinc 2 1, 3) := by decide +kernel
theorem dX7_copy_70 : decode cX7_copy 70 = .ok (.goto (-27), 3) := by decide +kernel
theorem dX7_copy_73 : decode cX7_copy 73 = .ok (.iconst 0, 1) := by decide +kernel
theorem dX7_copy_74 : decode cX7_copy 74 = .ok (.istore_n 2, 1) := by decide +kernel
theorem dX7_copy_75 : decode cX7_copy 75 = .ok (.iload_n 2, 1) := by decide +kernel
theorem dX7_copy_76 : decode cX7_copy 76 = .ok (.aload_n 0, 1) := by decide +kernel
theorem dX7_copy_77 : decode cX7_copy 77 = .ok (.getfield 19, 3) := by decide +kernel
theorem dX7_copy_80 : decode cX7_copy 80 = .ok (.arraylength, 1) := by decide +kernel
theorem dX7_copy_81 : decode cX7_copy 81 = .ok (.if_icmp .ge 24, 3) := by decide +kernel
theorem dX7_copy_84 : decode cX7_copy 84 = .ok (.aload_n 1, 1) := by decide +kernel
theorem dX7_copy_85 : decode cX7_copy 85 = .ok (.getfield 19, 3) := by decide +kernel
theorem dX7_copy_88 : decode cX7_copy 88 = .ok (.iload_n 2, 1) := by decide +kernel
theorem dX7_copy_89 : decode cX7_copy 89 = .ok (.aload_n 0, 1) := by decide +kernel
theorem dX7_copy_90 : decode cX7_copy 90 = .ok (.getfield 19, 3) := by decide +kernel
theorem dX7_copy_93 : decode cX7_copy 93 = .ok (.iload_n 2, 1) := by decide +kernel
theorem dX7_copy_94 : decode cX7_copy 94 = .ok (.aaload, 1) := by decide +kernel
theorem dX7_copy_95 : decode cX7_copy 95 = .ok (.invokevirtual 58, 3) := by decide +kernel
theorem dX7_copy_98 : decode cX7_copy 98 = .ok (.aastore, 1) := by decide +kernel
theorem dX7_copy_99 : decode cX7_copy 99 = .ok (.iinc 2 1, 3) := by decide +kernel
theorem dX7_copy_102 : decode cX7_copy 102 = .ok (.goto (-27), 3) := by decide +kernel
theorem dX7_copy_105 : decode cX7_copy 105 = .ok (.aload_n 1, 1) := by decide +kernel
theorem dX7_copy_106 : decode cX7_copy 106 = .ok (.aload_n 0, 1) := by decide +kernel
theorem dX7_copy_107 : decode cX7_copy 107 = .ok (.getfield 25, 3) := by decide +kernel
theorem dX7_copy_110 : decode cX7_copy 110 = .ok (.putfield 25, 3) := by decide +kernel
theorem dX7_copy_113 : decode cX7_copy 113 = .ok (.aload_n 1, 1) := by decide +kernel
theorem dX7_copy_114 : decode cX7_copy 114 = .ok (.aload_n 0, 1) := by decide +kernel
theorem dX7_copy_115 : decode cX7_copy 115 = .ok (.getfield 29, 3) := by decide +kernel
theorem dX7_copy_118 : decode cX7_copy 118 = .ok (.arraylength, 1) := by decide +kernel
theorem dX7_copy_119 : decode cX7_copy 119 = .ok (.anewarray 23, 3) := by decide +kernel
theorem dX7_copy_122 : decode cX7_copy 122 = .ok (.putfield 29, 3) := by decide +kernel
theorem dX7_copy_125 : decode cX7_copy 125 = .ok (.iconst 0, 1) := by decide +kernel
theorem dX7_copy_126 : decode cX7_copy 126 = .ok (.istore_n 2, 1) := by decide +kernel
theorem dX7_copy_127 : decode cX7_copy 127 = .ok (.iload_n 2, 1) := by decide +kernel
theorem dX7_copy_128 : decode cX7_copy 128 = .ok (.aload_n 0, 1) := by decide +kernel
theorem dX7_copy_129 : decode cX7_copy 129 = .ok (.getfield 29, 3) := by decide +kernel
theorem dX7_copy_132 : decode cX7_copy 132 = .ok (.arraylength, 1) := by decide +kernel
theorem dX7_copy_133 : decode cX7_copy 133 = .ok (.if_icmp .ge 27, 3) := by decide +kernel
theorem dX7_copy_136 : decode cX7_copy 136 = .ok (.aload_n 1, 1) := by decide +kernel
theorem dX7_copy_137 : decode cX7_copy 137 = .ok (.getfield 29, 3) := by decide +kernel
theorem dX7_copy_140 : decode cX7_copy 140 = .ok (.iload_n 2, 1) := by decide +kernel
theorem dX7_copy_141 : decode cX7_copy 141 = .ok (.aload_n 0, 1) := by decide +kernel
theorem dX7_copy_142 : decode cX7_copy 142 = .ok (.getfield 29, 3) := by decide +kernel
theorem dX7_copy_145 : decode cX7_copy 145 = .ok (.iload_n 2, 1) := by decide +kernel
theorem dX7_copy_146 : decode cX7_copy 146 = .ok (.aaload, 1) := by decide +kernel
theorem dX7_copy_147 : decode cX7_copy 147 = .ok (.invokevirtual 61, 3) := by decide +kernel
theorem dX7_copy_150 : decode cX7_copy 150 = .ok (.checkcast 23, 3) := by decide +kernel
theorem dX7_copy_153 : decode cX7_copy 153 = .ok (.aastore, 1) := by decide +kernel
theorem dX7_copy_154 : decode cX7_copy 154 = .ok (.iinc 2 1, 3) := by decide +kernel
theorem dX7_copy_157 : decode cX7_copy 157 = .ok (.goto (-30), 3) := by decide +kernel
theorem dX7_copy_160 : decode cX7_copy 160 = .ok (.aload_n 1, 1) := by decide +kernel
theorem dX7_copy_161 : decode cX7_copy 161 = .ok (.aload_n 0, 1) := by decide +kernel
theorem dX7_copy_162 : decode cX7_copy 162 = .ok (.getfield 32, 3) := by decide +kernel
theorem dX7_copy_165 : decode cX7_copy 165 = .ok (.invokevirtual 65, 3) := by decide +kernel
theorem dX7_copy_168 : decode cX7_copy 168 = .ok (.checkcast 66, 3) := by decide +kernel
theorem dX7_copy_171 : decode cX7_copy 171 = .ok (.putfield 32, 3) := by decide +kernel
theorem dX7_copy_174 : decode cX7_copy 174 = .ok (.aload_n 1, 1) := by decide +kernel
theorem dX7_copy_175 : decode cX7_copy 175 = .ok (.areturn, 1) := by decide +kernel
theorem dX7_stretch_0 : decode cX7_stretch 0 = .ok (.iload_n 1, 1) := by decide +kernel
theorem dX7_stretch_1 : decode cX7_stretch 1 = .ok (.ifCond .ne 11, 3) := by decide +kernel
theorem dX7_stretch_4 : decode cX7_stretch 4 = .ok (.aload_n 0, 1) := by decide +kernel
theorem dX7_stretch_5 : decode cX7_stretch 5 = .ok (.getfield 45, 3) := by decide +kernel
theorem dX7_stretch_8 : decode cX7_stretch 8 = .ok (.i2l, 1) := by decide +kernel
theorem dX7_stretch_9 : decode cX7_stretch 9 = .ok (.goto 14, 3) := by decide +kernel
theorem dX7_stretch_12 : decode cX7_stretch 12 = .ok (.aload_n 0, 1) := by decide +kernel
theorem dX7_stretch_13 : decode cX7_stretch 13 = .ok (.getfield 10, 3) := by decide +kernel
theorem dX7_stretch_16 : decode cX7_stretch 16 = .ok (.iload_n 1, 1) := by decide +kernel
theorem dX7_stretch_17 : decode cX7_stretch 17 = .ok (.iconst 1, 1) := by decide +kernel
theorem dX7_stretch_18 : decode cX7_stretch 18 = .ok (.isub, 1) := by decide +kernel
theorem dX7_stretch_19 : decode cX7_stretch 19 = .ok (.aaload, 1) := by decide +kernel
theorem dX7_stretch_20 : decode cX7_stretch 20 = .ok (.getfield 67, 3) := by decide +kernel
theorem dX7_stretch_23 : decode cX7_stretch 23 = .ok (.lstore_n 2, 1) := by decide +kernel
theorem dX7_stretch_24 : decode cX7_stretch 24 = .ok (.iload_n 1, 1) := by decide +kernel
theorem dX7_stretch_25 : decode cX7_stretch 25 = .ok (.aload_n 0, 1) := by decide +kernel
theorem dX7_stretch_26 : decode cX7_stretch 26 = .ok (.getfield 10, 3) := by decide +kernel
theorem dX7_stretch_29 : decode cX7_stretch 29 = .ok (.arraylength, 1) := by decide +kernel
theorem dX7_stretch_30 : decode cX7_stretch 30 = .ok (.if_icmp .ne 11, 3) := by decide +kernel
theorem dX7_stretch_33 : decode cX7_stretch 33 = .ok (.aload_n 0, 1) := by decide +kernel
theorem dX7_stretch_34 : decode cX7_stretch 34 = .ok (.getfield 48, 3) := by decide +kernel
theorem dX7_stretch_37 : decode cX7_stretch 37 = .ok (.i2l, 1) := by decide +kernel
theorem dX7_stretch_38 : decode cX7_stretch 38 = .ok (.goto 12, 3) := by decide +kernel
theorem dX7_stretch_41 : decode cX7_stretch 41 = .ok (.aload_n 0, 1) := by decide +kernel
theorem dX7_stretch_42 : decode cX7_stretch 42 = .ok (.getfield 10, 3) := by decide +kernel
theorem dX7_stretch_45 : decode cX7_stretch 45 = .ok (.iload_n 1, 1) := by decide +kernel
theorem dX7_stretch_46 : decode cX7_stretch 46 = .ok (.aaload, 1) := by decide +kernel
theorem dX7_stretch_47 : decode cX7_stretch 47 = .ok (.getfield 67, 3) := by decide +kernel
theorem dX7_stretch_50 : decode cX7_stretch 50 = .ok (.lstore 4, 2) := by decide +kernel
theorem dX7_stretch_52 : decode cX7_stretch 52 = .ok (.lload 4, 2) := by decide +kernel
theorem dX7_stretch_54 : decode cX7_stretch 54 = .ok (.lload_n 2, 1) := by decide +kernel
theorem dX7_stretch_55 : decode cX7_stretch 55 = .ok (.lsub, 1) := by decide +kernel
theorem dX7_stretch_56 : decode cX7_stretch 56 = .ok (.lreturn, 1) := by decide +kernel
theorem dX7_pull_0 : decode cX7_pull 0 = .ok (.aload_n 0, 1) := by decide +kernel
theorem dX7_pull_1 : decode cX7_pull 1 = .ok (.getfield 19, 3) := by decide +kernel
theorem dX7_pull_4 : decode cX7_pull 4 = .ok (.iload_n 1, 1) := by decide +kernel
theorem dX7_pull_5 : decode cX7_pull 5 = .ok (.aaload, 1) := by decide +kernel
theorem dX7_pull_6 : decode cX7_pull 6 = .ok (.getfield 71, 3) := by decide +kernel
theorem dX7_pull_9 : decode cX7_pull 9 = .ok (.ifCond .eq 7, 3) := by decide +kernel
theorem dX7_pull_12 : decode cX7_pull 12 = .ok (.lconst 0, 1) := by decide +kernel
theorem dX7_pull_13 : decode cX7_pull 13 = .ok (.goto 23, 3) := by decide +kernel
theorem dX7_pull_16 : decode cX7_pull 16 = .ok (.aload_n 0, 1) := by decide +kernel
theorem dX7_pull_17 : decode cX7_pull 17 = .ok (.getfield 19, 3) := by decide +kernel
theorem dX7_pull_20 : decode cX7_pull 20 = .ok (.iload_n 1, 1) := by decide +kernel
theorem dX7_pull_21 : decode cX7_pull 21 = .ok (.aaload, 1) := by decide +kernel
theorem dX7_pull_22 : decode cX7_pull 22 = .ok (.getfield 75, 3) := by decide +kernel
theorem dX7_pull_25 : decode cX7_pull 25 = .ok (.i2l, 1) := by decide +kernel
theorem dX7_pull_26 : decode cX7_pull 26 = .ok (.aload_n 0, 1) := by decide +kernel
theorem dX7_pull_27 : decode cX7_pull 27 = .ok (.iload_n 1, 1) := by decide +kernel
theorem dX7_pull_28 : decode cX7_pull 28 = .ok (.invokevirtual 78, 3) := by decide +kernel
theorem dX7_pull_31 : decode cX7_pull 31 = .ok (.lmul, 1) := by decide +kernel
theorem dX7_pull_32 : decode cX7_pull 32 = .ok (.ldc2_w 82, 3) := by decide +kernel
theorem dX7_pull_35 : decode cX7_pull 35 = .ok (.ldiv, 1) := by decide +kernel
theorem dX7_pull_36 : decode cX7_pull 36 = .ok (.lreturn, 1) := by decide +kernel
theorem dX7_pattern_0 : decode cX7_pattern 0 = .ok (.iconst 0, 1) := by decide +kernel
theorem dX7_pattern_1 : decode cX7_pattern 1 = .ok (.istore_n 1, 1) := by decide +kernel
theorem dX7_pattern_2 : decode cX7_pattern 2 = .ok (.iconst 1, 1) := by decide +kernel
theorem dX7_pattern_3 : decode cX7_pattern 3 = .ok (.istore_n 2, 1) := by decide +kernel
theorem dX7_pattern_4 : decode cX7_pattern 4 = .ok (.aload_n 0, 1) := by decide +kernel
theorem dX7_pattern_5 : decode cX7_pattern 5 = .ok (.getfield 10, 3) := by decide +kernel
theorem dX7_pattern_8 : decode cX7_pattern 8 = .ok (.astore_n 3, 1) := by decide +kernel
theorem dX7_pattern_9 : decode cX7_pattern 9 = .ok (.aload_n 3, 1) := by decide +kernel
theorem dX7_pattern_10 : decode cX7_pattern 10 = .ok (.arraylength, 1) := by decide +kernel
theorem dX7_pattern_11 : decode cX7_pattern 11 = .ok (.istore 4, 2) := by decide +kernel
theorem dX7_pattern_13 : decode cX7_pattern 13 = .ok (.iconst 0, 1) := by decide +kernel
theorem dX7_pattern_14 : decode cX7_pattern 14 = .ok (.istore 5, 2) := by decide +kernel
theorem dX7_pattern_16 : decode cX7_pattern 16 = .ok (.iload 5, 2) := by decide +kernel
theorem dX7_pattern_18 : decode cX7_pattern 18 = .ok (.iload 4, 2) := by decide +kernel
theorem dX7_pattern_20 : decode cX7_pattern 20 = .ok (.if_icmp .ge 53, 3) := by decide +kernel
theorem dX7_pattern_23 : decode cX7_pattern 23 = .ok (.aload_n 3, 1) := by decide +kernel
theorem dX7_pattern_24 : decode cX7_pattern 24 = .ok (.iload 5, 2) := by decide +kernel
theorem dX7_pattern_26 : decode cX7_pattern 26 = .ok (.aaload, 1) := by decide +kernel
theorem dX7_pattern_27 : decode cX7_pattern 27 = .ok (.astore 6, 2) := by decide +kernel
theorem dX7_pattern_29 : decode cX7_pattern 29 = .ok (.iload_n 1, 1) := by decide +kernel
theorem dX7_pattern_30 : decode cX7_pattern 30 = .ok (.iload_n 2, 1) := by decide +kernel
theorem dX7_pattern_31 : decode cX7_pattern 31 = .ok (.aload 6, 2) := by decide +kernel
theorem dX7_pattern_33 : decode cX7_pattern 33 = .ok (.getfield 67, 3) := by decide +kernel
theorem dX7_pattern_36 : decode cX7_pattern 36 = .ok (.lconst 0, 1) := by decide +kernel
theorem dX7_pattern_37 : decode cX7_pattern 37 = .ok (.lcmp, 1) := by decide +kernel
theorem dX7_pattern_38 : decode cX7_pattern 38 = .ok (.ifCond .le 7, 3) := by decide +kernel
theorem dX7_pattern_41 : decode cX7_pattern 41 = .ok (.iconst 1, 1) := by decide +kernel
theorem dX7_pattern_42 : decode cX7_pattern 42 = .ok (.goto 18, 3) := by decide +kernel
theorem dX7_pattern_45 : decode cX7_pattern 45 = .ok (.aload 6, 2) := by decide +kernel
theorem dX7_pattern_47 : decode cX7_pattern 47 = .ok (.getfield 67, 3) := by decide +kernel
theorem dX7_pattern_50 : decode cX7_pattern 50 = .ok (.lconst 0, 1) := by decide +kernel
theorem dX7_pattern_51 : decode cX7_pattern 51 = .ok (.lcmp, 1) := by decide +kernel
theorem dX7_pattern_52 : decode cX7_pattern 52 = .ok (.ifCond .ge 7, 3) := by decide +kernel
theorem dX7_pattern_55 : decode cX7_pattern 55 = .ok (.iconst 2, 1) := by decide +kernel
theorem dX7_pattern_56 : decode cX7_pattern 56 = .ok (.goto 4, 3) := by decide +kernel
theorem dX7_pattern_59 : decode cX7_pattern 59 = .ok (.iconst 0, 1) := by decide +kernel
theorem dX7_pattern_60 : decode cX7_pattern 60 = .ok (.imul, 1) := by decide +kernel
theorem dX7_pattern_61 : decode cX7_pattern 61 = .ok (.iadd, 1) := by decide +kernel
theorem dX7_pattern_62 : decode cX7_pattern 62 = .ok (.istore_n 1, 1) := by decide +kernel
theorem dX7_pattern_63 : decode cX7_pattern 63 = .ok (.iload_n 2, 1) := by decide +kernel
theorem dX7_pattern_64 : decode cX7_pattern 64 = .ok (.iconst 3, 1) := by decide +kernel
theorem dX7_pattern_65 : decode cX7_pattern 65 = .ok (.imul, 1) := by decide +kernel
theorem dX7_pattern_66 : decode cX7_pattern 66 = .ok (.istore_n 2, 1) := by decide +kernel
theorem dX7_pattern_67 : decode cX7_pattern 67 = .ok (.iinc 5 1, 3) := by decide +kernel
theorem dX7_pattern_70 : decode cX7_pattern 70 = .ok (.goto (-54), 3) := by decide +kernel
theorem dX7_pattern_73 : decode cX7_pattern 73 = .ok (.iload_n 1, 1) := by decide +kernel
theorem dX7_pattern_74 : decode cX7_pattern 74 = .ok (.ireturn, 1) := by decide +kernel
theorem dX7_nodes_0 : decode cX7_nodes 0 = .ok (.iconst 0, 1) := by decide +kernel
theorem dX7_nodes_1 : decode cX7_nodes 1 = .ok (.istore_n 1, 1) := by decide +kernel
theorem dX7_nodes_2 : decode cX7_nodes 2 = .ok (.aconst_null, 1) := by decide +kernel
theorem dX7_nodes_3 : decode cX7_nodes 3 = .ok (.astore_n 2, 1) := by decide +kernel
theorem dX7_nodes_4 : decode cX7_nodes 4 = .ok (.aload_n 0, 1) := by decide +kernel
theorem dX7_nodes_5 : decode cX7_nodes 5 = .ok (.getfield 10, 3) := by decide +kernel
theorem dX7_nodes_8 : decode cX7_nodes 8 = .ok (.astore_n 3, 1) := by decide +kernel
theorem dX7_nodes_9 : decode cX7_nodes 9 = .ok (.aload_n 3, 1) := by decide +kernel
theorem dX7_nodes_10 : decode cX7_nodes 10 = .ok (.arraylength, 1) := by decide +kernel
theorem dX7_nodes_11 : decode cX7_nodes 11 = .ok (.istore 4, 2) := by decide +kernel
theorem dX7_nodes_13 : decode cX7_nodes 13 = .ok (.iconst 0, 1) := by decide +kernel
theorem dX7_nodes_14 : decode cX7_nodes 14 = .ok (.istore 5, 2) := by decide +kernel
theorem dX7_nodes_16 : decode cX7_nodes 16 = .ok (.iload 5, 2) := by decide +kernel
theorem dX7_nodes_18 : decode cX7_nodes 18 = .ok (.iload 4, 2) := by decide +kernel
theorem dX7_nodes_20 : decode cX7_nodes 20 = .ok (.if_icmp .ge 70, 3) := by decide +kernel
theorem dX7_nodes_23 : decode cX7_nodes 23 = .ok (.aload_n 3, 1) := by decide +kernel
theorem dX7_nodes_24 : decode cX7_nodes 24 = .ok (.iload 5, 2) := by decide +kernel
theorem dX7_nodes_26 : decode cX7_nodes 26 = .ok (.aaload, 1) := by decide +kernel
theorem dX7_nodes_27 : decode cX7_nodes 27 = .ok (.astore 6, 2) := by decide +kernel
theorem dX7_nodes_29 : decode cX7_nodes 29 = .ok (.aload 6, 2) := by decide +kernel
theorem dX7_nodes_31 : decode cX7_nodes 31 = .ok (.getfield 67, 3) := by decide +kernel
theorem dX7_nodes_34 : decode cX7_nodes 34 = .ok (.lconst 0, 1) := by decide +kernel
theorem dX7_nodes_35 : decode cX7_nodes 35 = .ok (.lcmp, 1) := by decide +kernel
theorem dX7_nodes_36 : decode cX7_nodes 36 = .ok (.ifCond .ne 6, 3) := by decide +kernel
theorem dX7_nodes_39 : decode cX7_nodes 39 = .ok (.goto 45, 3) := by decide +kernel
theorem dX7_nodes_42 : decode cX7_nodes 42 = .ok (.aload_n 2, 1) := by decide +kernel
theorem dX7_nodes_43 : decode cX7_nodes 43 = .ok (.ifnull 38, 3) := by decide +kernel
theorem dX7_nodes_46 : decode cX7_nodes 46 = .ok (.aload_n 2, 1) := by decide +kernel
theorem dX7_nodes_47 : decode cX7_nodes 47 = .ok (.getfield 67, 3) := by decide +kernel
theorem dX7_nodes_50 : decode cX7_nodes 50 = .ok (.lconst 0, 1) := by decide +kernel
theorem dX7_nodes_51 : decode cX7_nodes 51 = .ok (.lcmp, 1) := by decide +kernel
theorem dX7_nodes_52 : decode cX7_nodes 52 = .ok (.ifCond .le 7, 3) := by decide +kernel
theorem dX7_nodes_55 : decode cX7_nodes 55 = .ok (.iconst 1, 1) := by decide +kernel
theorem dX7_nodes_56 : decode cX7_nodes 56 = .ok (.goto 4, 3) := by decide +kernel
theorem dX7_nodes_59 : decode cX7_nodes 59 = .ok (.iconst 0, 1) := by decide +kernel
theorem dX7_nodes_60 : decode cX7_nodes 60 = .ok (.aload 6, 2) := by decide +kernel
theorem dX7_nodes_62 : decode cX7_nodes 62 = .ok (.getfield 67, 3) := by decide +kernel
theorem dX7_nodes_65 : decode cX7_nodes 65 = .ok (.lconst 0, 1) := by decide +kernel
theorem dX7_nodes_66 : decode cX7_nodes 66 = .ok (.lcmp, 1) := by decide +kernel
theorem dX7_nodes_67 : decode cX7_nodes 67 = .ok (.ifCond .le 7, 3) := by decide +kernel
theorem dX7_nodes_70 : decode cX7_nodes 70 = .ok (.iconst 1, 1) := by decide +kernel
theorem dX7_nodes_71 : decode cX7_nodes 71 = .ok (.goto 4, 3) := by decide +kernel
theorem dX7_nodes_74 : decode cX7_nodes 74 = .ok (.iconst 0, 1) := by decide +kernel
theorem dX7_nodes_75 : decode cX7_nodes 75 = .ok (.if_icmp .eq 6, 3) := by decide +kernel
theorem dX7_nodes_78 : decode cX7_nodes 78 = .ok (.iinc 1 1, 3) := by decide +kernel
theorem dX7_nodes_81 : decode cX7_nodes 81 = .ok (.aload 6, 2) := by decide +kernel
theorem dX7_nodes_83 : decode cX7_nodes 83 = .ok (.astore_n 2, 1) := by decide +kernel
theorem dX7_nodes_84 : decode cX7_nodes 84 = .ok (.iinc 5 1, 3) := by decide +kernel
theorem dX7_nodes_87 : decode cX7_nodes 87 = .ok (.goto (-71), 3) := by decide +kernel
theorem dX7_nodes_90 : decode cX7_nodes 90 = .ok (.iload_n 1, 1) := by decide +kernel
theorem dX7_nodes_91 : decode cX7_nodes 91 = .ok (.ireturn, 1) := by decide +kernel
theorem dX7_ticks_0 : decode cX7_ticks 0 = .ok (.aload_n 0, 1) := by decide +kernel
theorem dX7_ticks_1 : decode cX7_ticks 1 = .ok (.getfield 10, 3) := by decide +kernel
theorem dX7_ticks_4 : decode cX7_ticks 4 = .ok (.arraylength, 1) := by decide +kernel
theorem dX7_ticks_5 : decode cX7_ticks 5 = .ok (.istore_n 1, 1) := by decide +kernel
theorem dX7_ticks_6 : decode cX7_ticks 6 = .ok (.iload_n 1, 1) := by decide +kernel
theorem dX7_ticks_7 : decode cX7_ticks 7 = .ok (.iconst 1, 1) := by decide +kernel
theorem dX7_ticks_8 : decode cX7_ticks 8 = .ok (.iadd, 1) := by decide +kernel
theorem dX7_ticks_9 : decode cX7_ticks 9 = .ok (.newarray .long, 2) := by decide +kernel
theorem dX7_ticks_11 : decode cX7_ticks 11 = .ok (.astore_n 2, 1) := by decide +kernel
theorem dX7_ticks_12 : decode cX7_ticks 12 = .ok (.iconst 0, 1) := by decide +kernel
theorem dX7_ticks_13 : decode cX7_ticks 13 = .ok (.istore_n 3, 1) := by decide +kernel
theorem dX7_ticks_14 : decode cX7_ticks 14 = .ok (.iload_n 3, 1) := by decide +kernel
theorem dX7_ticks_15 : decode cX7_ticks 15 = .ok (.iload_n 1, 1) := by decide +kernel
theorem dX7_ticks_16 : decode cX7_ticks 16 = .ok (.if_icmp .gt 17, 3) := by decide +kernel
theorem dX7_ticks_19 : decode cX7_ticks 19 = .ok (.aload_n 2, 1) := by decide +kernel
theorem dX7_ticks_20 : decode cX7_ticks 20 = .ok (.iload_n 3, 1) := by decide +kernel
theorem dX7_ticks_21 : decode cX7_ticks 21 = .ok (.aload_n 0, 1) := by decide +kernel
theorem dX7_ticks_22 : decode cX7_ticks 22 = .ok (.iload_n 3, 1) := by decide +kernel
theorem dX7_ticks_23 : decode cX7_ticks 23 = .ok (.invokevirtual 84, 3) := by decide +kernel
theorem dX7_ticks_26 : decode cX7_ticks 26 = .ok (.lastore, 1) := by decide +kernel
theorem dX7_ticks_27 : decode cX7_ticks 27 = .ok (.iinc 3 1, 3) := by decide +kernel
theorem dX7_ticks_30 : decode cX7_ticks 30 = .ok (.goto (-16), 3) := by decide +kernel
theorem dX7_ticks_33 : decode cX7_ticks 33 = .ok (.aload_n 0, 1) := by decide +kernel
theorem dX7_ticks_34 : decode cX7_ticks 34 = .ok (.getfield 32, 3) := by decide +kernel
theorem dX7_ticks_37 : decode cX7_ticks 37 = .ok (.iconst 1, 1) := by decide +kernel
theorem dX7_ticks_38 : decode cX7_ticks 38 = .ok (.dup2, 1) := by decide +kernel
theorem dX7_ticks_39 : decode cX7_ticks 39 = .ok (.laload, 1) := by decide +kernel
theorem dX7_ticks_40 : decode cX7_ticks 40 = .ok (.aload_n 2, 1) := by decide +kernel
theorem dX7_ticks_41 : decode cX7_ticks 41 = .ok (.iconst 0, 1) := by decide +kernel
theorem dX7_ticks_42 : decode cX7_ticks 42 = .ok (.laload, 1) := by decide +kernel
theorem dX7_ticks_43 : decode cX7_ticks 43 = .ok (.lsub, 1) := by decide +kernel
theorem dX7_ticks_44 : decode cX7_ticks 44 = .ok (.lastore, 1) := by decide +kernel
theorem dX7_ticks_45 : decode cX7_ticks 45 = .ok (.aload_n 0, 1) := by decide +kernel
theorem dX7_ticks_46 : decode cX7_ticks 46 = .ok (.getfield 32, 3) := by decide +kernel
theorem dX7_ticks_49 : decode cX7_ticks 49 = .ok (.iconst 2, 1) := by decide +kernel
theorem dX7_ticks_50 : decode cX7_ticks 50 = .ok (.dup2, 1) := by decide +kernel
theorem dX7_ticks_51 : decode cX7_ticks 51 = .ok (.laload, 1) := by decide +kernel
theorem dX7_ticks_52 : decode cX7_ticks 52 = .ok (.aload_n 2, 1) := by decide +kernel
theorem dX7_ticks_53 : decode cX7_ticks 53 = .ok (.iload_n 1, 1) := by decide +kernel
theorem dX7_ticks_54 : decode cX7_ticks 54 = .ok (.laload, 1) := by decide +kernel
theorem dX7_ticks_55 : decode cX7_ticks 55 = .ok (.ladd, 1) := by decide +kernel
theorem dX7_ticks_56 : decode cX7_ticks 56 = .ok (.lastore, 1) := by decide +kernel
theorem dX7_ticks_57 : decode cX7_ticks 57 = .ok (.iconst 0, 1) := by decide +kernel
theorem dX7_ticks_58 : decode cX7_ticks 58 = .ok (.istore_n 3, 1) := by decide +kernel
theorem dX7_ticks_59 : decode cX7_ticks 59 = .ok (.iload_n 3, 1) := by decide +kernel
theorem dX7_ticks_60 : decode cX7_ticks 60 = .ok (.iload_n 1, 1) := by decide +kernel
theorem dX7_ticks_61 : decode cX7_ticks 61 = .ok (.if_icmp .ge 32, 3) := by decide +kernel
theorem dX7_ticks_64 : decode cX7_ticks 64 = .ok (.aload_n 0, 1) := by decide +kernel
theorem dX7_ticks_65 : decode cX7_ticks 65 = .ok (.getfield 10, 3) := by decide +kernel
theorem dX7_ticks_68 : decode cX7_ticks 68 = .ok (.iload_n 3, 1) := by decide +kernel
theorem dX7_ticks_69 : decode cX7_ticks 69 = .ok (.aaload, 1) := by decide +kernel
theorem dX7_ticks_70 : decode cX7_ticks 70 = .ok (.dup, 1) := by decide +kernel
theorem dX7_ticks_71 : decode cX7_ticks 71 = .ok (.getfield 87, 3) := by decide +kernel
theorem dX7_ticks_74 : decode cX7_ticks 74 = .ok (.aload_n 2, 1) := by decide +kernel
theorem dX7_ticks_75 : decode cX7_ticks 75 = .ok (.iload_n 3, 1) := by decide +kernel
theorem dX7_ticks_76 : decode cX7_ticks 76 = .ok (.iconst 1, 1) := by decide +kernel
theorem dX7_ticks_77 : decode cX7_ticks 77 = .ok (.iadd, 1) := by decide +kernel
theorem dX7_ticks_78 : decode cX7_ticks 78 = .ok (.laload, 1) := by decide +kernel
theorem dX7_ticks_79 : decode cX7_ticks 79 = .ok (.aload_n 2, 1) := by decide +kernel
theorem dX7_ticks_80 : decode cX7_ticks 80 = .ok (.iload_n 3, 1) := by decide +kernel
theorem dX7_ticks_81 : decode cX7_ticks 81 = .ok (.laload, 1) := by decide +kernel
theorem dX7_ticks_82 : decode cX7_ticks 82 = .ok (.lsub, 1) := by decide +kernel
theorem dX7_ticks_83 : decode cX7_ticks 83 = .ok (.ladd, 1) := by decide +kernel
theorem dX7_ticks_84 : decode cX7_ticks 84 = .ok (.putfield 87, 3) := by decide +kernel
theorem dX7_ticks_87 : decode cX7_ticks 87 = .ok (.iinc 3 1, 3) := by decide +kernel
theorem dX7_ticks_90 : decode cX7_ticks 90 = .ok (.goto (-31), 3) := by decide +kernel
theorem dX7_ticks_93 : decode cX7_ticks 93 = .ok (.iconst 0, 1) := by decide +kernel
theorem dX7_ticks_94 : decode cX7_ticks 94 = .ok (.anewarray 23, 3) := by decide +kernel
theorem dX7_ticks_97 : decode cX7_ticks 97 = .ok (.astore_n 3, 1) := by decide +kernel
theorem dX7_ticks_98 : decode cX7_ticks 98 = .ok (.aload_n 0, 1) := by decide +kernel
theorem dX7_ticks_99 : decode cX7_ticks 99 = .ok (.getfield 25, 3) := by decide +kernel
theorem dX7_ticks_102 : decode cX7_ticks 102 = .ok (.astore 4, 2) := by decide +kernel
theorem dX7_ticks_104 : decode cX7_ticks 104 = .ok (.aload 4, 2) := by decide +kernel
theorem dX7_ticks_106 : decode cX7_ticks 106 = .ok (.arraylength, 1) := by decide +kernel
theorem dX7_ticks_107 : decode cX7_ticks 107 = .ok (.istore 5, 2) := by decide +kernel
theorem dX7_ticks_109 : decode cX7_ticks 109 = .ok (.iconst 0, 1) := by decide +kernel
theorem dX7_ticks_110 : decode cX7_ticks 110 = .ok (.istore 6, 2) := by decide +kernel
theorem dX7_ticks_112 : decode cX7_ticks 112 = .ok (.iload 6, 2) := by decide +kernel
theorem dX7_ticks_114 : decode cX7_ticks 114 = .ok (.iload 5, 2) := by decide +kernel
theorem dX7_ticks_116 : decode cX7_ticks 116 = .ok (.if_icmp .ge 73, 3) := by decide +kernel
theorem dX7_ticks_119 : decode cX7_ticks 119 = .ok (.aload 4, 2) := by decide +kernel
theorem dX7_ticks_121 : decode cX7_ticks 121 = .ok (.iload 6, 2) := by decide +kernel
theorem dX7_ticks_123 : decode cX7_ticks 123 = .ok (.aaload, 1) := by decide +kernel
theorem dX7_ticks_124 : decode cX7_ticks 124 = .ok (.astore 7, 2) := by decide +kernel
theorem dX7_ticks_126 : decode cX7_ticks 126 = .ok (.aload 7, 2) := by decide +kernel
theorem dX7_ticks_128 : decode cX7_ticks 128 = .ok (.iconst 0, 1) := by decide +kernel
theorem dX7_ticks_129 : decode cX7_ticks 129 = .ok (.iaload, 1) := by decide +kernel
theorem dX7_ticks_130 : decode cX7_ticks 130 = .ok (.aload_n 0, 1) := by decide +kernel
theorem dX7_ticks_131 : decode cX7_ticks 131 = .ok (.getfield 41, 3) := by decide +kernel
theorem dX7_ticks_134 : decode cX7_ticks 134 = .ok (.if_icmp .le 13, 3) := by decide +kernel
theorem dX7_ticks_137 : decode cX7_ticks 137 = .ok (.aload_n 3, 1) := by decide +kernel
theorem dX7_ticks_138 : decode cX7_ticks 138 = .ok (.aload 7, 2) := by decide +kernel
theorem dX7_ticks_140 : decode cX7_ticks 140 = .ok (.invokestatic 90, 3) := by decide +kernel
theorem dX7_ticks_143 : decode cX7_ticks 143 = .ok (.astore_n 3, 1) := by decide +kernel
theorem dX7_ticks_144 : decode cX7_ticks 144 = .ok (.goto 39, 3) := by decide +kernel
theorem dX7_ticks_147 : decode cX7_ticks 147 = .ok (.aload_n 0, 1) := by decide +kernel
theorem dX7_ticks_148 : decode cX7_ticks 148 = .ok (.getfield 10, 3) := by decide +kernel
theorem dX7_ticks_151 : decode cX7_ticks 151 = .ok (.aload 7, 2) := by decide +kernel
theorem dX7_ticks_153 : decode cX7_ticks 153 = .ok (.iconst 1, 1) := by decide +kernel
theorem dX7_ticks_154 : decode cX7_ticks 154 = .ok (.iaload, 1) := by decide +kernel
theorem dX7_ticks_155 : decode cX7_ticks 155 = .ok (.aaload, 1) := by decide +kernel
theorem dX7_ticks_156 : decode cX7_ticks 156 = .ok (.dup, 1) := by decide +kernel
theorem dX7_ticks_157 : decode cX7_ticks 157 = .ok (.getfield 87, 3) := by decide +kernel
theorem dX7_ticks_160 : decode cX7_ticks 160 = .ok (.aload 7, 2) := by decide +kernel
theorem dX7_ticks_162 : decode cX7_ticks 162 = .ok (.iconst 2, 1) := by decide +kernel
theorem dX7_ticks_163 : decode cX7_ticks 163 = .ok (.iaload, 1) := by decide +kernel
theorem dX7_ticks_164 : decode cX7_ticks 164 = .ok (.i2l, 1) := by decide +kernel
theorem dX7_ticks_165 : decode cX7_ticks 165 = .ok (.ladd, 1) := by decide +kernel
theorem dX7_ticks_166 : decode cX7_ticks 166 = .ok (.putfield 87, 3) := by decide +kernel
theorem dX7_ticks_169 : decode cX7_ticks 169 = .ok (.aload_n 0, 1) := by decide +kernel
theorem dX7_ticks_170 : decode cX7_ticks 170 = .ok (.getfield 32, 3) := by decide +kernel
theorem dX7_ticks_173 : decode cX7_ticks 173 = .ok (.iconst 3, 1) := by decide +kernel
theorem dX7_ticks_174 : decode cX7_ticks 174 = .ok (.dup2, 1) := by decide +kernel
theorem dX7_ticks_175 : decode cX7_ticks 175 = .ok (.laload, 1) := by decide +kernel
theorem dX7_ticks_176 : decode cX7_ticks 176 = .ok (.aload 7, 2) := by decide +kernel
theorem dX7_ticks_178 : decode cX7_ticks 178 = .ok (.iconst 2, 1) := by decide +kernel
theorem dX7_ticks_179 : decode cX7_ticks 179 = .ok (.iaload, 1) := by decide +kernel
theorem dX7_ticks_180 : decode cX7_ticks 180 = .ok (.i2l, 1) := by decide +kernel
theorem dX7_ticks_181 : decode cX7_ticks 181 = .ok (.ladd, 1) := by decide +kernel
theorem dX7_ticks_182 : decode cX7_ticks 182 = .ok (.lastore, 1) := by decide +kernel
theorem dX7_ticks_183 : decode cX7_ticks 183 = .ok (.iinc 6 1, 3) := by decide +kernel
theorem dX7_ticks_186 : decode cX7_ticks 186 = .ok (.goto (-74), 3) := by decide +kernel
theorem dX7_ticks_189 : decode cX7_ticks 189 = .ok (.aload_n 0, 1) := by decide +kernel
theorem dX7_ticks_190 : decode cX7_ticks 190 = .ok (.aload_n 3, 1) := by decide +kernel
theorem dX7_ticks_191 : decode cX7_ticks 191 = .ok (.putfield 25, 3) := by decide +kernel
theorem dX7_ticks_194 : decode cX7_ticks 194 = .ok (.aload_n 0, 1) := by decide +kernel
theorem dX7_ticks_195 : decode cX7_ticks 195 = .ok (.getfield 10, 3) := by decide +kernel
theorem dX7_ticks_198 : decode cX7_ticks 198 = .ok (.astore 4, 2) := by decide +kernel
theorem dX7_ticks_200 : decode cX7_ticks 200 = .ok (.aload 4, 2) := by decide +kernel
theorem dX7_ticks_202 : decode cX7_ticks 202 = .ok (.arraylength, 1) := by decide +kernel
theorem dX7_ticks_203 : decode cX7_ticks 203 = .ok (.istore 5, 2) := by decide +kernel
theorem dX7_ticks_205 : decode cX7_ticks 205 = .ok (.iconst 0, 1) := by decide +kernel
theorem dX7_ticks_206 : decode cX7_ticks 206 = .ok (.istore 6, 2) := by decide +kernel
theorem dX7_ticks_208 : decode cX7_ticks 208 = .ok (.iload 6, 2) := by decide +kernel
theorem dX7_ticks_210 : decode cX7_ticks 210 = .ok (.iload 5, 2) := by decide +kernel
theorem dX7_ticks_212 : decode cX7_ticks 212 = .ok (.if_icmp .ge 119, 3) := by decide +kernel
theorem dX7_ticks_215 : decode cX7_ticks 215 = .ok (.aload 4, 2) := by decide +kernel
theorem dX7_ticks_217 : decode cX7_ticks 217 = .ok (.iload 6, 2) := by decide +kernel
theorem dX7_ticks_219 : decode cX7_ticks 219 = .ok (.aaload, 1) := by decide +kernel
theorem dX7_ticks_220 : decode cX7_ticks 220 = .ok (.astore 7, 2) := by decide +kernel
theorem dX7_ticks_222 : decode cX7_ticks 222 = .ok (.aload 7, 2) := by decide +kernel
theorem dX7_ticks_224 : decode cX7_ticks 224 = .ok (.getfield 87, 3) := by decide +kernel
theorem dX7_ticks_227 : decode cX7_ticks 227 = .ok (.aload_n 0, 1) := by decide +kernel
theorem dX7_ticks_228 : decode cX7_ticks 228 = .ok (.getfield 51, 3) := by decide +kernel
theorem dX7_ticks_231 : decode cX7_ticks 231 = .ok (.i2l, 1) := by decide +kernel
theorem dX7_ticks_232 : decode cX7_ticks 232 = .ok (.lmul, 1) := by decide +kernel
theorem dX7_ticks_233 : decode cX7_ticks 233 = .ok (.ldc2_w 96, 3) := by decide +kernel
theorem dX7_ticks_236 : decode cX7_ticks 236 = .ok (.ldiv, 1) := by decide +kernel
theorem dX7_ticks_237 : decode cX7_ticks 237 = .ok (.lstore 8, 2) := by decide +kernel
theorem dX7_ticks_239 : decode cX7_ticks 239 = .ok (.aload_n 0, 1) := by decide +kernel
theorem dX7_ticks_240 : decode cX7_ticks 240 = .ok (.getfield 32, 3) := by decide +kernel
theorem dX7_ticks_243 : decode cX7_ticks 243 = .ok (.iconst 4, 1) := by decide +kernel
theorem dX7_ticks_244 : decode cX7_ticks 244 = .ok (.dup2, 1) := by decide +kernel
theorem dX7_ticks_245 : decode cX7_ticks 245 = .ok (.laload, 1) := by decide +kernel
theorem dX7_ticks_246 : decode cX7_ticks 246 = .ok (.lload 8, 2) := by decide +kernel
theorem dX7_ticks_248 : decode cX7_ticks 248 = .ok (.ladd, 1) := by decide +kernel
theorem dX7_ticks_249 : decode cX7_ticks 249 = .ok (.lastore, 1) := by decide +kernel
theorem dX7_ticks_250 : decode cX7_ticks 250 = .ok (.aload 7, 2) := by decide +kernel
theorem dX7_ticks_252 : decode cX7_ticks 252 = .ok (.dup, 1) := by decide +kernel
theorem dX7_ticks_253 : decode cX7_ticks 253 = .ok (.getfield 87, 3) := by decide +kernel
theorem dX7_ticks_256 : decode cX7_ticks 256 = .ok (.lload 8, 2) := by decide +kernel
theorem dX7_ticks_258 : decode cX7_ticks 258 = .ok (.lsub, 1) := by decide +kernel
theorem dX7_ticks_259 : decode cX7_ticks 259 = .ok (.putfield 87, 3) := by decide +kernel
theorem dX7_ticks_262 : decode cX7_ticks 262 = .ok (.aload 7, 2) := by decide +kernel
theorem dX7_ticks_264 : decode cX7_ticks 264 = .ok (.getfield 87, 3) := by decide +kernel
theorem dX7_ticks_267 : decode cX7_ticks 267 = .ok (.ldc2_w 98, 3) := by decide +kernel
theorem dX7_ticks_270 : decode cX7_ticks 270 = .ok (.invokestatic 100, 3) := by decide +kernel
theorem dX7_ticks_273 : decode cX7_ticks 273 = .ok (.lstore 10, 2) := by decide +kernel
theorem dX7_ticks_275 : decode cX7_ticks 275 = .ok (.aload_n 0, 1) := by decide +kernel
theorem dX7_ticks_276 : decode cX7_ticks 276 = .ok (.getfield 32, 3) := by decide +kernel
theorem dX7_ticks_279 : decode cX7_ticks 279 = .ok (.iconst 5, 1) := by decide +kernel
theorem dX7_ticks_280 : decode cX7_ticks 280 = .ok (.dup2, 1) := by decide +kernel
theorem dX7_ticks_281 : decode cX7_ticks 281 = .ok (.laload, 1) := by decide +kernel
theorem dX7_ticks_282 : decode cX7_ticks 282 = .ok (.aload 7, 2) := by decide +kernel
theorem dX7_ticks_284 : decode cX7_ticks 284 = .ok (.getfield 87, 3) := by decide +kernel
theorem dX7_ticks_287 : decode cX7_ticks 287 = .ok (.lload 10, 2) := by decide +kernel
theorem dX7_ticks_289 : decode cX7_ticks 289 = .ok (.lsub, 1) := by decide +kernel
theorem dX7_ticks_290 : decode cX7_ticks 290 = .ok (.ladd, 1) := by decide +kernel
theorem dX7_ticks_291 : decode cX7_ticks 291 = .ok (.lastore, 1) := by decide +kernel
theorem dX7_ticks_292 : decode cX7_ticks 292 = .ok (.aload 7, 2) := by decide +kernel
theorem dX7_ticks_294 : decode cX7_ticks 294 = .ok (.lload 10, 2) := by decide +kernel
theorem dX7_ticks_296 : decode cX7_ticks 296 = .ok (.putfield 87, 3) := by decide +kernel
theorem dX7_ticks_299 : decode cX7_ticks 299 = .ok (.aload 7, 2) := by decide +kernel
theorem dX7_ticks_301 : decode cX7_ticks 301 = .ok (.aload 7, 2) := by decide +kernel
theorem dX7_ticks_303 : decode cX7_ticks 303 = .ok (.getfield 67, 3) := by decide +kernel
theorem dX7_ticks_306 : decode cX7_ticks 306 = .ok (.lload 10, 2) := by decide +kernel
theorem dX7_ticks_308 : decode cX7_ticks 308 = .ok (.aload 7, 2) := by decide +kernel
theorem dX7_ticks_310 : decode cX7_ticks 310 = .ok (.getfield 104, 3) := by decide +kernel
theorem dX7_ticks_313 : decode cX7_ticks 313 = .ok (.i2l, 1) := by decide +kernel
theorem dX7_ticks_314 : decode cX7_ticks 314 = .ok (.ldiv, 1) := by decide +kernel
theorem dX7_ticks_315 : decode cX7_ticks 315 = .ok (.ladd, 1) := by decide +kernel
theorem dX7_ticks_316 : decode cX7_ticks 316 = .ok (.ldc2_w 107, 3) := by decide +kernel
theorem dX7_ticks_319 : decode cX7_ticks 319 = .ok (.invokestatic 100, 3) := by decide +kernel
theorem dX7_ticks_322 : decode cX7_ticks 322 = .ok (.putfield 67, 3) := by decide +kernel
theorem dX7_ticks_325 : decode cX7_ticks 325 = .ok (.iinc 6 1, 3) := by decide +kernel
theorem dX7_ticks_328 : decode cX7_ticks 328 = .ok (.goto (-120), 3) := by decide +kernel
theorem dX7_ticks_331 : decode cX7_ticks 331 = .ok (.iconst 0, 1) := by decide +kernel
theorem dX7_ticks_332 : decode cX7_ticks 332 = .ok (.istore 4, 2) := by decide +kernel
theorem dX7_ticks_334 : decode cX7_ticks 334 = .ok (.iconst 0, 1) := by decide +kernel
theorem dX7_ticks_335 : decode cX7_ticks 335 = .ok (.istore 5, 2) := by decide +kernel
theorem dX7_ticks_337 : decode cX7_ticks 337 = .ok (.iload 5, 2) := by decide +kernel
theorem dX7_ticks_339 : decode cX7_ticks 339 = .ok (.iload_n 1, 1) := by decide +kernel
theorem dX7_ticks_340 : decode cX7_ticks 340 = .ok (.if_icmp .gt 65, 3) := by decide +kernel
theorem dX7_ticks_343 : decode cX7_ticks 343 = .ok (.aload_n 0, 1) := by decide +kernel
theorem dX7_ticks_344 : decode cX7_ticks 344 = .ok (.getfield 19, 3) := by decide +kernel
theorem dX7_ticks_347 : decode cX7_ticks 347 = .ok (.iload 5, 2) := by decide +kernel
theorem dX7_ticks_349 : decode cX7_ticks 349 = .ok (.aaload, 1) := by decide +kernel
theorem dX7_ticks_350 : decode cX7_ticks 350 = .ok (.astore 6, 2) := by decide +kernel
theorem dX7_ticks_352 : decode cX7_ticks 352 = .ok (.aload 6, 2) := by decide +kernel
theorem dX7_ticks_354 : decode cX7_ticks 354 = .ok (.getfield 71, 3) := by decide +kernel
theorem dX7_ticks_357 : decode cX7_ticks 357 = .ok (.ifCond .ne 42, 3) := by decide +kernel
theorem dX7_ticks_360 : decode cX7_ticks 360 = .ok (.aload 6, 2) := by decide +kernel
theorem dX7_ticks_362 : decode cX7_ticks 362 = .ok (.getfield 109, 3) := by decide +kernel
theorem dX7_ticks_365 : decode cX7_ticks 365 = .ok (.ifCond .eq 34, 3) := by decide +kernel
theorem dX7_ticks_368 : decode cX7_ticks 368 = .ok (.aload_n 0, 1) := by decide +kernel
theorem dX7_ticks_369 : decode cX7_ticks 369 = .ok (.iload 5, 2) := by decide +kernel
theorem dX7_ticks_371 : decode cX7_ticks 371 = .ok (.invokevirtual 78, 3) := by decide +kernel
theorem dX7_ticks_374 : decode cX7_ticks 374 = .ok (.invokestatic 112, 3) := by decide +kernel
theorem dX7_ticks_377 : decode cX7_ticks 377 = .ok (.aload 6, 2) := by decide +kernel
theorem dX7_ticks_379 : decode cX7_ticks 379 = .ok (.getfield 109, 3) := by decide +kernel
theorem dX7_ticks_382 : decode cX7_ticks 382 = .ok (.i2l, 1) := by decide +kernel
theorem dX7_ticks_383 : decode cX7_ticks 383 = .ok (.lcmp, 1) := by decide +kernel
theorem dX7_ticks_384 : decode cX7_ticks 384 = .ok (.ifCond .gt 6, 3) := by decide +kernel
theorem dX7_ticks_387 : decode cX7_ticks 387 = .ok (.goto 12, 3) := by decide +kernel
theorem dX7_ticks_390 : decode cX7_ticks 390 = .ok (.aload 6, 2) := by decide +kernel
theorem dX7_ticks_392 : decode cX7_ticks 392 = .ok (.iconst 1, 1) := by decide +kernel
theorem dX7_ticks_393 : decode cX7_ticks 393 = .ok (.putfield 71, 3) := by decide +kernel
theorem dX7_ticks_396 : decode cX7_ticks 396 = .ok (.iinc 4 1, 3) := by decide +kernel
theorem dX7_ticks_399 : decode cX7_ticks 399 = .ok (.iinc 5 1, 3) := by decide +kernel
theorem dX7_ticks_402 : decode cX7_ticks 402 = .ok (.goto (-65), 3) := by decide +kernel
theorem dX7_ticks_405 : decode cX7_ticks 405 = .ok (.aload_n 0, 1) := by decide +kernel
theorem dX7_ticks_406 : decode cX7_ticks 406 = .ok (.invokevirtual 118, 3) := by decide +kernel
theorem dX7_ticks_409 : decode cX7_ticks 409 = .ok (.istore 5, 2) := by decide +kernel
theorem dX7_ticks_411 : decode cX7_ticks 411 = .ok (.iconst 0, 1) := by decide +kernel
theorem dX7_ticks_412 : decode cX7_ticks 412 = .ok (.istore 6, 2) := by decide +kernel
theorem dX7_ticks_414 : decode cX7_ticks 414 = .ok (.iload 6, 2) := by decide +kernel
theorem dX7_ticks_416 : decode cX7_ticks 416 = .ok (.aload_n 0, 1) := by decide +kernel
theorem dX7_ticks_417 : decode cX7_ticks 417 = .ok (.getfield 29, 3) := by decide +kernel
theorem dX7_ticks_420 : decode cX7_ticks 420 = .ok (.arraylength, 1) := by decide +kernel
theorem dX7_ticks_421 : decode cX7_ticks 421 = .ok (.if_icmp .ge 23, 3) := by decide +kernel
theorem dX7_ticks_424 : decode cX7_ticks 424 = .ok (.aload_n 0, 1) := by decide +kernel
theorem dX7_ticks_425 : decode cX7_ticks 425 = .ok (.getfield 29, 3) := by decide +kernel
theorem dX7_ticks_428 : decode cX7_ticks 428 = .ok (.iload 6, 2) := by decide +kernel
theorem dX7_ticks_430 : decode cX7_ticks 430 = .ok (.aaload, 1) := by decide +kernel
theorem dX7_ticks_431 : decode cX7_ticks 431 = .ok (.iconst 0, 1) := by decide +kernel
theorem dX7_ticks_432 : decode cX7_ticks 432 = .ok (.iaload, 1) := by decide +kernel
theorem dX7_ticks_433 : decode cX7_ticks 433 = .ok (.iload 5, 2) := by decide +kernel
theorem dX7_ticks_435 : decode cX7_ticks 435 = .ok (.if_icmp .eq 9, 3) := by decide +kernel
theorem dX7_ticks_438 : decode cX7_ticks 438 = .ok (.iinc 6 1, 3) := by decide +kernel
theorem dX7_ticks_441 : decode cX7_ticks 441 = .ok (.goto (-27), 3) := by decide +kernel
theorem dX7_ticks_444 : decode cX7_ticks 444 = .ok (.iload 6, 2) := by decide +kernel
theorem dX7_ticks_446 : decode cX7_ticks 446 = .ok (.aload_n 0, 1) := by decide +kernel
theorem dX7_ticks_447 : decode cX7_ticks 447 = .ok (.getfield 29, 3) := by decide +kernel
theorem dX7_ticks_450 : decode cX7_ticks 450 = .ok (.arraylength, 1) := by decide +kernel
theorem dX7_ticks_451 : decode cX7_ticks 451 = .ok (.if_icmp .ge 19, 3) := by decide +kernel
theorem dX7_ticks_454 : decode cX7_ticks 454 = .ok (.aload_n 0, 1) := by decide +kernel
theorem dX7_ticks_455 : decode cX7_ticks 455 = .ok (.getfield 29, 3) := by decide +kernel
theorem dX7_ticks_458 : decode cX7_ticks 458 = .ok (.iload 6, 2) := by decide +kernel
theorem dX7_ticks_460 : decode cX7_ticks 460 = .ok (.aaload, 1) := by decide +kernel
theorem dX7_ticks_461 : decode cX7_ticks 461 = .ok (.iconst 1, 1) := by decide +kernel
theorem dX7_ticks_462 : decode cX7_ticks 462 = .ok (.dup2, 1) := by decide +kernel
theorem dX7_ticks_463 : decode cX7_ticks 463 = .ok (.iaload, 1) := by decide +kernel
theorem dX7_ticks_464 : decode cX7_ticks 464 = .ok (.iconst 1, 1) := by decide +kernel
theorem dX7_ticks_465 : decode cX7_ticks 465 = .ok (.iadd, 1) := by decide +kernel
theorem dX7_ticks_466 : decode cX7_ticks 466 = .ok (.iastore, 1) := by decide +kernel
theorem dX7_ticks_467 : decode cX7_ticks 467 = .ok (.goto 33, 3) := by decide +kernel
theorem dX7_ticks_470 : decode cX7_ticks 470 = .ok (.iload 6, 2) := by decide +kernel
theorem dX7_ticks_472 : decode cX7_ticks 472 = .ok (.bipush 32, 2) := by decide +kernel
theorem dX7_ticks_474 : decode cX7_ticks 474 = .ok (.if_icmp .ge 26, 3) := by decide +kernel
theorem dX7_ticks_477 : decode cX7_ticks 477 = .ok (.aload_n 0, 1) := by decide +kernel
theorem dX7_ticks_478 : decode cX7_ticks 478 = .ok (.aload_n 0, 1) := by decide +kernel
theorem dX7_ticks_479 : decode cX7_ticks 479 = .ok (.getfield 29, 3) := by decide +kernel
theorem dX7_ticks_482 : decode cX7_ticks 482 = .ok (.iconst 2, 1) := by decide +kernel
theorem dX7_ticks_483 : decode cX7_ticks 483 = .ok (.newarray .int, 2) := by decide +kernel
theorem dX7_ticks_485 : decode cX7_ticks 485 = .ok (.dup, 1) := by decide +kernel
theorem dX7_ticks_486 : decode cX7_ticks 486 = .ok (.iconst 0, 1) := by decide +kernel
theorem dX7_ticks_487 : decode cX7_ticks 487 = .ok (.iload 5, 2) := by decide +kernel
theorem dX7_ticks_489 : decode cX7_ticks 489 = .ok (.iastore, 1) := by decide +kernel
theorem dX7_ticks_490 : decode cX7_ticks 490 = .ok (.dup, 1) := by decide +kernel
theorem dX7_ticks_491 : decode cX7_ticks 491 = .ok (.iconst 1, 1) := by decide +kernel
theorem dX7_ticks_492 : decode cX7_ticks 492 = .ok (.iconst 1, 1) := by decide +kernel
theorem dX7_ticks_493 : decode cX7_ticks 493 = .ok (.iastore, 1) := by decide +kernel
theorem dX7_ticks_494 : decode cX7_ticks 494 = .ok (.invokestatic 90, 3) := by decide +kernel
theorem dX7_ticks_497 : decode cX7_ticks 497 = .ok (.putfield 29, 3) := by decide +kernel
theorem dX7_ticks_500 : decode cX7_ticks 500 = .ok (.aload_n 0, 1) := by decide +kernel
theorem dX7_ticks_501 : decode cX7_ticks 501 = .ok (.dup, 1) := by decide +kernel
theorem dX7_ticks_502 : decode cX7_ticks 502 = .ok (.getfield 41, 3) := by decide +kernel
theorem dX7_ticks_505 : decode cX7_ticks 505 = .ok (.iconst 1, 1) := by decide +kernel
theorem dX7_ticks_506 : decode cX7_ticks 506 = .ok (.iadd, 1) := by decide +kernel
theorem dX7_ticks_507 : decode cX7_ticks 507 = .ok (.putfield 41, 3) := by decide +kernel
theorem dX7_ticks_510 : decode cX7_ticks 510 = .ok (.iload 4, 2) := by decide +kernel
theorem dX7_ticks_512 : decode cX7_ticks 512 = .ok (.ireturn, 1) := by decide +kernel
theorem dX7_broken_0 : decode cX7_broken 0 = .ok (.iconst 0, 1) := by decide +kernel
theorem dX7_broken_1 : decode cX7_broken 1 = .ok (.istore_n 1, 1) := by decide +kernel
theorem dX7_broken_2 : decode cX7_broken 2 = .ok (.aload_n 0, 1) := by decide +kernel
theorem dX7_broken_3 : decode cX7_broken 3 = .ok (.getfield 19, 3) := by decide +kernel
theorem dX7_broken_6 : decode cX7_broken 6 = .ok (.astore_n 2, 1) := by decide +kernel
theorem dX7_broken_7 : decode cX7_broken 7 = .ok (.aload_n 2, 1) := by decide +kernel
theorem dX7_broken_8 : decode cX7_broken 8 = .ok (.arraylength, 1) := by decide +kernel
theorem dX7_broken_9 : decode cX7_broken 9 = .ok (.istore_n 3, 1) := by decide +kernel
theorem dX7_broken_10 : decode cX7_broken 10 = .ok (.iconst 0, 1) := by decide +kernel
theorem dX7_broken_11 : decode cX7_broken 11 = .ok (.istore 4, 2) := by decide +kernel
theorem dX7_broken_13 : decode cX7_broken 13 = .ok (.iload 4, 2) := by decide +kernel
theorem dX7_broken_15 : decode cX7_broken 15 = .ok (.iload_n 3, 1) := by decide +kernel
theorem dX7_broken_16 : decode cX7_broken 16 = .ok (.if_icmp .ge 26, 3) := by decide +kernel
theorem dX7_broken_19 : decode cX7_broken 19 = .ok (.aload_n 2, 1) := by decide +kernel
theorem dX7_broken_20 : decode cX7_broken 20 = .ok (.iload 4, 2) := by decide +kernel
theorem dX7_broken_22 : decode cX7_broken 22 = .ok (.aaload, 1) := by decide +kernel
theorem dX7_broken_23 : decode cX7_broken 23 = .ok (.astore 5, 2) := by decide +kernel
theorem dX7_broken_25 : decode cX7_broken 25 = .ok (.aload 5, 2) := by decide +kernel
theorem dX7_broken_27 : decode cX7_broken 27 = .ok (.getfield 71, 3) := by decide +kernel
theorem dX7_broken_30 : decode cX7_broken 30 = .ok (.ifCond .eq 6, 3) := by decide +kernel
theorem dX7_broken_33 : decode cX7_broken 33 = .ok (.iinc 1 1, 3) := by decide +kernel
theorem dX7_broken_36 : decode cX7_broken 36 = .ok (.iinc 4 1, 3) := by decide +kernel
theorem dX7_broken_39 : decode cX7_broken 39 = .ok (.goto (-26), 3) := by decide +kernel
theorem dX7_broken_42 : decode cX7_broken 42 = .ok (.iload_n 1, 1) := by decide +kernel
theorem dX7_broken_43 : decode cX7_broken 43 = .ok (.ireturn, 1) := by decide +kernel
theorem dX7_told_0 : decode cX7_told 0 = .ok (.iconst 0, 1) := by decide +kernel
theorem dX7_told_1 : decode cX7_told 1 = .ok (.istore_n 2, 1) := by decide +kernel
theorem dX7_told_2 : decode cX7_told 2 = .ok (.iconst 0, 1) := by decide +kernel
theorem dX7_told_3 : decode cX7_told 3 = .ok (.istore_n 3, 1) := by decide +kernel
theorem dX7_told_4 : decode cX7_told 4 = .ok (.iconst 0, 1) := by decide +kernel
theorem dX7_told_5 : decode cX7_told 5 = .ok (.istore 4, 2) := by decide +kernel
theorem dX7_told_7 : decode cX7_told 7 = .ok (.iload 4, 2) := by decide +kernel
theorem dX7_told_9 : decode cX7_told 9 = .ok (.aload_n 0, 1) := by decide +kernel
theorem dX7_told_10 : decode cX7_told 10 = .ok (.getfield 10, 3) := by decide +kernel
theorem dX7_told_13 : decode cX7_told 13 = .ok (.arraylength, 1) := by decide +kernel
theorem dX7_told_14 : decode cX7_told 14 = .ok (.if_icmp .ge 59, 3) := by decide +kernel
theorem dX7_told_17 : decode cX7_told 17 = .ok (.aload_n 0, 1) := by decide +kernel
theorem dX7_told_18 : decode cX7_told 18 = .ok (.getfield 10, 3) := by decide +kernel
theorem dX7_told_21 : decode cX7_told 21 = .ok (.iload 4, 2) := by decide +kernel
theorem dX7_told_23 : decode cX7_told 23 = .ok (.aaload, 1) := by decide +kernel
theorem dX7_told_24 : decode cX7_told 24 = .ok (.getfield 87, 3) := by decide +kernel
theorem dX7_told_27 : decode cX7_told 27 = .ok (.lconst 0, 1) := by decide +kernel
theorem dX7_told_28 : decode cX7_told 28 = .ok (.lcmp, 1) := by decide +kernel
theorem dX7_told_29 : decode cX7_told 29 = .ok (.ifCond .ne 6, 3) := by decide +kernel
theorem dX7_told_32 : decode cX7_told 32 = .ok (.iinc 2 1, 3) := by decide +kernel
theorem dX7_told_35 : decode cX7_told 35 = .ok (.aload_n 0, 1) := by decide +kernel
theorem dX7_told_36 : decode cX7_told 36 = .ok (.getfield 10, 3) := by decide +kernel
theorem dX7_told_39 : decode cX7_told 39 = .ok (.iload 4, 2) := by decide +kernel
theorem dX7_told_41 : decode cX7_told 41 = .ok (.aaload, 1) := by decide +kernel
theorem dX7_told_42 : decode cX7_told 42 = .ok (.getfield 67, 3) := by decide +kernel
theorem dX7_told_45 : decode cX7_told 45 = .ok (.invokestatic 112, 3) := by decide +kernel
theorem dX7_told_48 : decode cX7_told 48 = .ok (.aload_n 0, 1) := by decide +kernel
theorem dX7_told_49 : decode cX7_told 49 = .ok (.getfield 10, 3) := by decide +kernel
theorem dX7_told_52 : decode cX7_told 52 = .ok (.iload_n 3, 1) := by decide +kernel
theorem dX7_told_53 : decode cX7_told 53 = .ok (.aaload, 1) := by decide +kernel
theorem dX7_told_54 : decode cX7_told 54 = .ok (.getfield 67, 3) := by decide +kernel
theorem dX7_told_57 : decode cX7_told 57 = .ok (.invokestatic 112, 3) := by decide +kernel
theorem dX7_told_60 : decode cX7_told 60 = .ok (.lcmp, 1) := by decide +kernel
theorem dX7_told_61 : decode cX7_told 61 = .ok (.ifCond .le 6, 3) := by decide +kernel
theorem dX7_told_64 : decode cX7_told 64 = .ok (.iload 4, 2) := by decide +kernel
theorem dX7_told_66 : decode cX7_told 66 = .ok (.istore_n 3, 1) := by decide +kernel
theorem dX7_told_67 : decode cX7_told 67 = .ok (.iinc 4 1, 3) := by decide +kernel
theorem dX7_told_70 : decode cX7_told 70 = .ok (.goto (-63), 3) := by decide +kernel
theorem dX7_told_73 : decode cX7_told 73 = .ok (.iload_n 1, 1) := by decide +kernel
theorem dX7_told_74 : decode cX7_told 74 = .ok (.ifCond .ne 10, 3) := by decide +kernel
theorem dX7_told_77 : decode cX7_told 77 = .ok (.aload_n 0, 1) := by decide +kernel
theorem dX7_told_78 : decode cX7_told 78 = .ok (.getfield 41, 3) := by decide +kernel
theorem dX7_told_81 : decode cX7_told 81 = .ok (.goto 129, 3) := by decide +kernel
theorem dX7_told_84 : decode cX7_told 84 = .ok (.iload_n 1, 1) := by decide +kernel
theorem dX7_told_85 : decode cX7_told 85 = .ok (.iconst 1, 1) := by decide +kernel
theorem dX7_told_86 : decode cX7_told 86 = .ok (.if_icmp .ne 11, 3) := by decide +kernel
theorem dX7_told_89 : decode cX7_told 89 = .ok (.aload_n 0, 1) := by decide +kernel
theorem dX7_told_90 : decode cX7_told 90 = .ok (.getfield 10, 3) := by decide +kernel
theorem dX7_told_93 : decode cX7_told 93 = .ok (.arraylength, 1) := by decide +kernel
theorem dX7_told_94 : decode cX7_told 94 = .ok (.goto 116, 3) := by decide +kernel
theorem dX7_told_97 : decode cX7_told 97 = .ok (.iload_n 1, 1) := by decide +kernel
theorem dX7_told_98 : decode cX7_told 98 = .ok (.iconst 2, 1) := by decide +kernel
theorem dX7_told_99 : decode cX7_told 99 = .ok (.if_icmp .ne 10, 3) := by decide +kernel
theorem dX7_told_102 : decode cX7_told 102 = .ok (.aload_n 0, 1) := by decide +kernel
theorem dX7_told_103 : decode cX7_told 103 = .ok (.invokevirtual 122, 3) := by decide +kernel
theorem dX7_told_106 : decode cX7_told 106 = .ok (.goto 104, 3) := by decide +kernel
theorem dX7_told_109 : decode cX7_told 109 = .ok (.iload_n 1, 1) := by decide +kernel
theorem dX7_told_110 : decode cX7_told 110 = .ok (.iconst 3, 1) := by decide +kernel
theorem dX7_told_111 : decode cX7_told 111 = .ok (.if_icmp .ne 10, 3) := by decide +kernel
theorem dX7_told_114 : decode cX7_told 114 = .ok (.aload_n 0, 1) := by decide +kernel
theorem dX7_told_115 : decode cX7_told 115 = .ok (.getfield 45, 3) := by decide +kernel
theorem dX7_told_118 : decode cX7_told 118 = .ok (.goto 92, 3) := by decide +kernel
theorem dX7_told_121 : decode cX7_told 121 = .ok (.iload_n 1, 1) := by decide +kernel
theorem dX7_told_122 : decode cX7_told 122 = .ok (.iconst 4, 1) := by decide +kernel
theorem dX7_told_123 : decode cX7_told 123 = .ok (.if_icmp .ne 10, 3) := by decide +kernel
theorem dX7_told_126 : decode cX7_told 126 = .ok (.aload_n 0, 1) := by decide +kernel
theorem dX7_told_127 : decode cX7_told 127 = .ok (.getfield 48, 3) := by decide +kernel
theorem dX7_told_130 : decode cX7_told 130 = .ok (.goto 80, 3) := by decide +kernel
theorem dX7_told_133 : decode cX7_told 133 = .ok (.iload_n 1, 1) := by decide +kernel
theorem dX7_told_134 : decode cX7_told 134 = .ok (.iconst 5, 1) := by decide +kernel
theorem dX7_told_135 : decode cX7_told 135 = .ok (.if_icmp .ne 10, 3) := by decide +kernel
theorem dX7_told_138 : decode cX7_told 138 = .ok (.aload_n 0, 1) := by decide +kernel
theorem dX7_told_139 : decode cX7_told 139 = .ok (.getfield 51, 3) := by decide +kernel
theorem dX7_told_142 : decode cX7_told 142 = .ok (.goto 68, 3) := by decide +kernel
theorem dX7_told_145 : decode cX7_told 145 = .ok (.iload_n 1, 1) := by decide +kernel
theorem dX7_told_146 : decode cX7_told 146 = .ok (.bipush 6, 2) := by decide +kernel
theorem dX7_told_148 : decode cX7_told 148 = .ok (.if_icmp .ne 11, 3) := by decide +kernel
theorem dX7_told_151 : decode cX7_told 151 = .ok (.aload_n 0, 1) := by decide +kernel
theorem dX7_told_152 : decode cX7_told 152 = .ok (.getfield 25, 3) := by decide +kernel
theorem dX7_told_155 : decode cX7_told 155 = .ok (.arraylength, 1) := by decide +kernel
theorem dX7_told_156 : decode cX7_told 156 = .ok (.goto 54, 3) := by decide +kernel
theorem dX7_told_159 : decode cX7_told 159 = .ok (.iload_n 1, 1) := by decide +kernel
theorem dX7_told_160 : decode cX7_told 160 = .ok (.bipush 7, 2) := by decide +kernel
theorem dX7_told_162 : decode cX7_told 162 = .ok (.if_icmp .ne 10, 3) := by decide +kernel
theorem dX7_told_165 : decode cX7_told 165 = .ok (.aload_n 0, 1) := by decide +kernel
theorem dX7_told_166 : decode cX7_told 166 = .ok (.invokevirtual 118, 3) := by decide +kernel
theorem dX7_told_169 : decode cX7_told 169 = .ok (.goto 41, 3) := by decide +kernel
theorem dX7_told_172 : decode cX7_told 172 = .ok (.iload_n 1, 1) := by decide +kernel
theorem dX7_told_173 : decode cX7_told 173 = .ok (.bipush 8, 2) := by decide +kernel
theorem dX7_told_175 : decode cX7_told 175 = .ok (.if_icmp .ne 10, 3) := by decide +kernel
theorem dX7_told_178 : decode cX7_told 178 = .ok (.aload_n 0, 1) := by decide +kernel
theorem dX7_told_179 : decode cX7_told 179 = .ok (.invokevirtual 125, 3) := by decide +kernel
theorem dX7_told_182 : decode cX7_told 182 = .ok (.goto 28, 3) := by decide +kernel
theorem dX7_told_185 : decode cX7_told 185 = .ok (.iload_n 1, 1) := by decide +kernel
theorem dX7_told_186 : decode cX7_told 186 = .ok (.bipush 9, 2) := by decide +kernel
theorem dX7_told_188 : decode cX7_told 188 = .ok (.if_icmp .ne 11, 3) := by decide +kernel
theorem dX7_told_191 : decode cX7_told 191 = .ok (.aload_n 0, 1) := by decide +kernel
theorem dX7_told_192 : decode cX7_told 192 = .ok (.getfield 29, 3) := by decide +kernel
theorem dX7_told_195 : decode cX7_told 195 = .ok (.arraylength, 1) := by decide +kernel
theorem dX7_told_196 : decode cX7_told 196 = .ok (.goto 14, 3) := by decide +kernel
theorem dX7_told_199 : decode cX7_told 199 = .ok (.iload_n 1, 1) := by decide +kernel
theorem dX7_told_200 : decode cX7_told 200 = .ok (.bipush 10, 2) := by decide +kernel
theorem dX7_told_202 : decode cX7_told 202 = .ok (.if_icmp .ne 7, 3) := by decide +kernel
theorem dX7_told_205 : decode cX7_told 205 = .ok (.iload_n 2, 1) := by decide +kernel
theorem dX7_told_206 : decode cX7_told 206 = .ok (.goto 4, 3) := by decide +kernel
theorem dX7_told_209 : decode cX7_told 209 = .ok (.iload_n 3, 1) := by decide +kernel
theorem dX7_told_210 : decode cX7_told 210 = .ok (.ireturn, 1) := by decide +kernel
theorem dX7_account_0 : decode cX7_account 0 = .ok (.lconst 0, 1) := by decide +kernel
theorem dX7_account_1 : decode cX7_account 1 = .ok (.lstore_n 2, 1) := by decide +kernel
theorem dX7_account_2 : decode cX7_account 2 = .ok (.aload_n 0, 1) := by decide +kernel
theorem dX7_account_3 : decode cX7_account 3 = .ok (.getfield 10, 3) := by decide +kernel
theorem dX7_account_6 : decode cX7_account 6 = .ok (.astore 4, 2) := by decide +kernel
theorem dX7_account_8 : decode cX7_account 8 = .ok (.aload 4, 2) := by decide +kernel
theorem dX7_account_10 : decode cX7_account 10 = .ok (.arraylength, 1) := by decide +kernel
theorem dX7_account_11 : decode cX7_account 11 = .ok (.istore 5, 2) := by decide +kernel
theorem dX7_account_13 : decode cX7_account 13 = .ok (.iconst 0, 1) := by decide +kernel
theorem dX7_account_14 : decode cX7_account 14 = .ok (.istore 6, 2) := by decide +kernel
theorem dX7_account_16 : decode cX7_account 16 = .ok (.iload 6, 2) := by decide +kernel
theorem dX7_account_18 : decode cX7_account 18 = .ok (.iload 5, 2) := by decide +kernel
theorem dX7_account_20 : decode cX7_account 20 = .ok (.if_icmp .ge 59, 3) := by decide +kernel
theorem dX7_account_23 : decode cX7_account 23 = .ok (.aload 4, 2) := by decide +kernel
theorem dX7_account_25 : decode cX7_account 25 = .ok (.iload 6, 2) := by decide +kernel
theorem dX7_account_27 : decode cX7_account 27 = .ok (.aaload, 1) := by decide +kernel
theorem dX7_account_28 : decode cX7_account 28 = .ok (.astore 7, 2) := by decide +kernel
theorem dX7_account_30 : decode cX7_account 30 = .ok (.iload_n 1, 1) := by decide +kernel
theorem dX7_account_31 : decode cX7_account 31 = .ok (.ifCond .ne 11, 3) := by decide +kernel
theorem dX7_account_34 : decode cX7_account 34 = .ok (.lload_n 2, 1) := by decide +kernel
theorem dX7_account_35 : decode cX7_account 35 = .ok (.aload 7, 2) := by decide +kernel
theorem dX7_account_37 : decode cX7_account 37 = .ok (.getfield 87, 3) := by decide +kernel
theorem dX7_account_40 : decode cX7_account 40 = .ok (.ladd, 1) := by decide +kernel
theorem dX7_account_41 : decode cX7_account 41 = .ok (.lstore_n 2, 1) := by decide +kernel
theorem dX7_account_42 : decode cX7_account 42 = .ok (.iload_n 1, 1) := by decide +kernel
theorem dX7_account_43 : decode cX7_account 43 = .ok (.bipush 6, 2) := by decide +kernel
theorem dX7_account_45 : decode cX7_account 45 = .ok (.if_icmp .ne 28, 3) := by decide +kernel
theorem dX7_account_48 : decode cX7_account 48 = .ok (.lload_n 2, 1) := by decide +kernel
theorem dX7_account_49 : decode cX7_account 49 = .ok (.aload 7, 2) := by decide +kernel
theorem dX7_account_51 : decode cX7_account 51 = .ok (.getfield 87, 3) := by decide +kernel
theorem dX7_account_54 : decode cX7_account 54 = .ok (.aload 7, 2) := by decide +kernel
theorem dX7_account_56 : decode cX7_account 56 = .ok (.getfield 87, 3) := by decide +kernel
theorem dX7_account_59 : decode cX7_account 59 = .ok (.lmul, 1) := by decide +kernel
theorem dX7_account_60 : decode cX7_account 60 = .ok (.ldc2_w 128, 3) := by decide +kernel
theorem dX7_account_63 : decode cX7_account 63 = .ok (.aload 7, 2) := by decide +kernel
theorem dX7_account_65 : decode cX7_account 65 = .ok (.getfield 104, 3) := by decide +kernel
theorem dX7_account_68 : decode cX7_account 68 = .ok (.i2l, 1) := by decide +kernel
theorem dX7_account_69 : decode cX7_account 69 = .ok (.lmul, 1) := by decide +kernel
theorem dX7_account_70 : decode cX7_account 70 = .ok (.ldiv, 1) := by decide +kernel
theorem dX7_account_71 : decode cX7_account 71 = .ok (.ladd, 1) := by decide +kernel
theorem dX7_account_72 : decode cX7_account 72 = .ok (.lstore_n 2, 1) := by decide +kernel
theorem dX7_account_73 : decode cX7_account 73 = .ok (.iinc 6 1, 3) := by decide +kernel
theorem dX7_account_76 : decode cX7_account 76 = .ok (.goto (-60), 3) := by decide +kernel
theorem dX7_account_79 : decode cX7_account 79 = .ok (.iconst 0, 1) := by decide +kernel
theorem dX7_account_80 : decode cX7_account 80 = .ok (.istore 4, 2) := by decide +kernel
theorem dX7_account_82 : decode cX7_account 82 = .ok (.iload 4, 2) := by decide +kernel
theorem dX7_account_84 : decode cX7_account 84 = .ok (.aload_n 0, 1) := by decide +kernel
theorem dX7_account_85 : decode cX7_account 85 = .ok (.getfield 19, 3) := by decide +kernel
theorem dX7_account_88 : decode cX7_account 88 = .ok (.arraylength, 1) := by decide +kernel
theorem dX7_account_89 : decode cX7_account 89 = .ok (.if_icmp .ge 60, 3) := by decide +kernel
theorem dX7_account_92 : decode cX7_account 92 = .ok (.iload_n 1, 1) := by decide +kernel
theorem dX7_account_93 : decode cX7_account 93 = .ok (.bipush 7, 2) := by decide +kernel
theorem dX7_account_95 : decode cX7_account 95 = .ok (.if_icmp .ne 54, 3) := by decide +kernel
theorem dX7_account_98 : decode cX7_account 98 = .ok (.aload_n 0, 1) := by decide +kernel
theorem dX7_account_99 : decode cX7_account 99 = .ok (.getfield 19, 3) := by decide +kernel
theorem dX7_account_102 : decode cX7_account 102 = .ok (.iload 4, 2) := by decide +kernel
theorem dX7_account_104 : decode cX7_account 104 = .ok (.aaload, 1) := by decide +kernel
theorem dX7_account_105 : decode cX7_account 105 = .ok (.getfield 71, 3) := by decide +kernel
theorem dX7_account_108 : decode cX7_account 108 = .ok (.ifCond .ne 35, 3) := by decide +kernel
theorem dX7_account_111 : decode cX7_account 111 = .ok (.lload_n 2, 1) := by decide +kernel
theorem dX7_account_112 : decode cX7_account 112 = .ok (.aload_n 0, 1) := by decide +kernel
theorem dX7_account_113 : decode cX7_account 113 = .ok (.getfield 19, 3) := by decide +kernel
theorem dX7_account_116 : decode cX7_account 116 = .ok (.iload 4, 2) := by decide +kernel
theorem dX7_account_118 : decode cX7_account 118 = .ok (.aaload, 1) := by decide +kernel
theorem dX7_account_119 : decode cX7_account 119 = .ok (.getfield 75, 3) := by decide +kernel
theorem dX7_account_122 : decode cX7_account 122 = .ok (.i2l, 1) := by decide +kernel
theorem dX7_account_123 : decode cX7_account 123 = .ok (.aload_n 0, 1) := by decide +kernel
theorem dX7_account_124 : decode cX7_account 124 = .ok (.iload 4, 2) := by decide +kernel
theorem dX7_account_126 : decode cX7_account 126 = .ok (.invokevirtual 78, 3) := by decide +kernel
theorem dX7_account_129 : decode cX7_account 129 = .ok (.lmul, 1) := by decide +kernel
theorem dX7_account_130 : decode cX7_account 130 = .ok (.aload_n 0, 1) := by decide +kernel
theorem dX7_account_131 : decode cX7_account 131 = .ok (.iload 4, 2) := by decide +kernel
theorem dX7_account_133 : decode cX7_account 133 = .ok (.invokevirtual 78, 3) := by decide +kernel
theorem dX7_account_136 : decode cX7_account 136 = .ok (.lmul, 1) := by decide +kernel
theorem dX7_account_137 : decode cX7_account 137 = .ok (.ldc2_w 130, 3) := by decide +kernel
theorem dX7_account_140 : decode cX7_account 140 = .ok (.ldiv, 1) := by decide +kernel
theorem dX7_account_141 : decode cX7_account 141 = .ok (.ladd, 1) := by decide +kernel
theorem dX7_account_142 : decode cX7_account 142 = .ok (.lstore_n 2, 1) := by decide +kernel
theorem dX7_account_143 : decode cX7_account 143 = .ok (.iinc 4 1, 3) := by decide +kernel
theorem dX7_account_146 : decode cX7_account 146 = .ok (.goto (-64), 3) := by decide +kernel
theorem dX7_account_149 : decode cX7_account 149 = .ok (.iload_n 1, 1) := by decide +kernel
theorem dX7_account_150 : decode cX7_account 150 = .ok (.ifCond .le 18, 3) := by decide +kernel
theorem dX7_account_153 : decode cX7_account 153 = .ok (.iload_n 1, 1) := by decide +kernel
theorem dX7_account_154 : decode cX7_account 154 = .ok (.bipush 6, 2) := by decide +kernel
theorem dX7_account_156 : decode cX7_account 156 = .ok (.if_icmp .ge 12, 3) := by decide +kernel
theorem dX7_account_159 : decode cX7_account 159 = .ok (.aload_n 0, 1) := by decide +kernel
theorem dX7_account_160 : decode cX7_account 160 = .ok (.getfield 32, 3) := by decide +kernel
theorem dX7_account_163 : decode cX7_account 163 = .ok (.iload_n 1, 1) := by decide +kernel
theorem dX7_account_164 : decode cX7_account 164 = .ok (.laload, 1) := by decide +kernel
theorem dX7_account_165 : decode cX7_account 165 = .ok (.goto 4, 3) := by decide +kernel
theorem dX7_account_168 : decode cX7_account 168 = .ok (.lload_n 2, 1) := by decide +kernel
theorem dX7_account_169 : decode cX7_account 169 = .ok (.lreturn, 1) := by decide +kernel
theorem dX7_of__0 : decode cX7_of_ 0 = .ok (.aload_n 0, 1) := by decide +kernel
theorem dX7_of__1 : decode cX7_of_ 1 = .ok (.getfield 10, 3) := by decide +kernel
theorem dX7_of__4 : decode cX7_of_ 4 = .ok (.iload_n 1, 1) := by decide +kernel
theorem dX7_of__5 : decode cX7_of_ 5 = .ok (.aaload, 1) := by decide +kernel
theorem dX7_of__6 : decode cX7_of_ 6 = .ok (.astore_n 3, 1) := by decide +kernel
theorem dX7_of__7 : decode cX7_of_ 7 = .ok (.iload_n 2, 1) := by decide +kernel
theorem dX7_of__8 : decode cX7_of_ 8 = .ok (.ifCond .ne 10, 3) := by decide +kernel
theorem dX7_of__11 : decode cX7_of_ 11 = .ok (.aload_n 3, 1) := by decide +kernel
theorem dX7_of__12 : decode cX7_of_ 12 = .ok (.getfield 104, 3) := by decide +kernel
theorem dX7_of__15 : decode cX7_of_ 15 = .ok (.goto 38, 3) := by decide +kernel
theorem dX7_of__18 : decode cX7_of_ 18 = .ok (.iload_n 2, 1) := by decide +kernel
theorem dX7_of__19 : decode cX7_of_ 19 = .ok (.iconst 1, 1) := by decide +kernel
theorem dX7_of__20 : decode cX7_of_ 20 = .ok (.if_icmp .ne 10, 3) := by decide +kernel
theorem dX7_of__23 : decode cX7_of_ 23 = .ok (.aload_n 3, 1) := by decide +kernel
theorem dX7_of__24 : decode cX7_of_ 24 = .ok (.getfield 67, 3) := by decide +kernel
theorem dX7_of__27 : decode cX7_of_ 27 = .ok (.goto 25, 3) := by decide +kernel
theorem dX7_of__30 : decode cX7_of_ 30 = .ok (.iload_n 2, 1) := by decide +kernel
theorem dX7_of__31 : decode cX7_of_ 31 = .ok (.iconst 2, 1) := by decide +kernel
theorem dX7_of__32 : decode cX7_of_ 32 = .ok (.if_icmp .ne 10, 3) := by decide +kernel
theorem dX7_of__35 : decode cX7_of_ 35 = .ok (.aload_n 3, 1) := by decide +kernel
theorem dX7_of__36 : decode cX7_of_ 36 = .ok (.getfield 87, 3) := by decide +kernel
theorem dX7_of__39 : decode cX7_of_ 39 = .ok (.goto 13, 3) := by decide +kernel
theorem dX7_of__42 : decode cX7_of_ 42 = .ok (.aload_n 3, 1) := by decide +kernel
theorem dX7_of__43 : decode cX7_of_ 43 = .ok (.getfield 87, 3) := by decide +kernel
theorem dX7_of__46 : decode cX7_of_ 46 = .ok (.aload_n 3, 1) := by decide +kernel
theorem dX7_of__47 : decode cX7_of_ 47 = .ok (.getfield 104, 3) := by decide +kernel
theorem dX7_of__50 : decode cX7_of_ 50 = .ok (.i2l, 1) := by decide +kernel
theorem dX7_of__51 : decode cX7_of_ 51 = .ok (.ldiv, 1) := by decide +kernel
theorem dX7_of__52 : decode cX7_of_ 52 = .ok (.l2i, 1) := by decide +kernel
theorem dX7_of__53 : decode cX7_of_ 53 = .ok (.ireturn, 1) := by decide +kernel
theorem dX7_ofSpring_0 : decode cX7_ofSpring 0 = .ok (.aload_n 0, 1) := by decide +kernel
theorem dX7_ofSpring_1 : decode cX7_ofSpring 1 = .ok (.getfield 19, 3) := by decide +kernel
theorem dX7_ofSpring_4 : decode cX7_ofSpring 4 = .ok (.iload_n 1, 1) := by decide +kernel
theorem dX7_ofSpring_5 : decode cX7_ofSpring 5 = .ok (.aaload, 1) := by decide +kernel
theorem dX7_ofSpring_6 : decode cX7_ofSpring 6 = .ok (.astore_n 3, 1) := by decide +kernel
theorem dX7_ofSpring_7 : decode cX7_ofSpring 7 = .ok (.iload_n 2, 1) := by decide +kernel
theorem dX7_ofSpring_8 : decode cX7_ofSpring 8 = .ok (.ifCond .ne 10, 3) := by decide +kernel
theorem dX7_ofSpring_11 : decode cX7_ofSpring 11 = .ok (.aload_n 3, 1) := by decide +kernel
theorem dX7_ofSpring_12 : decode cX7_ofSpring 12 = .ok (.getfield 75, 3) := by decide +kernel
theorem dX7_ofSpring_15 : decode cX7_ofSpring 15 = .ok (.goto 54, 3) := by decide +kernel
theorem dX7_ofSpring_18 : decode cX7_ofSpring 18 = .ok (.iload_n 2, 1) := by decide +kernel
