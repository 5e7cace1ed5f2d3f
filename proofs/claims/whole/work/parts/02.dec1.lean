theorem dX5_readPluck_39 : decode cX5_readPluck 39 = .ok (.ireturn, 1) := by decide +kernel
theorem dX5_readPluck_40 : decode cX5_readPluck 40 = .ok (.aload_n 0, 1) := by decide +kernel
theorem dX5_readPluck_41 : decode cX5_readPluck 41 = .ok (.getfield 79, 3) := by decide +kernel
theorem dX5_readPluck_44 : decode cX5_readPluck 44 = .ok (.istore_n 2, 1) := by decide +kernel
theorem dX5_readPluck_45 : decode cX5_readPluck 45 = .ok (.aload_n 0, 1) := by decide +kernel
theorem dX5_readPluck_46 : decode cX5_readPluck 46 = .ok (.sipush 10000, 3) := by decide +kernel
theorem dX5_readPluck_49 : decode cX5_readPluck 49 = .ok (.invokevirtual 162, 3) := by decide +kernel
theorem dX5_readPluck_52 : decode cX5_readPluck 52 = .ok (.ifCond .ne 5, 3) := by decide +kernel
theorem dX5_readPluck_55 : decode cX5_readPluck 55 = .ok (.iconst 0, 1) := by decide +kernel
theorem dX5_readPluck_56 : decode cX5_readPluck 56 = .ok (.ireturn, 1) := by decide +kernel
theorem dX5_readPluck_57 : decode cX5_readPluck 57 = .ok (.aload_n 0, 1) := by decide +kernel
theorem dX5_readPluck_58 : decode cX5_readPluck 58 = .ok (.getfield 35, 3) := by decide +kernel
theorem dX5_readPluck_61 : decode cX5_readPluck 61 = .ok (.iload_n 2, 1) := by decide +kernel
theorem dX5_readPluck_62 : decode cX5_readPluck 62 = .ok (.aload_n 0, 1) := by decide +kernel
theorem dX5_readPluck_63 : decode cX5_readPluck 63 = .ok (.getfield 79, 3) := by decide +kernel
theorem dX5_readPluck_66 : decode cX5_readPluck 66 = .ok (.invokevirtual 165, 3) := by decide +kernel
theorem dX5_readPluck_69 : decode cX5_readPluck 69 = .ok (.iconst 1, 1) := by decide +kernel
theorem dX5_readPluck_70 : decode cX5_readPluck 70 = .ok (.ireturn, 1) := by decide +kernel
theorem dX5_readStrike_0 : decode cX5_readStrike 0 = .ok (.aload_n 0, 1) := by decide +kernel
theorem dX5_readStrike_1 : decode cX5_readStrike 1 = .ok (.invokevirtual 63, 3) := by decide +kernel
theorem dX5_readStrike_4 : decode cX5_readStrike 4 = .ok (.aload_n 0, 1) := by decide +kernel
theorem dX5_readStrike_5 : decode cX5_readStrike 5 = .ok (.getfield 39, 3) := by decide +kernel
theorem dX5_readStrike_8 : decode cX5_readStrike 8 = .ok (.istore_n 1, 1) := by decide +kernel
theorem dX5_readStrike_9 : decode cX5_readStrike 9 = .ok (.aload_n 0, 1) := by decide +kernel
theorem dX5_readStrike_10 : decode cX5_readStrike 10 = .ok (.iconst 0, 1) := by decide +kernel
theorem dX5_readStrike_11 : decode cX5_readStrike 11 = .ok (.aload_n 0, 1) := by decide +kernel
theorem dX5_readStrike_12 : decode cX5_readStrike 12 = .ok (.getfield 35, 3) := by decide +kernel
theorem dX5_readStrike_15 : decode cX5_readStrike 15 = .ok (.getfield 134, 3) := by decide +kernel
theorem dX5_readStrike_18 : decode cX5_readStrike 18 = .ok (.iconst 1, 1) := by decide +kernel
theorem dX5_readStrike_19 : decode cX5_readStrike 19 = .ok (.isub, 1) := by decide +kernel
theorem dX5_readStrike_20 : decode cX5_readStrike 20 = .ok (.invokevirtual 76, 3) := by decide +kernel
theorem dX5_readStrike_23 : decode cX5_readStrike 23 = .ok (.ifCond .eq 15, 3) := by decide +kernel
theorem dX5_readStrike_26 : decode cX5_readStrike 26 = .ok (.aload_n 0, 1) := by decide +kernel
theorem dX5_readStrike_27 : decode cX5_readStrike 27 = .ok (.aload_n 0, 1) := by decide +kernel
theorem dX5_readStrike_28 : decode cX5_readStrike 28 = .ok (.getfield 15, 3) := by decide +kernel
theorem dX5_readStrike_31 : decode cX5_readStrike 31 = .ok (.iload_n 1, 1) := by decide +kernel
theorem dX5_readStrike_32 : decode cX5_readStrike 32 = .ok (.invokevirtual 158, 3) := by decide +kernel
theorem dX5_readStrike_35 : decode cX5_readStrike 35 = .ok (.ifCond .ne 5, 3) := by decide +kernel
theorem dX5_readStrike_38 : decode cX5_readStrike 38 = .ok (.iconst 0, 1) := by decide +kernel
theorem dX5_readStrike_39 : decode cX5_readStrike 39 = .ok (.ireturn, 1) := by decide +kernel
theorem dX5_readStrike_40 : decode cX5_readStrike 40 = .ok (.aload_n 0, 1) := by decide +kernel
theorem dX5_readStrike_41 : decode cX5_readStrike 41 = .ok (.getfield 79, 3) := by decide +kernel
theorem dX5_readStrike_44 : decode cX5_readStrike 44 = .ok (.istore_n 2, 1) := by decide +kernel
theorem dX5_readStrike_45 : decode cX5_readStrike 45 = .ok (.aload_n 0, 1) := by decide +kernel
theorem dX5_readStrike_46 : decode cX5_readStrike 46 = .ok (.ldc 168, 2) := by decide +kernel
theorem dX5_readStrike_48 : decode cX5_readStrike 48 = .ok (.invokevirtual 162, 3) := by decide +kernel
theorem dX5_readStrike_51 : decode cX5_readStrike 51 = .ok (.ifCond .ne 5, 3) := by decide +kernel
theorem dX5_readStrike_54 : decode cX5_readStrike 54 = .ok (.iconst 0, 1) := by decide +kernel
theorem dX5_readStrike_55 : decode cX5_readStrike 55 = .ok (.ireturn, 1) := by decide +kernel
theorem dX5_readStrike_56 : decode cX5_readStrike 56 = .ok (.aload_n 0, 1) := by decide +kernel
theorem dX5_readStrike_57 : decode cX5_readStrike 57 = .ok (.getfield 35, 3) := by decide +kernel
theorem dX5_readStrike_60 : decode cX5_readStrike 60 = .ok (.iload_n 2, 1) := by decide +kernel
theorem dX5_readStrike_61 : decode cX5_readStrike 61 = .ok (.aload_n 0, 1) := by decide +kernel
theorem dX5_readStrike_62 : decode cX5_readStrike 62 = .ok (.getfield 79, 3) := by decide +kernel
theorem dX5_readStrike_65 : decode cX5_readStrike 65 = .ok (.invokevirtual 169, 3) := by decide +kernel
theorem dX5_readStrike_68 : decode cX5_readStrike 68 = .ok (.iconst 1, 1) := by decide +kernel
theorem dX5_readStrike_69 : decode cX5_readStrike 69 = .ok (.ireturn, 1) := by decide +kernel
theorem dX5_readEnd_0 : decode cX5_readEnd 0 = .ok (.aload_n 0, 1) := by decide +kernel
theorem dX5_readEnd_1 : decode cX5_readEnd 1 = .ok (.ldc 172, 2) := by decide +kernel
theorem dX5_readEnd_3 : decode cX5_readEnd 3 = .ok (.invokevirtual 68, 3) := by decide +kernel
theorem dX5_readEnd_6 : decode cX5_readEnd 6 = .ok (.istore_n 1, 1) := by decide +kernel
theorem dX5_readEnd_7 : decode cX5_readEnd 7 = .ok (.iload_n 1, 1) := by decide +kernel
theorem dX5_readEnd_8 : decode cX5_readEnd 8 = .ok (.ifCond .ne 23, 3) := by decide +kernel
theorem dX5_readEnd_11 : decode cX5_readEnd 11 = .ok (.aload_n 0, 1) := by decide +kernel
theorem dX5_readEnd_12 : decode cX5_readEnd 12 = .ok (.ldc 174, 2) := by decide +kernel
theorem dX5_readEnd_14 : decode cX5_readEnd 14 = .ok (.invokevirtual 68, 3) := by decide +kernel
theorem dX5_readEnd_17 : decode cX5_readEnd 17 = .ok (.ifCond .ne 14, 3) := by decide +kernel
theorem dX5_readEnd_20 : decode cX5_readEnd 20 = .ok (.aload_n 0, 1) := by decide +kernel
theorem dX5_readEnd_21 : decode cX5_readEnd 21 = .ok (.bipush (-2), 2) := by decide +kernel
theorem dX5_readEnd_23 : decode cX5_readEnd 23 = .ok (.aload_n 0, 1) := by decide +kernel
theorem dX5_readEnd_24 : decode cX5_readEnd 24 = .ok (.getfield 39, 3) := by decide +kernel
theorem dX5_readEnd_27 : decode cX5_readEnd 27 = .ok (.invokevirtual 72, 3) := by decide +kernel
theorem dX5_readEnd_30 : decode cX5_readEnd 30 = .ok (.ireturn, 1) := by decide +kernel
theorem dX5_readEnd_31 : decode cX5_readEnd 31 = .ok (.aload_n 0, 1) := by decide +kernel
theorem dX5_readEnd_32 : decode cX5_readEnd 32 = .ok (.ldc 168, 2) := by decide +kernel
theorem dX5_readEnd_34 : decode cX5_readEnd 34 = .ok (.invokevirtual 162, 3) := by decide +kernel
theorem dX5_readEnd_37 : decode cX5_readEnd 37 = .ok (.ifCond .ne 5, 3) := by decide +kernel
theorem dX5_readEnd_40 : decode cX5_readEnd 40 = .ok (.iconst 0, 1) := by decide +kernel
theorem dX5_readEnd_41 : decode cX5_readEnd 41 = .ok (.ireturn, 1) := by decide +kernel
theorem dX5_readEnd_42 : decode cX5_readEnd 42 = .ok (.aload_n 0, 1) := by decide +kernel
theorem dX5_readEnd_43 : decode cX5_readEnd 43 = .ok (.getfield 35, 3) := by decide +kernel
theorem dX5_readEnd_46 : decode cX5_readEnd 46 = .ok (.iload_n 1, 1) := by decide +kernel
theorem dX5_readEnd_47 : decode cX5_readEnd 47 = .ok (.aload_n 0, 1) := by decide +kernel
theorem dX5_readEnd_48 : decode cX5_readEnd 48 = .ok (.getfield 79, 3) := by decide +kernel
theorem dX5_readEnd_51 : decode cX5_readEnd 51 = .ok (.invokevirtual 176, 3) := by decide +kernel
theorem dX5_readEnd_54 : decode cX5_readEnd 54 = .ok (.iconst 1, 1) := by decide +kernel
theorem dX5_readEnd_55 : decode cX5_readEnd 55 = .ok (.ireturn, 1) := by decide +kernel
theorem dX5_readImpulse_0 : decode cX5_readImpulse 0 = .ok (.aload_n 0, 1) := by decide +kernel
theorem dX5_readImpulse_1 : decode cX5_readImpulse 1 = .ok (.getfield 35, 3) := by decide +kernel
theorem dX5_readImpulse_4 : decode cX5_readImpulse 4 = .ok (.getfield 180, 3) := by decide +kernel
theorem dX5_readImpulse_7 : decode cX5_readImpulse 7 = .ok (.getfield 184, 3) := by decide +kernel
theorem dX5_readImpulse_10 : decode cX5_readImpulse 10 = .ok (.bipush 16, 2) := by decide +kernel
theorem dX5_readImpulse_12 : decode cX5_readImpulse 12 = .ok (.if_icmp .lt 11, 3) := by decide +kernel
theorem dX5_readImpulse_15 : decode cX5_readImpulse 15 = .ok (.aload_n 0, 1) := by decide +kernel
theorem dX5_readImpulse_16 : decode cX5_readImpulse 16 = .ok (.bipush (-5), 2) := by decide +kernel
theorem dX5_readImpulse_18 : decode cX5_readImpulse 18 = .ok (.iload_n 1, 1) := by decide +kernel
theorem dX5_readImpulse_19 : decode cX5_readImpulse 19 = .ok (.invokevirtual 72, 3) := by decide +kernel
theorem dX5_readImpulse_22 : decode cX5_readImpulse 22 = .ok (.ireturn, 1) := by decide +kernel
theorem dX5_readImpulse_23 : decode cX5_readImpulse 23 = .ok (.aload_n 0, 1) := by decide +kernel
theorem dX5_readImpulse_24 : decode cX5_readImpulse 24 = .ok (.iconst 0, 1) := by decide +kernel
theorem dX5_readImpulse_25 : decode cX5_readImpulse 25 = .ok (.sipush 9999, 3) := by decide +kernel
theorem dX5_readImpulse_28 : decode cX5_readImpulse 28 = .ok (.invokevirtual 76, 3) := by decide +kernel
theorem dX5_readImpulse_31 : decode cX5_readImpulse 31 = .ok (.ifCond .ne 5, 3) := by decide +kernel
theorem dX5_readImpulse_34 : decode cX5_readImpulse 34 = .ok (.iconst 0, 1) := by decide +kernel
theorem dX5_readImpulse_35 : decode cX5_readImpulse 35 = .ok (.ireturn, 1) := by decide +kernel
theorem dX5_readImpulse_36 : decode cX5_readImpulse 36 = .ok (.aload_n 0, 1) := by decide +kernel
theorem dX5_readImpulse_37 : decode cX5_readImpulse 37 = .ok (.getfield 79, 3) := by decide +kernel
theorem dX5_readImpulse_40 : decode cX5_readImpulse 40 = .ok (.istore_n 2, 1) := by decide +kernel
theorem dX5_readImpulse_41 : decode cX5_readImpulse 41 = .ok (.aload_n 0, 1) := by decide +kernel
theorem dX5_readImpulse_42 : decode cX5_readImpulse 42 = .ok (.iconst 0, 1) := by decide +kernel
theorem dX5_readImpulse_43 : decode cX5_readImpulse 43 = .ok (.aload_n 0, 1) := by decide +kernel
theorem dX5_readImpulse_44 : decode cX5_readImpulse 44 = .ok (.getfield 35, 3) := by decide +kernel
theorem dX5_readImpulse_47 : decode cX5_readImpulse 47 = .ok (.getfield 134, 3) := by decide +kernel
theorem dX5_readImpulse_50 : decode cX5_readImpulse 50 = .ok (.iconst 1, 1) := by decide +kernel
theorem dX5_readImpulse_51 : decode cX5_readImpulse 51 = .ok (.isub, 1) := by decide +kernel
theorem dX5_readImpulse_52 : decode cX5_readImpulse 52 = .ok (.invokevirtual 76, 3) := by decide +kernel
theorem dX5_readImpulse_55 : decode cX5_readImpulse 55 = .ok (.ifCond .ne 5, 3) := by decide +kernel
theorem dX5_readImpulse_58 : decode cX5_readImpulse 58 = .ok (.iconst 0, 1) := by decide +kernel
theorem dX5_readImpulse_59 : decode cX5_readImpulse 59 = .ok (.ireturn, 1) := by decide +kernel
theorem dX5_readImpulse_60 : decode cX5_readImpulse 60 = .ok (.aload_n 0, 1) := by decide +kernel
theorem dX5_readImpulse_61 : decode cX5_readImpulse 61 = .ok (.getfield 79, 3) := by decide +kernel
theorem dX5_readImpulse_64 : decode cX5_readImpulse 64 = .ok (.istore_n 3, 1) := by decide +kernel
theorem dX5_readImpulse_65 : decode cX5_readImpulse 65 = .ok (.aload_n 0, 1) := by decide +kernel
theorem dX5_readImpulse_66 : decode cX5_readImpulse 66 = .ok (.invokevirtual 63, 3) := by decide +kernel
theorem dX5_readImpulse_69 : decode cX5_readImpulse 69 = .ok (.aload_n 0, 1) := by decide +kernel
theorem dX5_readImpulse_70 : decode cX5_readImpulse 70 = .ok (.getfield 39, 3) := by decide +kernel
theorem dX5_readImpulse_73 : decode cX5_readImpulse 73 = .ok (.istore 4, 2) := by decide +kernel
theorem dX5_readImpulse_75 : decode cX5_readImpulse 75 = .ok (.aload_n 0, 1) := by decide +kernel
theorem dX5_readImpulse_76 : decode cX5_readImpulse 76 = .ok (.sipush 9999, 3) := by decide +kernel
theorem dX5_readImpulse_79 : decode cX5_readImpulse 79 = .ok (.invokevirtual 162, 3) := by decide +kernel
theorem dX5_readImpulse_82 : decode cX5_readImpulse 82 = .ok (.ifCond .ne 5, 3) := by decide +kernel
theorem dX5_readImpulse_85 : decode cX5_readImpulse 85 = .ok (.iconst 0, 1) := by decide +kernel
theorem dX5_readImpulse_86 : decode cX5_readImpulse 86 = .ok (.ireturn, 1) := by decide +kernel
theorem dX5_readImpulse_87 : decode cX5_readImpulse 87 = .ok (.aload_n 0, 1) := by decide +kernel
theorem dX5_readImpulse_88 : decode cX5_readImpulse 88 = .ok (.getfield 79, 3) := by decide +kernel
theorem dX5_readImpulse_91 : decode cX5_readImpulse 91 = .ok (.ifCond .ne 12, 3) := by decide +kernel
theorem dX5_readImpulse_94 : decode cX5_readImpulse 94 = .ok (.aload_n 0, 1) := by decide +kernel
theorem dX5_readImpulse_95 : decode cX5_readImpulse 95 = .ok (.bipush (-3), 2) := by decide +kernel
theorem dX5_readImpulse_97 : decode cX5_readImpulse 97 = .ok (.iload 4, 2) := by decide +kernel
theorem dX5_readImpulse_99 : decode cX5_readImpulse 99 = .ok (.invokevirtual 72, 3) := by decide +kernel
theorem dX5_readImpulse_102 : decode cX5_readImpulse 102 = .ok (.ireturn, 1) := by decide +kernel
theorem dX5_readImpulse_103 : decode cX5_readImpulse 103 = .ok (.aload_n 0, 1) := by decide +kernel
theorem dX5_readImpulse_104 : decode cX5_readImpulse 104 = .ok (.getfield 35, 3) := by decide +kernel
theorem dX5_readImpulse_107 : decode cX5_readImpulse 107 = .ok (.getfield 180, 3) := by decide +kernel
theorem dX5_readImpulse_110 : decode cX5_readImpulse 110 = .ok (.iload_n 2, 1) := by decide +kernel
theorem dX5_readImpulse_111 : decode cX5_readImpulse 111 = .ok (.iload_n 3, 1) := by decide +kernel
theorem dX5_readImpulse_112 : decode cX5_readImpulse 112 = .ok (.aload_n 0, 1) := by decide +kernel
theorem dX5_readImpulse_113 : decode cX5_readImpulse 113 = .ok (.getfield 79, 3) := by decide +kernel
theorem dX5_readImpulse_116 : decode cX5_readImpulse 116 = .ok (.invokevirtual 189, 3) := by decide +kernel
theorem dX5_readImpulse_119 : decode cX5_readImpulse 119 = .ok (.iconst 1, 1) := by decide +kernel
theorem dX5_readImpulse_120 : decode cX5_readImpulse 120 = .ok (.ireturn, 1) := by decide +kernel
theorem dX5_isFirst_0 : decode cX5_isFirst 0 = .ok (.aload_n 0, 1) := by decide +kernel
theorem dX5_isFirst_1 : decode cX5_isFirst 1 = .ok (.getfield 79, 3) := by decide +kernel
theorem dX5_isFirst_4 : decode cX5_isFirst 4 = .ok (.ifCond .lt 12, 3) := by decide +kernel
theorem dX5_isFirst_7 : decode cX5_isFirst 7 = .ok (.aload_n 0, 1) := by decide +kernel
theorem dX5_isFirst_8 : decode cX5_isFirst 8 = .ok (.getfield 79, 3) := by decide +kernel
theorem dX5_isFirst_11 : decode cX5_isFirst 11 = .ok (.aload_n 1, 1) := by decide +kernel
theorem dX5_isFirst_12 : decode cX5_isFirst 12 = .ok (.arraylength, 1) := by decide +kernel
theorem dX5_isFirst_13 : decode cX5_isFirst 13 = .ok (.if_icmp .lt 5, 3) := by decide +kernel
theorem dX5_isFirst_16 : decode cX5_isFirst 16 = .ok (.iconst 0, 1) := by decide +kernel
theorem dX5_isFirst_17 : decode cX5_isFirst 17 = .ok (.ireturn, 1) := by decide +kernel
theorem dX5_isFirst_18 : decode cX5_isFirst 18 = .ok (.aload_n 1, 1) := by decide +kernel
theorem dX5_isFirst_19 : decode cX5_isFirst 19 = .ok (.aload_n 0, 1) := by decide +kernel
theorem dX5_isFirst_20 : decode cX5_isFirst 20 = .ok (.getfield 79, 3) := by decide +kernel
theorem dX5_isFirst_23 : decode cX5_isFirst 23 = .ok (.baload, 1) := by decide +kernel
theorem dX5_isFirst_24 : decode cX5_isFirst 24 = .ok (.ifCond .eq 11, 3) := by decide +kernel
theorem dX5_isFirst_27 : decode cX5_isFirst 27 = .ok (.aload_n 0, 1) := by decide +kernel
theorem dX5_isFirst_28 : decode cX5_isFirst 28 = .ok (.bipush (-4), 2) := by decide +kernel
theorem dX5_isFirst_30 : decode cX5_isFirst 30 = .ok (.iload_n 2, 1) := by decide +kernel
theorem dX5_isFirst_31 : decode cX5_isFirst 31 = .ok (.invokevirtual 72, 3) := by decide +kernel
theorem dX5_isFirst_34 : decode cX5_isFirst 34 = .ok (.ireturn, 1) := by decide +kernel
theorem dX5_isFirst_35 : decode cX5_isFirst 35 = .ok (.aload_n 1, 1) := by decide +kernel
theorem dX5_isFirst_36 : decode cX5_isFirst 36 = .ok (.aload_n 0, 1) := by decide +kernel
theorem dX5_isFirst_37 : decode cX5_isFirst 37 = .ok (.getfield 79, 3) := by decide +kernel
theorem dX5_isFirst_40 : decode cX5_isFirst 40 = .ok (.iconst 1, 1) := by decide +kernel
theorem dX5_isFirst_41 : decode cX5_isFirst 41 = .ok (.bastore, 1) := by decide +kernel
theorem dX5_isFirst_42 : decode cX5_isFirst 42 = .ok (.iconst 1, 1) := by decide +kernel
theorem dX5_isFirst_43 : decode cX5_isFirst 43 = .ok (.ireturn, 1) := by decide +kernel
theorem dX5_readNumber_0 : decode cX5_readNumber 0 = .ok (.aload_n 0, 1) := by decide +kernel
theorem dX5_readNumber_1 : decode cX5_readNumber 1 = .ok (.invokevirtual 63, 3) := by decide +kernel
theorem dX5_readNumber_4 : decode cX5_readNumber 4 = .ok (.aload_n 0, 1) := by decide +kernel
theorem dX5_readNumber_5 : decode cX5_readNumber 5 = .ok (.getfield 39, 3) := by decide +kernel
theorem dX5_readNumber_8 : decode cX5_readNumber 8 = .ok (.istore_n 3, 1) := by decide +kernel
theorem dX5_readNumber_9 : decode cX5_readNumber 9 = .ok (.aload_n 0, 1) := by decide +kernel
theorem dX5_readNumber_10 : decode cX5_readNumber 10 = .ok (.invokevirtual 193, 3) := by decide +kernel
theorem dX5_readNumber_13 : decode cX5_readNumber 13 = .ok (.ifCond .eq 17, 3) := by decide +kernel
theorem dX5_readNumber_16 : decode cX5_readNumber 16 = .ok (.aload_n 0, 1) := by decide +kernel
theorem dX5_readNumber_17 : decode cX5_readNumber 17 = .ok (.iload_n 1, 1) := by decide +kernel
theorem dX5_readNumber_18 : decode cX5_readNumber 18 = .ok (.iload_n 2, 1) := by decide +kernel
theorem dX5_readNumber_19 : decode cX5_readNumber 19 = .ok (.iload_n 3, 1) := by decide +kernel
theorem dX5_readNumber_20 : decode cX5_readNumber 20 = .ok (.invokevirtual 196, 3) := by decide +kernel
theorem dX5_readNumber_23 : decode cX5_readNumber 23 = .ok (.ifCond .eq 7, 3) := by decide +kernel
theorem dX5_readNumber_26 : decode cX5_readNumber 26 = .ok (.iconst 1, 1) := by decide +kernel
theorem dX5_readNumber_27 : decode cX5_readNumber 27 = .ok (.goto 4, 3) := by decide +kernel
theorem dX5_readNumber_30 : decode cX5_readNumber 30 = .ok (.iconst 0, 1) := by decide +kernel
theorem dX5_readNumber_31 : decode cX5_readNumber 31 = .ok (.ireturn, 1) := by decide +kernel
theorem dX5_readSigned_0 : decode cX5_readSigned 0 = .ok (.aload_n 0, 1) := by decide +kernel
theorem dX5_readSigned_1 : decode cX5_readSigned 1 = .ok (.invokevirtual 63, 3) := by decide +kernel
theorem dX5_readSigned_4 : decode cX5_readSigned 4 = .ok (.aload_n 0, 1) := by decide +kernel
theorem dX5_readSigned_5 : decode cX5_readSigned 5 = .ok (.getfield 39, 3) := by decide +kernel
theorem dX5_readSigned_8 : decode cX5_readSigned 8 = .ok (.istore_n 2, 1) := by decide +kernel
theorem dX5_readSigned_9 : decode cX5_readSigned 9 = .ok (.aload_n 0, 1) := by decide +kernel
theorem dX5_readSigned_10 : decode cX5_readSigned 10 = .ok (.aload_n 0, 1) := by decide +kernel
theorem dX5_readSigned_11 : decode cX5_readSigned 11 = .ok (.getfield 39, 3) := by decide +kernel
theorem dX5_readSigned_14 : decode cX5_readSigned 14 = .ok (.invokevirtual 200, 3) := by decide +kernel
theorem dX5_readSigned_17 : decode cX5_readSigned 17 = .ok (.bipush 45, 2) := by decide +kernel
theorem dX5_readSigned_19 : decode cX5_readSigned 19 = .ok (.if_icmp .ne 7, 3) := by decide +kernel
theorem dX5_readSigned_22 : decode cX5_readSigned 22 = .ok (.iconst 1, 1) := by decide +kernel
theorem dX5_readSigned_23 : decode cX5_readSigned 23 = .ok (.goto 4, 3) := by decide +kernel
theorem dX5_readSigned_26 : decode cX5_readSigned 26 = .ok (.iconst 0, 1) := by decide +kernel
theorem dX5_readSigned_27 : decode cX5_readSigned 27 = .ok (.istore_n 3, 1) := by decide +kernel
theorem dX5_readSigned_28 : decode cX5_readSigned 28 = .ok (.iload_n 3, 1) := by decide +kernel
theorem dX5_readSigned_29 : decode cX5_readSigned 29 = .ok (.ifCond .eq 17, 3) := by decide +kernel
theorem dX5_readSigned_32 : decode cX5_readSigned 32 = .ok (.aload_n 0, 1) := by decide +kernel
theorem dX5_readSigned_33 : decode cX5_readSigned 33 = .ok (.dup, 1) := by decide +kernel
theorem dX5_readSigned_34 : decode cX5_readSigned 34 = .ok (.getfield 39, 3) := by decide +kernel
theorem dX5_readSigned_37 : decode cX5_readSigned 37 = .ok (.iconst 1, 1) := by decide +kernel
theorem dX5_readSigned_38 : decode cX5_readSigned 38 = .ok (.iadd, 1) := by decide +kernel
theorem dX5_readSigned_39 : decode cX5_readSigned 39 = .ok (.putfield 39, 3) := by decide +kernel
theorem dX5_readSigned_42 : decode cX5_readSigned 42 = .ok (.aload_n 0, 1) := by decide +kernel
theorem dX5_readSigned_43 : decode cX5_readSigned 43 = .ok (.invokevirtual 63, 3) := by decide +kernel
theorem dX5_readSigned_46 : decode cX5_readSigned 46 = .ok (.aload_n 0, 1) := by decide +kernel
theorem dX5_readSigned_47 : decode cX5_readSigned 47 = .ok (.invokevirtual 193, 3) := by decide +kernel
theorem dX5_readSigned_50 : decode cX5_readSigned 50 = .ok (.ifCond .ne 5, 3) := by decide +kernel
theorem dX5_readSigned_53 : decode cX5_readSigned 53 = .ok (.iconst 0, 1) := by decide +kernel
theorem dX5_readSigned_54 : decode cX5_readSigned 54 = .ok (.ireturn, 1) := by decide +kernel
theorem dX5_readSigned_55 : decode cX5_readSigned 55 = .ok (.iload_n 3, 1) := by decide +kernel
theorem dX5_readSigned_56 : decode cX5_readSigned 56 = .ok (.ifCond .eq 12, 3) := by decide +kernel
theorem dX5_readSigned_59 : decode cX5_readSigned 59 = .ok (.aload_n 0, 1) := by decide +kernel
theorem dX5_readSigned_60 : decode cX5_readSigned 60 = .ok (.aload_n 0, 1) := by decide +kernel
theorem dX5_readSigned_61 : decode cX5_readSigned 61 = .ok (.getfield 79, 3) := by decide +kernel
theorem dX5_readSigned_64 : decode cX5_readSigned 64 = .ok (.ineg, 1) := by decide +kernel
theorem dX5_readSigned_65 : decode cX5_readSigned 65 = .ok (.putfield 79, 3) := by decide +kernel
theorem dX5_readSigned_68 : decode cX5_readSigned 68 = .ok (.aload_n 0, 1) := by decide +kernel
theorem dX5_readSigned_69 : decode cX5_readSigned 69 = .ok (.iload_n 1, 1) := by decide +kernel
theorem dX5_readSigned_70 : decode cX5_readSigned 70 = .ok (.ineg, 1) := by decide +kernel
theorem dX5_readSigned_71 : decode cX5_readSigned 71 = .ok (.iload_n 1, 1) := by decide +kernel
theorem dX5_readSigned_72 : decode cX5_readSigned 72 = .ok (.iload_n 2, 1) := by decide +kernel
theorem dX5_readSigned_73 : decode cX5_readSigned 73 = .ok (.invokevirtual 196, 3) := by decide +kernel
theorem dX5_readSigned_76 : decode cX5_readSigned 76 = .ok (.ireturn, 1) := by decide +kernel
theorem dX5_checkRange_0 : decode cX5_checkRange 0 = .ok (.aload_n 0, 1) := by decide +kernel
theorem dX5_checkRange_1 : decode cX5_checkRange 1 = .ok (.getfield 79, 3) := by decide +kernel
theorem dX5_checkRange_4 : decode cX5_checkRange 4 = .ok (.iload_n 1, 1) := by decide +kernel
theorem dX5_checkRange_5 : decode cX5_checkRange 5 = .ok (.if_icmp .lt 11, 3) := by decide +kernel
theorem dX5_checkRange_8 : decode cX5_checkRange 8 = .ok (.aload_n 0, 1) := by decide +kernel
theorem dX5_checkRange_9 : decode cX5_checkRange 9 = .ok (.getfield 79, 3) := by decide +kernel
theorem dX5_checkRange_12 : decode cX5_checkRange 12 = .ok (.iload_n 2, 1) := by decide +kernel
theorem dX5_checkRange_13 : decode cX5_checkRange 13 = .ok (.if_icmp .le 13, 3) := by decide +kernel
theorem dX5_checkRange_16 : decode cX5_checkRange 16 = .ok (.aload_n 0, 1) := by decide +kernel
theorem dX5_checkRange_17 : decode cX5_checkRange 17 = .ok (.bipush (-3), 2) := by decide +kernel
theorem dX5_checkRange_19 : decode cX5_checkRange 19 = .ok (.iload_n 3, 1) := by decide +kernel
theorem dX5_checkRange_20 : decode cX5_checkRange 20 = .ok (.invokevirtual 72, 3) := by decide +kernel
theorem dX5_checkRange_23 : decode cX5_checkRange 23 = .ok (.ifCond .eq 7, 3) := by decide +kernel
theorem dX5_checkRange_26 : decode cX5_checkRange 26 = .ok (.iconst 1, 1) := by decide +kernel
theorem dX5_checkRange_27 : decode cX5_checkRange 27 = .ok (.goto 4, 3) := by decide +kernel
theorem dX5_checkRange_30 : decode cX5_checkRange 30 = .ok (.iconst 0, 1) := by decide +kernel
theorem dX5_checkRange_31 : decode cX5_checkRange 31 = .ok (.ireturn, 1) := by decide +kernel
theorem dX5_readDigits_0 : decode cX5_readDigits 0 = .ok (.aload_n 0, 1) := by decide +kernel
theorem dX5_readDigits_1 : decode cX5_readDigits 1 = .ok (.getfield 39, 3) := by decide +kernel
theorem dX5_readDigits_4 : decode cX5_readDigits 4 = .ok (.istore_n 1, 1) := by decide +kernel
theorem dX5_readDigits_5 : decode cX5_readDigits 5 = .ok (.aload_n 0, 1) := by decide +kernel
theorem dX5_readDigits_6 : decode cX5_readDigits 6 = .ok (.iconst 0, 1) := by decide +kernel
theorem dX5_readDigits_7 : decode cX5_readDigits 7 = .ok (.putfield 79, 3) := by decide +kernel
theorem dX5_readDigits_10 : decode cX5_readDigits 10 = .ok (.aload_n 0, 1) := by decide +kernel
theorem dX5_readDigits_11 : decode cX5_readDigits 11 = .ok (.getfield 39, 3) := by decide +kernel
theorem dX5_readDigits_14 : decode cX5_readDigits 14 = .ok (.aload_n 0, 1) := by decide +kernel
theorem dX5_readDigits_15 : decode cX5_readDigits 15 = .ok (.getfield 32, 3) := by decide +kernel
theorem dX5_readDigits_18 : decode cX5_readDigits 18 = .ok (.if_icmp .ge 62, 3) := by decide +kernel
theorem dX5_readDigits_21 : decode cX5_readDigits 21 = .ok (.aload_n 0, 1) := by decide +kernel
theorem dX5_readDigits_22 : decode cX5_readDigits 22 = .ok (.aload_n 0, 1) := by decide +kernel
theorem dX5_readDigits_23 : decode cX5_readDigits 23 = .ok (.getfield 39, 3) := by decide +kernel
theorem dX5_readDigits_26 : decode cX5_readDigits 26 = .ok (.invokevirtual 200, 3) := by decide +kernel
theorem dX5_readDigits_29 : decode cX5_readDigits 29 = .ok (.invokestatic 204, 3) := by decide +kernel
theorem dX5_readDigits_32 : decode cX5_readDigits 32 = .ok (.ifCond .eq 48, 3) := by decide +kernel
theorem dX5_readDigits_35 : decode cX5_readDigits 35 = .ok (.aload_n 0, 1) := by decide +kernel
theorem dX5_readDigits_36 : decode cX5_readDigits 36 = .ok (.getfield 79, 3) := by decide +kernel
theorem dX5_readDigits_39 : decode cX5_readDigits 39 = .ok (.ldc 207, 2) := by decide +kernel
theorem dX5_readDigits_41 : decode cX5_readDigits 41 = .ok (.if_icmp .ge 26, 3) := by decide +kernel
theorem dX5_readDigits_44 : decode cX5_readDigits 44 = .ok (.aload_n 0, 1) := by decide +kernel
theorem dX5_readDigits_45 : decode cX5_readDigits 45 = .ok (.bipush 10, 2) := by decide +kernel
theorem dX5_readDigits_47 : decode cX5_readDigits 47 = .ok (.aload_n 0, 1) := by decide +kernel
theorem dX5_readDigits_48 : decode cX5_readDigits 48 = .ok (.getfield 79, 3) := by decide +kernel
theorem dX5_readDigits_51 : decode cX5_readDigits 51 = .ok (.imul, 1) := by decide +kernel
theorem dX5_readDigits_52 : decode cX5_readDigits 52 = .ok (.aload_n 0, 1) := by decide +kernel
theorem dX5_readDigits_53 : decode cX5_readDigits 53 = .ok (.aload_n 0, 1) := by decide +kernel
theorem dX5_readDigits_54 : decode cX5_readDigits 54 = .ok (.getfield 39, 3) := by decide +kernel
theorem dX5_readDigits_57 : decode cX5_readDigits 57 = .ok (.invokevirtual 200, 3) := by decide +kernel
theorem dX5_readDigits_60 : decode cX5_readDigits 60 = .ok (.bipush 48, 2) := by decide +kernel
theorem dX5_readDigits_62 : decode cX5_readDigits 62 = .ok (.isub, 1) := by decide +kernel
theorem dX5_readDigits_63 : decode cX5_readDigits 63 = .ok (.iadd, 1) := by decide +kernel
theorem dX5_readDigits_64 : decode cX5_readDigits 64 = .ok (.putfield 79, 3) := by decide +kernel
theorem dX5_readDigits_67 : decode cX5_readDigits 67 = .ok (.aload_n 0, 1) := by decide +kernel
theorem dX5_readDigits_68 : decode cX5_readDigits 68 = .ok (.dup, 1) := by decide +kernel
theorem dX5_readDigits_69 : decode cX5_readDigits 69 = .ok (.getfield 39, 3) := by decide +kernel
theorem dX5_readDigits_72 : decode cX5_readDigits 72 = .ok (.iconst 1, 1) := by decide +kernel
theorem dX5_readDigits_73 : decode cX5_readDigits 73 = .ok (.iadd, 1) := by decide +kernel
theorem dX5_readDigits_74 : decode cX5_readDigits 74 = .ok (.putfield 39, 3) := by decide +kernel
theorem dX5_readDigits_77 : decode cX5_readDigits 77 = .ok (.goto (-67), 3) := by decide +kernel
theorem dX5_readDigits_80 : decode cX5_readDigits 80 = .ok (.aload_n 0, 1) := by decide +kernel
theorem dX5_readDigits_81 : decode cX5_readDigits 81 = .ok (.getfield 39, 3) := by decide +kernel
theorem dX5_readDigits_84 : decode cX5_readDigits 84 = .ok (.iload_n 1, 1) := by decide +kernel
theorem dX5_readDigits_85 : decode cX5_readDigits 85 = .ok (.if_icmp .gt 13, 3) := by decide +kernel
theorem dX5_readDigits_88 : decode cX5_readDigits 88 = .ok (.aload_n 0, 1) := by decide +kernel
theorem dX5_readDigits_89 : decode cX5_readDigits 89 = .ok (.bipush (-2), 2) := by decide +kernel
theorem dX5_readDigits_91 : decode cX5_readDigits 91 = .ok (.iload_n 1, 1) := by decide +kernel
theorem dX5_readDigits_92 : decode cX5_readDigits 92 = .ok (.invokevirtual 72, 3) := by decide +kernel
theorem dX5_readDigits_95 : decode cX5_readDigits 95 = .ok (.ifCond .eq 7, 3) := by decide +kernel
theorem dX5_readDigits_98 : decode cX5_readDigits 98 = .ok (.iconst 1, 1) := by decide +kernel
theorem dX5_readDigits_99 : decode cX5_readDigits 99 = .ok (.goto 4, 3) := by decide +kernel
theorem dX5_readDigits_102 : decode cX5_readDigits 102 = .ok (.iconst 0, 1) := by decide +kernel
theorem dX5_readDigits_103 : decode cX5_readDigits 103 = .ok (.ireturn, 1) := by decide +kernel
theorem dX5_readSign_0 : decode cX5_readSign 0 = .ok (.aload_n 0, 1) := by decide +kernel
theorem dX5_readSign_1 : decode cX5_readSign 1 = .ok (.invokevirtual 63, 3) := by decide +kernel
theorem dX5_readSign_4 : decode cX5_readSign 4 = .ok (.aload_n 0, 1) := by decide +kernel
theorem dX5_readSign_5 : decode cX5_readSign 5 = .ok (.aload_n 0, 1) := by decide +kernel
theorem dX5_readSign_6 : decode cX5_readSign 6 = .ok (.getfield 39, 3) := by decide +kernel
theorem dX5_readSign_9 : decode cX5_readSign 9 = .ok (.invokevirtual 200, 3) := by decide +kernel
theorem dX5_readSign_12 : decode cX5_readSign 12 = .ok (.iload_n 1, 1) := by decide +kernel
theorem dX5_readSign_13 : decode cX5_readSign 13 = .ok (.if_icmp .eq 14, 3) := by decide +kernel
theorem dX5_readSign_16 : decode cX5_readSign 16 = .ok (.aload_n 0, 1) := by decide +kernel
theorem dX5_readSign_17 : decode cX5_readSign 17 = .ok (.bipush (-2), 2) := by decide +kernel
theorem dX5_readSign_19 : decode cX5_readSign 19 = .ok (.aload_n 0, 1) := by decide +kernel
theorem dX5_readSign_20 : decode cX5_readSign 20 = .ok (.getfield 39, 3) := by decide +kernel
theorem dX5_readSign_23 : decode cX5_readSign 23 = .ok (.invokevirtual 72, 3) := by decide +kernel
theorem dX5_readSign_26 : decode cX5_readSign 26 = .ok (.ireturn, 1) := by decide +kernel
theorem dX5_readSign_27 : decode cX5_readSign 27 = .ok (.aload_n 0, 1) := by decide +kernel
theorem dX5_readSign_28 : decode cX5_readSign 28 = .ok (.dup, 1) := by decide +kernel
theorem dX5_readSign_29 : decode cX5_readSign 29 = .ok (.getfield 39, 3) := by decide +kernel
theorem dX5_readSign_32 : decode cX5_readSign 32 = .ok (.iconst 1, 1) := by decide +kernel
theorem dX5_readSign_33 : decode cX5_readSign 33 = .ok (.iadd, 1) := by decide +kernel
theorem dX5_readSign_34 : decode cX5_readSign 34 = .ok (.putfield 39, 3) := by decide +kernel
theorem dX5_readSign_37 : decode cX5_readSign 37 = .ok (.iconst 1, 1) := by decide +kernel
theorem dX5_readSign_38 : decode cX5_readSign 38 = .ok (.ireturn, 1) := by decide +kernel
theorem dX5_takeWord_0 : decode cX5_takeWord 0 = .ok (.aload_n 0, 1) := by decide +kernel
theorem dX5_takeWord_1 : decode cX5_takeWord 1 = .ok (.invokevirtual 63, 3) := by decide +kernel
theorem dX5_takeWord_4 : decode cX5_takeWord 4 = .ok (.iconst 0, 1) := by decide +kernel
theorem dX5_takeWord_5 : decode cX5_takeWord 5 = .ok (.istore_n 2, 1) := by decide +kernel
theorem dX5_takeWord_6 : decode cX5_takeWord 6 = .ok (.iload_n 2, 1) := by decide +kernel
theorem dX5_takeWord_7 : decode cX5_takeWord 7 = .ok (.aload_n 1, 1) := by decide +kernel
theorem dX5_takeWord_8 : decode cX5_takeWord 8 = .ok (.invokevirtual 208, 3) := by decide +kernel
theorem dX5_takeWord_11 : decode cX5_takeWord 11 = .ok (.if_icmp .ge 29, 3) := by decide +kernel
theorem dX5_takeWord_14 : decode cX5_takeWord 14 = .ok (.aload_n 0, 1) := by decide +kernel
theorem dX5_takeWord_15 : decode cX5_takeWord 15 = .ok (.aload_n 0, 1) := by decide +kernel
theorem dX5_takeWord_16 : decode cX5_takeWord 16 = .ok (.getfield 39, 3) := by decide +kernel
theorem dX5_takeWord_19 : decode cX5_takeWord 19 = .ok (.iload_n 2, 1) := by decide +kernel
theorem dX5_takeWord_20 : decode cX5_takeWord 20 = .ok (.iadd, 1) := by decide +kernel
theorem dX5_takeWord_21 : decode cX5_takeWord 21 = .ok (.invokevirtual 200, 3) := by decide +kernel
theorem dX5_takeWord_24 : decode cX5_takeWord 24 = .ok (.aload_n 1, 1) := by decide +kernel
theorem dX5_takeWord_25 : decode cX5_takeWord 25 = .ok (.iload_n 2, 1) := by decide +kernel
theorem dX5_takeWord_26 : decode cX5_takeWord 26 = .ok (.invokevirtual 213, 3) := by decide +kernel
theorem dX5_takeWord_29 : decode cX5_takeWord 29 = .ok (.if_icmp .eq 5, 3) := by decide +kernel
theorem dX5_takeWord_32 : decode cX5_takeWord 32 = .ok (.iconst 0, 1) := by decide +kernel
theorem dX5_takeWord_33 : decode cX5_takeWord 33 = .ok (.ireturn, 1) := by decide +kernel
theorem dX5_takeWord_34 : decode cX5_takeWord 34 = .ok (.iinc 2 1, 3) := by decide +kernel
theorem dX5_takeWord_37 : decode cX5_takeWord 37 = .ok (.goto (-31), 3) := by decide +kernel
theorem dX5_takeWord_40 : decode cX5_takeWord 40 = .ok (.aload_n 0, 1) := by decide +kernel
theorem dX5_takeWord_41 : decode cX5_takeWord 41 = .ok (.aload_n 0, 1) := by decide +kernel
theorem dX5_takeWord_42 : decode cX5_takeWord 42 = .ok (.getfield 39, 3) := by decide +kernel
theorem dX5_takeWord_45 : decode cX5_takeWord 45 = .ok (.aload_n 1, 1) := by decide +kernel
theorem dX5_takeWord_46 : decode cX5_takeWord 46 = .ok (.invokevirtual 208, 3) := by decide +kernel
theorem dX5_takeWord_49 : decode cX5_takeWord 49 = .ok (.iadd, 1) := by decide +kernel
theorem dX5_takeWord_50 : decode cX5_takeWord 50 = .ok (.invokevirtual 200, 3) := by decide +kernel
theorem dX5_takeWord_53 : decode cX5_takeWord 53 = .ok (.invokestatic 217, 3) := by decide +kernel
theorem dX5_takeWord_56 : decode cX5_takeWord 56 = .ok (.ifCond .eq 5, 3) := by decide +kernel
theorem dX5_takeWord_59 : decode cX5_takeWord 59 = .ok (.iconst 0, 1) := by decide +kernel
theorem dX5_takeWord_60 : decode cX5_takeWord 60 = .ok (.ireturn, 1) := by decide +kernel
theorem dX5_takeWord_61 : decode cX5_takeWord 61 = .ok (.aload_n 0, 1) := by decide +kernel
theorem dX5_takeWord_62 : decode cX5_takeWord 62 = .ok (.dup, 1) := by decide +kernel
theorem dX5_takeWord_63 : decode cX5_takeWord 63 = .ok (.getfield 39, 3) := by decide +kernel
theorem dX5_takeWord_66 : decode cX5_takeWord 66 = .ok (.aload_n 1, 1) := by decide +kernel
theorem dX5_takeWord_67 : decode cX5_takeWord 67 = .ok (.invokevirtual 208, 3) := by decide +kernel
theorem dX5_takeWord_70 : decode cX5_takeWord 70 = .ok (.iadd, 1) := by decide +kernel
theorem dX5_takeWord_71 : decode cX5_takeWord 71 = .ok (.putfield 39, 3) := by decide +kernel
theorem dX5_takeWord_74 : decode cX5_takeWord 74 = .ok (.iconst 1, 1) := by decide +kernel
theorem dX5_takeWord_75 : decode cX5_takeWord 75 = .ok (.ireturn, 1) := by decide +kernel
theorem dX5_skipSpaces_0 : decode cX5_skipSpaces 0 = .ok (.aload_n 0, 1) := by decide +kernel
theorem dX5_skipSpaces_1 : decode cX5_skipSpaces 1 = .ok (.getfield 39, 3) := by decide +kernel
theorem dX5_skipSpaces_4 : decode cX5_skipSpaces 4 = .ok (.aload_n 0, 1) := by decide +kernel
theorem dX5_skipSpaces_5 : decode cX5_skipSpaces 5 = .ok (.getfield 32, 3) := by decide +kernel
theorem dX5_skipSpaces_8 : decode cX5_skipSpaces 8 = .ok (.if_icmp .ge 29, 3) := by decide +kernel
theorem dX5_skipSpaces_11 : decode cX5_skipSpaces 11 = .ok (.aload_n 0, 1) := by decide +kernel
theorem dX5_skipSpaces_12 : decode cX5_skipSpaces 12 = .ok (.aload_n 0, 1) := by decide +kernel
theorem dX5_skipSpaces_13 : decode cX5_skipSpaces 13 = .ok (.getfield 39, 3) := by decide +kernel
theorem dX5_skipSpaces_16 : decode cX5_skipSpaces 16 = .ok (.invokevirtual 200, 3) := by decide +kernel
theorem dX5_skipSpaces_19 : decode cX5_skipSpaces 19 = .ok (.bipush 32, 2) := by decide +kernel
theorem dX5_skipSpaces_21 : decode cX5_skipSpaces 21 = .ok (.if_icmp .ne 16, 3) := by decide +kernel
theorem dX5_skipSpaces_24 : decode cX5_skipSpaces 24 = .ok (.aload_n 0, 1) := by decide +kernel
theorem dX5_skipSpaces_25 : decode cX5_skipSpaces 25 = .ok (.dup, 1) := by decide +kernel
theorem dX5_skipSpaces_26 : decode cX5_skipSpaces 26 = .ok (.getfield 39, 3) := by decide +kernel
theorem dX5_skipSpaces_29 : decode cX5_skipSpaces 29 = .ok (.iconst 1, 1) := by decide +kernel
theorem dX5_skipSpaces_30 : decode cX5_skipSpaces 30 = .ok (.iadd, 1) := by decide +kernel
theorem dX5_skipSpaces_31 : decode cX5_skipSpaces 31 = .ok (.putfield 39, 3) := by decide +kernel
theorem dX5_skipSpaces_34 : decode cX5_skipSpaces 34 = .ok (.goto (-34), 3) := by decide +kernel
theorem dX5_skipSpaces_37 : decode cX5_skipSpaces 37 = .ok (.return_, 1) := by decide +kernel
theorem dX5_byteAt_0 : decode cX5_byteAt 0 = .ok (.aload_n 0, 1) := by decide +kernel
theorem dX5_byteAt_1 : decode cX5_byteAt 1 = .ok (.getfield 22, 3) := by decide +kernel
theorem dX5_byteAt_4 : decode cX5_byteAt 4 = .ok (.ifnull 24, 3) := by decide +kernel
theorem dX5_byteAt_7 : decode cX5_byteAt 7 = .ok (.iload_n 1, 1) := by decide +kernel
theorem dX5_byteAt_8 : decode cX5_byteAt 8 = .ok (.ifCond .lt 20, 3) := by decide +kernel
theorem dX5_byteAt_11 : decode cX5_byteAt 11 = .ok (.iload_n 1, 1) := by decide +kernel
theorem dX5_byteAt_12 : decode cX5_byteAt 12 = .ok (.aload_n 0, 1) := by decide +kernel
theorem dX5_byteAt_13 : decode cX5_byteAt 13 = .ok (.getfield 32, 3) := by decide +kernel
theorem dX5_byteAt_16 : decode cX5_byteAt 16 = .ok (.if_icmp .ge 12, 3) := by decide +kernel
theorem dX5_byteAt_19 : decode cX5_byteAt 19 = .ok (.iload_n 1, 1) := by decide +kernel
theorem dX5_byteAt_20 : decode cX5_byteAt 20 = .ok (.aload_n 0, 1) := by decide +kernel
theorem dX5_byteAt_21 : decode cX5_byteAt 21 = .ok (.getfield 22, 3) := by decide +kernel
theorem dX5_byteAt_24 : decode cX5_byteAt 24 = .ok (.arraylength, 1) := by decide +kernel
theorem dX5_byteAt_25 : decode cX5_byteAt 25 = .ok (.if_icmp .lt 5, 3) := by decide +kernel
theorem dX5_byteAt_28 : decode cX5_byteAt 28 = .ok (.iconst (-1), 1) := by decide +kernel
theorem dX5_byteAt_29 : decode cX5_byteAt 29 = .ok (.ireturn, 1) := by decide +kernel
theorem dX5_byteAt_30 : decode cX5_byteAt 30 = .ok (.aload_n 0, 1) := by decide +kernel
theorem dX5_byteAt_31 : decode cX5_byteAt 31 = .ok (.getfield 22, 3) := by decide +kernel
theorem dX5_byteAt_34 : decode cX5_byteAt 34 = .ok (.iload_n 1, 1) := by decide +kernel
theorem dX5_byteAt_35 : decode cX5_byteAt 35 = .ok (.baload, 1) := by decide +kernel
theorem dX5_byteAt_36 : decode cX5_byteAt 36 = .ok (.sipush 255, 3) := by decide +kernel
theorem dX5_byteAt_39 : decode cX5_byteAt 39 = .ok (.iand, 1) := by decide +kernel
theorem dX5_byteAt_40 : decode cX5_byteAt 40 = .ok (.ireturn, 1) := by decide +kernel
theorem dX5_isDigit_0 : decode cX5_isDigit 0 = .ok (.iload_n 0, 1) := by decide +kernel
theorem dX5_isDigit_1 : decode cX5_isDigit 1 = .ok (.bipush 48, 2) := by decide +kernel
theorem dX5_isDigit_3 : decode cX5_isDigit 3 = .ok (.if_icmp .lt 13, 3) := by decide +kernel
theorem dX5_isDigit_6 : decode cX5_isDigit 6 = .ok (.iload_n 0, 1) := by decide +kernel
theorem dX5_isDigit_7 : decode cX5_isDigit 7 = .ok (.bipush 57, 2) := by decide +kernel
theorem dX5_isDigit_9 : decode cX5_isDigit 9 = .ok (.if_icmp .gt 7, 3) := by decide +kernel
theorem dX5_isDigit_12 : decode cX5_isDigit 12 = .ok (.iconst 1, 1) := by decide +kernel
theorem dX5_isDigit_13 : decode cX5_isDigit 13 = .ok (.goto 4, 3) := by decide +kernel
theorem dX5_isDigit_16 : decode cX5_isDigit 16 = .ok (.iconst 0, 1) := by decide +kernel
theorem dX5_isDigit_17 : decode cX5_isDigit 17 = .ok (.ireturn, 1) := by decide +kernel
theorem dX5_isLetter_0 : decode cX5_isLetter 0 = .ok (.iload_n 0, 1) := by decide +kernel
theorem dX5_isLetter_1 : decode cX5_isLetter 1 = .ok (.bipush 97, 2) := by decide +kernel
theorem dX5_isLetter_3 : decode cX5_isLetter 3 = .ok (.if_icmp .lt 13, 3) := by decide +kernel
theorem dX5_isLetter_6 : decode cX5_isLetter 6 = .ok (.iload_n 0, 1) := by decide +kernel
theorem dX5_isLetter_7 : decode cX5_isLetter 7 = .ok (.bipush 122, 2) := by decide +kernel
theorem dX5_isLetter_9 : decode cX5_isLetter 9 = .ok (.if_icmp .gt 7, 3) := by decide +kernel
theorem dX5_isLetter_12 : decode cX5_isLetter 12 = .ok (.iconst 1, 1) := by decide +kernel
theorem dX5_isLetter_13 : decode cX5_isLetter 13 = .ok (.goto 4, 3) := by decide +kernel
theorem dX5_isLetter_16 : decode cX5_isLetter 16 = .ok (.iconst 0, 1) := by decide +kernel
theorem dX5_isLetter_17 : decode cX5_isLetter 17 = .ok (.ireturn, 1) := by decide +kernel
theorem dX5_fail_0 : decode cX5_fail 0 = .ok (.aload_n 0, 1) := by decide +kernel
theorem dX5_fail_1 : decode cX5_fail 1 = .ok (.iload_n 1, 1) := by decide +kernel
theorem dX5_fail_2 : decode cX5_fail 2 = .ok (.putfield 42, 3) := by decide +kernel
theorem dX5_fail_5 : decode cX5_fail 5 = .ok (.aload_n 0, 1) := by decide +kernel
theorem dX5_fail_6 : decode cX5_fail 6 = .ok (.iload_n 2, 1) := by decide +kernel
theorem dX5_fail_7 : decode cX5_fail 7 = .ok (.putfield 18, 3) := by decide +kernel
theorem dX5_fail_10 : decode cX5_fail 10 = .ok (.iconst 0, 1) := by decide +kernel
theorem dX5_fail_11 : decode cX5_fail 11 = .ok (.ireturn, 1) := by decide +kernel
theorem dX6_init_0 : decode cX6_init 0 = .ok (.aload_n 0, 1) := by decide +kernel
theorem dX6_init_1 : decode cX6_init 1 = .ok (.invokespecial 3, 3) := by decide +kernel
theorem dX6_init_4 : decode cX6_init 4 = .ok (.aload_n 0, 1) := by decide +kernel
theorem dX6_init_5 : decode cX6_init 5 = .ok (.sipush 500, 3) := by decide +kernel
theorem dX6_init_8 : decode cX6_init 8 = .ok (.newarray .byte, 2) := by decide +kernel
theorem dX6_init_10 : decode cX6_init 10 = .ok (.putfield 9, 3) := by decide +kernel
theorem dX6_init_13 : decode cX6_init 13 = .ok (.aload_n 0, 1) := by decide +kernel
theorem dX6_init_14 : decode cX6_init 14 = .ok (.new 13, 3) := by decide +kernel
theorem dX6_init_17 : decode cX6_init 17 = .ok (.dup, 1) := by decide +kernel
theorem dX6_init_18 : decode cX6_init 18 = .ok (.invokespecial 15, 3) := by decide +kernel
theorem dX6_init_21 : decode cX6_init 21 = .ok (.putfield 16, 3) := by decide +kernel
theorem dX6_init_24 : decode cX6_init 24 = .ok (.aload_n 0, 1) := by decide +kernel
theorem dX6_init_25 : decode cX6_init 25 = .ok (.new 20, 3) := by decide +kernel
theorem dX6_init_28 : decode cX6_init 28 = .ok (.dup, 1) := by decide +kernel
theorem dX6_init_29 : decode cX6_init 29 = .ok (.invokespecial 22, 3) := by decide +kernel
theorem dX6_init_32 : decode cX6_init 32 = .ok (.putfield 23, 3) := by decide +kernel
theorem dX6_init_35 : decode cX6_init 35 = .ok (.aload_n 0, 1) := by decide +kernel
theorem dX6_init_36 : decode cX6_init 36 = .ok (.new 20, 3) := by decide +kernel
theorem dX6_init_39 : decode cX6_init 39 = .ok (.dup, 1) := by decide +kernel
theorem dX6_init_40 : decode cX6_init 40 = .ok (.invokespecial 22, 3) := by decide +kernel
theorem dX6_init_43 : decode cX6_init 43 = .ok (.putfield 27, 3) := by decide +kernel
theorem dX6_init_46 : decode cX6_init 46 = .ok (.aload_n 0, 1) := by decide +kernel
theorem dX6_init_47 : decode cX6_init 47 = .ok (.new 30, 3) := by decide +kernel
theorem dX6_init_50 : decode cX6_init 50 = .ok (.dup, 1) := by decide +kernel
theorem dX6_init_51 : decode cX6_init 51 = .ok (.invokespecial 32, 3) := by decide +kernel
theorem dX6_init_54 : decode cX6_init 54 = .ok (.putfield 33, 3) := by decide +kernel
theorem dX6_init_57 : decode cX6_init 57 = .ok (.aload_n 0, 1) := by decide +kernel
theorem dX6_init_58 : decode cX6_init 58 = .ok (.iconst 0, 1) := by decide +kernel
theorem dX6_init_59 : decode cX6_init 59 = .ok (.putfield 37, 3) := by decide +kernel
theorem dX6_init_62 : decode cX6_init 62 = .ok (.aload_n 0, 1) := by decide +kernel
theorem dX6_init_63 : decode cX6_init 63 = .ok (.iconst (-1), 1) := by decide +kernel
theorem dX6_init_64 : decode cX6_init 64 = .ok (.putfield 41, 3) := by decide +kernel
theorem dX6_init_67 : decode cX6_init 67 = .ok (.return_, 1) := by decide +kernel
theorem dX6_append_0 : decode cX6_append 0 = .ok (.aload_n 0, 1) := by decide +kernel
theorem dX6_append_1 : decode cX6_append 1 = .ok (.getfield 37, 3) := by decide +kernel
theorem dX6_append_4 : decode cX6_append 4 = .ok (.sipush 480, 3) := by decide +kernel
theorem dX6_append_7 : decode cX6_append 7 = .ok (.if_icmp .le 5, 3) := by decide +kernel
theorem dX6_append_10 : decode cX6_append 10 = .ok (.iconst (-1), 1) := by decide +kernel
theorem dX6_append_11 : decode cX6_append 11 = .ok (.ireturn, 1) := by decide +kernel
theorem dX6_append_12 : decode cX6_append 12 = .ok (.aload_n 0, 1) := by decide +kernel
theorem dX6_append_13 : decode cX6_append 13 = .ok (.iload_n 1, 1) := by decide +kernel
theorem dX6_append_14 : decode cX6_append 14 = .ok (.invokevirtual 44, 3) := by decide +kernel
theorem dX6_append_17 : decode cX6_append 17 = .ok (.aload_n 0, 1) := by decide +kernel
theorem dX6_append_18 : decode cX6_append 18 = .ok (.iload_n 2, 1) := by decide +kernel
theorem dX6_append_19 : decode cX6_append 19 = .ok (.invokevirtual 44, 3) := by decide +kernel
theorem dX6_append_22 : decode cX6_append 22 = .ok (.aload_n 0, 1) := by decide +kernel
theorem dX6_append_23 : decode cX6_append 23 = .ok (.iload_n 3, 1) := by decide +kernel
theorem dX6_append_24 : decode cX6_append 24 = .ok (.invokevirtual 44, 3) := by decide +kernel
theorem dX6_append_27 : decode cX6_append 27 = .ok (.aload_n 0, 1) := by decide +kernel
theorem dX6_append_28 : decode cX6_append 28 = .ok (.iload 4, 2) := by decide +kernel
theorem dX6_append_30 : decode cX6_append 30 = .ok (.invokevirtual 44, 3) := by decide +kernel
theorem dX6_append_33 : decode cX6_append 33 = .ok (.aload_n 0, 1) := by decide +kernel
theorem dX6_append_34 : decode cX6_append 34 = .ok (.iload 5, 2) := by decide +kernel
theorem dX6_append_36 : decode cX6_append 36 = .ok (.invokevirtual 44, 3) := by decide +kernel
theorem dX6_append_39 : decode cX6_append 39 = .ok (.aload_n 0, 1) := by decide +kernel
theorem dX6_append_40 : decode cX6_append 40 = .ok (.getfield 37, 3) := by decide +kernel
theorem dX6_append_43 : decode cX6_append 43 = .ok (.ireturn, 1) := by decide +kernel
theorem dX6_load_0 : decode cX6_load 0 = .ok (.iload_n 1, 1) := by decide +kernel
theorem dX6_load_1 : decode cX6_load 1 = .ok (.iconst 0, 1) := by decide +kernel
theorem dX6_load_2 : decode cX6_load 2 = .ok (.aload_n 0, 1) := by decide +kernel
theorem dX6_load_3 : decode cX6_load 3 = .ok (.getfield 37, 3) := by decide +kernel
theorem dX6_load_6 : decode cX6_load 6 = .ok (.invokestatic 48, 3) := by decide +kernel
theorem dX6_load_9 : decode cX6_load 9 = .ok (.aload_n 0, 1) := by decide +kernel
theorem dX6_load_10 : decode cX6_load 10 = .ok (.getfield 16, 3) := by decide +kernel
theorem dX6_load_13 : decode cX6_load 13 = .ok (.aload_n 0, 1) := by decide +kernel
theorem dX6_load_14 : decode cX6_load 14 = .ok (.getfield 9, 3) := by decide +kernel
theorem dX6_load_17 : decode cX6_load 17 = .ok (.iload_n 1, 1) := by decide +kernel
theorem dX6_load_18 : decode cX6_load 18 = .ok (.aload_n 0, 1) := by decide +kernel
theorem dX6_load_19 : decode cX6_load 19 = .ok (.getfield 27, 3) := by decide +kernel
theorem dX6_load_22 : decode cX6_load 22 = .ok (.invokevirtual 52, 3) := by decide +kernel
theorem dX6_load_25 : decode cX6_load 25 = .ok (.istore_n 2, 1) := by decide +kernel
theorem dX6_load_26 : decode cX6_load 26 = .ok (.aload_n 0, 1) := by decide +kernel
theorem dX6_load_27 : decode cX6_load 27 = .ok (.iconst 0, 1) := by decide +kernel
theorem dX6_load_28 : decode cX6_load 28 = .ok (.putfield 37, 3) := by decide +kernel
theorem dX6_load_31 : decode cX6_load 31 = .ok (.aload_n 0, 1) := by decide +kernel
theorem dX6_load_32 : decode cX6_load 32 = .ok (.aload_n 0, 1) := by decide +kernel
theorem dX6_load_33 : decode cX6_load 33 = .ok (.getfield 16, 3) := by decide +kernel
theorem dX6_load_36 : decode cX6_load 36 = .ok (.getfield 56, 3) := by decide +kernel
theorem dX6_load_39 : decode cX6_load 39 = .ok (.putfield 41, 3) := by decide +kernel
theorem dX6_load_42 : decode cX6_load 42 = .ok (.iload_n 2, 1) := by decide +kernel
theorem dX6_load_43 : decode cX6_load 43 = .ok (.ifCond .ne 11, 3) := by decide +kernel
theorem dX6_load_46 : decode cX6_load 46 = .ok (.aload_n 0, 1) := by decide +kernel
theorem dX6_load_47 : decode cX6_load 47 = .ok (.getfield 16, 3) := by decide +kernel
theorem dX6_load_50 : decode cX6_load 50 = .ok (.getfield 57, 3) := by decide +kernel
theorem dX6_load_53 : decode cX6_load 53 = .ok (.ireturn, 1) := by decide +kernel
theorem dX6_load_54 : decode cX6_load 54 = .ok (.aload_n 0, 1) := by decide +kernel
theorem dX6_load_55 : decode cX6_load 55 = .ok (.getfield 33, 3) := by decide +kernel
theorem dX6_load_58 : decode cX6_load 58 = .ok (.aload_n 0, 1) := by decide +kernel
theorem dX6_load_59 : decode cX6_load 59 = .ok (.getfield 23, 3) := by decide +kernel
theorem dX6_load_62 : decode cX6_load 62 = .ok (.invokevirtual 60, 3) := by decide +kernel
theorem dX6_load_65 : decode cX6_load 65 = .ok (.aload_n 0, 1) := by decide +kernel
theorem dX6_load_66 : decode cX6_load 66 = .ok (.getfield 23, 3) := by decide +kernel
theorem dX6_load_69 : decode cX6_load 69 = .ok (.aload_n 0, 1) := by decide +kernel
theorem dX6_load_70 : decode cX6_load 70 = .ok (.getfield 27, 3) := by decide +kernel
theorem dX6_load_73 : decode cX6_load 73 = .ok (.invokevirtual 64, 3) := by decide +kernel
theorem dX6_load_76 : decode cX6_load 76 = .ok (.aload_n 0, 1) := by decide +kernel
theorem dX6_load_77 : decode cX6_load 77 = .ok (.getfield 23, 3) := by decide +kernel
theorem dX6_load_80 : decode cX6_load 80 = .ok (.getfield 67, 3) := by decide +kernel
theorem dX6_load_83 : decode cX6_load 83 = .ok (.ireturn, 1) := by decide +kernel
theorem dX6_errorOffset_0 : decode cX6_errorOffset 0 = .ok (.aload_n 0, 1) := by decide +kernel
theorem dX6_errorOffset_1 : decode cX6_errorOffset 1 = .ok (.getfield 41, 3) := by decide +kernel
theorem dX6_errorOffset_4 : decode cX6_errorOffset 4 = .ok (.ireturn, 1) := by decide +kernel
theorem dX6_state_0 : decode cX6_state 0 = .ok (.iload_n 1, 1) := by decide +kernel
theorem dX6_state_1 : decode cX6_state 1 = .ok (.iconst 0, 1) := by decide +kernel
theorem dX6_state_2 : decode cX6_state 2 = .ok (.bipush 11, 2) := by decide +kernel
theorem dX6_state_4 : decode cX6_state 4 = .ok (.invokestatic 48, 3) := by decide +kernel
theorem dX6_state_7 : decode cX6_state 7 = .ok (.aload_n 0, 1) := by decide +kernel
theorem dX6_state_8 : decode cX6_state 8 = .ok (.getfield 23, 3) := by decide +kernel
theorem dX6_state_11 : decode cX6_state 11 = .ok (.iload_n 1, 1) := by decide +kernel
theorem dX6_state_12 : decode cX6_state 12 = .ok (.invokevirtual 70, 3) := by decide +kernel
theorem dX6_state_15 : decode cX6_state 15 = .ok (.ireturn, 1) := by decide +kernel
theorem dX6_account_0 : decode cX6_account 0 = .ok (.iload_n 1, 1) := by decide +kernel
theorem dX6_account_1 : decode cX6_account 1 = .ok (.iconst 0, 1) := by decide +kernel
theorem dX6_account_2 : decode cX6_account 2 = .ok (.bipush 7, 2) := by decide +kernel
theorem dX6_account_4 : decode cX6_account 4 = .ok (.invokestatic 48, 3) := by decide +kernel
theorem dX6_account_7 : decode cX6_account 7 = .ok (.aload_n 0, 1) := by decide +kernel
theorem dX6_account_8 : decode cX6_account 8 = .ok (.getfield 23, 3) := by decide +kernel
theorem dX6_account_11 : decode cX6_account 11 = .ok (.iload_n 1, 1) := by decide +kernel
theorem dX6_account_12 : decode cX6_account 12 = .ok (.invokevirtual 74, 3) := by decide +kernel
theorem dX6_account_15 : decode cX6_account 15 = .ok (.lreturn, 1) := by decide +kernel
theorem dX6_mass_0 : decode cX6_mass 0 = .ok (.aload_n 0, 1) := by decide +kernel
theorem dX6_mass_1 : decode cX6_mass 1 = .ok (.iload_n 1, 1) := by decide +kernel
theorem dX6_mass_2 : decode cX6_mass 2 = .ok (.invokevirtual 78, 3) := by decide +kernel
theorem dX6_mass_5 : decode cX6_mass 5 = .ok (.iload_n 2, 1) := by decide +kernel
theorem dX6_mass_6 : decode cX6_mass 6 = .ok (.iconst 0, 1) := by decide +kernel
theorem dX6_mass_7 : decode cX6_mass 7 = .ok (.iconst 3, 1) := by decide +kernel
theorem dX6_mass_8 : decode cX6_mass 8 = .ok (.invokestatic 48, 3) := by decide +kernel
theorem dX6_mass_11 : decode cX6_mass 11 = .ok (.aload_n 0, 1) := by decide +kernel
theorem dX6_mass_12 : decode cX6_mass 12 = .ok (.getfield 23, 3) := by decide +kernel
theorem dX6_mass_15 : decode cX6_mass 15 = .ok (.iload_n 1, 1) := by decide +kernel
theorem dX6_mass_16 : decode cX6_mass 16 = .ok (.iload_n 2, 1) := by decide +kernel
theorem dX6_mass_17 : decode cX6_mass 17 = .ok (.invokevirtual 81, 3) := by decide +kernel
theorem dX6_mass_20 : decode cX6_mass 20 = .ok (.ireturn, 1) := by decide +kernel
theorem dX6_spring_0 : decode cX6_spring 0 = .ok (.aload_n 0, 1) := by decide +kernel
theorem dX6_spring_1 : decode cX6_spring 1 = .ok (.iload_n 1, 1) := by decide +kernel
theorem dX6_spring_2 : decode cX6_spring 2 = .ok (.invokevirtual 85, 3) := by decide +kernel
theorem dX6_spring_5 : decode cX6_spring 5 = .ok (.iload_n 2, 1) := by decide +kernel
theorem dX6_spring_6 : decode cX6_spring 6 = .ok (.iconst 0, 1) := by decide +kernel
theorem dX6_spring_7 : decode cX6_spring 7 = .ok (.iconst 4, 1) := by decide +kernel
theorem dX6_spring_8 : decode cX6_spring 8 = .ok (.invokestatic 48, 3) := by decide +kernel
theorem dX6_spring_11 : decode cX6_spring 11 = .ok (.aload_n 0, 1) := by decide +kernel
theorem dX6_spring_12 : decode cX6_spring 12 = .ok (.getfield 23, 3) := by decide +kernel
theorem dX6_spring_15 : decode cX6_spring 15 = .ok (.iload_n 1, 1) := by decide +kernel
theorem dX6_spring_16 : decode cX6_spring 16 = .ok (.iload_n 2, 1) := by decide +kernel
theorem dX6_spring_17 : decode cX6_spring 17 = .ok (.invokevirtual 88, 3) := by decide +kernel
theorem dX6_spring_20 : decode cX6_spring 20 = .ok (.ireturn, 1) := by decide +kernel
theorem dX6_noted_0 : decode cX6_noted 0 = .ok (.iload_n 1, 1) := by decide +kernel
theorem dX6_noted_1 : decode cX6_noted 1 = .ok (.aload_n 0, 1) := by decide +kernel
theorem dX6_noted_2 : decode cX6_noted 2 = .ok (.getfield 23, 3) := by decide +kernel
theorem dX6_noted_5 : decode cX6_noted 5 = .ok (.getfield 91, 3) := by decide +kernel
theorem dX6_noted_8 : decode cX6_noted 8 = .ok (.getfield 95, 3) := by decide +kernel
theorem dX6_noted_11 : decode cX6_noted 11 = .ok (.invokestatic 100, 3) := by decide +kernel
theorem dX6_noted_14 : decode cX6_noted 14 = .ok (.iload_n 2, 1) := by decide +kernel
theorem dX6_noted_15 : decode cX6_noted 15 = .ok (.iconst 0, 1) := by decide +kernel
theorem dX6_noted_16 : decode cX6_noted 16 = .ok (.iconst 1, 1) := by decide +kernel
theorem dX6_noted_17 : decode cX6_noted 17 = .ok (.invokestatic 48, 3) := by decide +kernel
theorem dX6_noted_20 : decode cX6_noted 20 = .ok (.aload_n 0, 1) := by decide +kernel
theorem dX6_noted_21 : decode cX6_noted 21 = .ok (.getfield 23, 3) := by decide +kernel
theorem dX6_noted_24 : decode cX6_noted 24 = .ok (.getfield 91, 3) := by decide +kernel
theorem dX6_noted_27 : decode cX6_noted 27 = .ok (.iload_n 1, 1) := by decide +kernel
theorem dX6_noted_28 : decode cX6_noted 28 = .ok (.iload_n 2, 1) := by decide +kernel
theorem dX6_noted_29 : decode cX6_noted 29 = .ok (.invokevirtual 104, 3) := by decide +kernel
theorem dX6_noted_32 : decode cX6_noted 32 = .ok (.ireturn, 1) := by decide +kernel
theorem dX6_waiting_0 : decode cX6_waiting 0 = .ok (.iload_n 1, 1) := by decide +kernel
theorem dX6_waiting_1 : decode cX6_waiting 1 = .ok (.aload_n 0, 1) := by decide +kernel
theorem dX6_waiting_2 : decode cX6_waiting 2 = .ok (.getfield 23, 3) := by decide +kernel
theorem dX6_waiting_5 : decode cX6_waiting 5 = .ok (.getfield 107, 3) := by decide +kernel
theorem dX6_waiting_8 : decode cX6_waiting 8 = .ok (.getfield 111, 3) := by decide +kernel
theorem dX6_waiting_11 : decode cX6_waiting 11 = .ok (.invokestatic 100, 3) := by decide +kernel
theorem dX6_waiting_14 : decode cX6_waiting 14 = .ok (.iload_n 2, 1) := by decide +kernel
theorem dX6_waiting_15 : decode cX6_waiting 15 = .ok (.iconst 0, 1) := by decide +kernel
theorem dX6_waiting_16 : decode cX6_waiting 16 = .ok (.iconst 2, 1) := by decide +kernel
theorem dX6_waiting_17 : decode cX6_waiting 17 = .ok (.invokestatic 48, 3) := by decide +kernel
theorem dX6_waiting_20 : decode cX6_waiting 20 = .ok (.aload_n 0, 1) := by decide +kernel
theorem dX6_waiting_21 : decode cX6_waiting 21 = .ok (.getfield 23, 3) := by decide +kernel
theorem dX6_waiting_24 : decode cX6_waiting 24 = .ok (.getfield 107, 3) := by decide +kernel
theorem dX6_waiting_27 : decode cX6_waiting 27 = .ok (.iload_n 1, 1) := by decide +kernel
theorem dX6_waiting_28 : decode cX6_waiting 28 = .ok (.iload_n 2, 1) := by decide +kernel
theorem dX6_waiting_29 : decode cX6_waiting 29 = .ok (.invokevirtual 114, 3) := by decide +kernel
theorem dX6_waiting_32 : decode cX6_waiting 32 = .ok (.ireturn, 1) := by decide +kernel
theorem dX6_foretold_0 : decode cX6_foretold 0 = .ok (.aload_n 0, 1) := by decide +kernel
theorem dX6_foretold_1 : decode cX6_foretold 1 = .ok (.iload_n 2, 1) := by decide +kernel
theorem dX6_foretold_2 : decode cX6_foretold 2 = .ok (.invokevirtual 78, 3) := by decide +kernel
theorem dX6_foretold_5 : decode cX6_foretold 5 = .ok (.iload_n 1, 1) := by decide +kernel
theorem dX6_foretold_6 : decode cX6_foretold 6 = .ok (.iconst 1, 1) := by decide +kernel
theorem dX6_foretold_7 : decode cX6_foretold 7 = .ok (.sipush 200, 3) := by decide +kernel
theorem dX6_foretold_10 : decode cX6_foretold 10 = .ok (.invokestatic 48, 3) := by decide +kernel
theorem dX6_foretold_13 : decode cX6_foretold 13 = .ok (.iload_n 3, 1) := by decide +kernel
theorem dX6_foretold_14 : decode cX6_foretold 14 = .ok (.iconst 0, 1) := by decide +kernel
theorem dX6_foretold_15 : decode cX6_foretold 15 = .ok (.iconst 4, 1) := by decide +kernel
theorem dX6_foretold_16 : decode cX6_foretold 16 = .ok (.invokestatic 48, 3) := by decide +kernel
theorem dX6_foretold_19 : decode cX6_foretold 19 = .ok (.aload_n 0, 1) := by decide +kernel
theorem dX6_foretold_20 : decode cX6_foretold 20 = .ok (.getfield 27, 3) := by decide +kernel
theorem dX6_foretold_23 : decode cX6_foretold 23 = .ok (.aload_n 0, 1) := by decide +kernel
theorem dX6_foretold_24 : decode cX6_foretold 24 = .ok (.getfield 23, 3) := by decide +kernel
theorem dX6_foretold_27 : decode cX6_foretold 27 = .ok (.invokevirtual 64, 3) := by decide +kernel
theorem dX6_foretold_30 : decode cX6_foretold 30 = .ok (.iconst 0, 1) := by decide +kernel
theorem dX6_foretold_31 : decode cX6_foretold 31 = .ok (.istore 4, 2) := by decide +kernel
theorem dX6_foretold_33 : decode cX6_foretold 33 = .ok (.iconst 0, 1) := by decide +kernel
theorem dX6_foretold_34 : decode cX6_foretold 34 = .ok (.istore 5, 2) := by decide +kernel
theorem dX6_foretold_36 : decode cX6_foretold 36 = .ok (.iload 5, 2) := by decide +kernel
theorem dX6_foretold_38 : decode cX6_foretold 38 = .ok (.iload_n 1, 1) := by decide +kernel
theorem dX6_foretold_39 : decode cX6_foretold 39 = .ok (.if_icmp .ge 35, 3) := by decide +kernel
theorem dX6_foretold_42 : decode cX6_foretold 42 = .ok (.aload_n 0, 1) := by decide +kernel
theorem dX6_foretold_43 : decode cX6_foretold 43 = .ok (.getfield 27, 3) := by decide +kernel
theorem dX6_foretold_46 : decode cX6_foretold 46 = .ok (.invokevirtual 115, 3) := by decide +kernel
theorem dX6_foretold_49 : decode cX6_foretold 49 = .ok (.pop, 1) := by decide +kernel
theorem dX6_foretold_50 : decode cX6_foretold 50 = .ok (.iload 4, 2) := by decide +kernel
theorem dX6_foretold_52 : decode cX6_foretold 52 = .ok (.aload_n 0, 1) := by decide +kernel
theorem dX6_foretold_53 : decode cX6_foretold 53 = .ok (.getfield 27, 3) := by decide +kernel
theorem dX6_foretold_56 : decode cX6_foretold 56 = .ok (.iload_n 2, 1) := by decide +kernel
theorem dX6_foretold_57 : decode cX6_foretold 57 = .ok (.invokevirtual 119, 3) := by decide +kernel
theorem dX6_foretold_60 : decode cX6_foretold 60 = .ok (.invokestatic 122, 3) := by decide +kernel
theorem dX6_foretold_63 : decode cX6_foretold 63 = .ok (.invokestatic 127, 3) := by decide +kernel
theorem dX6_foretold_66 : decode cX6_foretold 66 = .ok (.istore 4, 2) := by decide +kernel
theorem dX6_foretold_68 : decode cX6_foretold 68 = .ok (.iinc 5 1, 3) := by decide +kernel
theorem dX6_foretold_71 : decode cX6_foretold 71 = .ok (.goto (-35), 3) := by decide +kernel
theorem dX6_foretold_74 : decode cX6_foretold 74 = .ok (.iload_n 3, 1) := by decide +kernel
theorem dX6_foretold_75 : decode cX6_foretold 75 = .ok (.tableswitch 58 0 3 #[29, 38, 47, 50], 29) := by decide +kernel
theorem dX6_foretold_104 : decode cX6_foretold 104 = .ok (.aload_n 0, 1) := by decide +kernel
theorem dX6_foretold_105 : decode cX6_foretold 105 = .ok (.getfield 27, 3) := by decide +kernel
theorem dX6_foretold_108 : decode cX6_foretold 108 = .ok (.iload_n 2, 1) := by decide +kernel
theorem dX6_foretold_109 : decode cX6_foretold 109 = .ok (.invokevirtual 119, 3) := by decide +kernel
theorem dX6_foretold_112 : decode cX6_foretold 112 = .ok (.ireturn, 1) := by decide +kernel
theorem dX6_foretold_113 : decode cX6_foretold 113 = .ok (.aload_n 0, 1) := by decide +kernel
theorem dX6_foretold_114 : decode cX6_foretold 114 = .ok (.getfield 27, 3) := by decide +kernel
theorem dX6_foretold_117 : decode cX6_foretold 117 = .ok (.iload_n 2, 1) := by decide +kernel
theorem dX6_foretold_118 : decode cX6_foretold 118 = .ok (.invokevirtual 130, 3) := by decide +kernel
theorem dX6_foretold_121 : decode cX6_foretold 121 = .ok (.ireturn, 1) := by decide +kernel
theorem dX6_foretold_122 : decode cX6_foretold 122 = .ok (.iload 4, 2) := by decide +kernel
theorem dX6_foretold_124 : decode cX6_foretold 124 = .ok (.ireturn, 1) := by decide +kernel
theorem dX6_foretold_125 : decode cX6_foretold 125 = .ok (.aload_n 0, 1) := by decide +kernel
theorem dX6_foretold_126 : decode cX6_foretold 126 = .ok (.getfield 27, 3) := by decide +kernel
theorem dX6_foretold_129 : decode cX6_foretold 129 = .ok (.invokevirtual 133, 3) := by decide +kernel
theorem dX6_foretold_132 : decode cX6_foretold 132 = .ok (.ireturn, 1) := by decide +kernel
theorem dX6_foretold_133 : decode cX6_foretold 133 = .ok (.aload_n 0, 1) := by decide +kernel
theorem dX6_foretold_134 : decode cX6_foretold 134 = .ok (.getfield 27, 3) := by decide +kernel
theorem dX6_foretold_137 : decode cX6_foretold 137 = .ok (.invokevirtual 136, 3) := by decide +kernel
theorem dX6_foretold_140 : decode cX6_foretold 140 = .ok (.ireturn, 1) := by decide +kernel
theorem dX6_period_0 : decode cX6_period 0 = .ok (.aload_n 0, 1) := by decide +kernel
theorem dX6_period_1 : decode cX6_period 1 = .ok (.iload_n 1, 1) := by decide +kernel
theorem dX6_period_2 : decode cX6_period 2 = .ok (.invokevirtual 78, 3) := by decide +kernel
theorem dX6_period_5 : decode cX6_period 5 = .ok (.iload_n 2, 1) := by decide +kernel
theorem dX6_period_6 : decode cX6_period 6 = .ok (.iconst 1, 1) := by decide +kernel
theorem dX6_period_7 : decode cX6_period 7 = .ok (.sipush 300, 3) := by decide +kernel
theorem dX6_period_10 : decode cX6_period 10 = .ok (.invokestatic 48, 3) := by decide +kernel
theorem dX6_period_13 : decode cX6_period 13 = .ok (.aload_n 0, 1) := by decide +kernel
theorem dX6_period_14 : decode cX6_period 14 = .ok (.getfield 27, 3) := by decide +kernel
theorem dX6_period_17 : decode cX6_period 17 = .ok (.aload_n 0, 1) := by decide +kernel
theorem dX6_period_18 : decode cX6_period 18 = .ok (.getfield 23, 3) := by decide +kernel
theorem dX6_period_21 : decode cX6_period 21 = .ok (.invokevirtual 64, 3) := by decide +kernel
theorem dX6_period_24 : decode cX6_period 24 = .ok (.iconst 0, 1) := by decide +kernel
theorem dX6_period_25 : decode cX6_period 25 = .ok (.istore_n 3, 1) := by decide +kernel
theorem dX6_period_26 : decode cX6_period 26 = .ok (.iconst 1, 1) := by decide +kernel
theorem dX6_period_27 : decode cX6_period 27 = .ok (.istore 4, 2) := by decide +kernel
theorem dX6_period_29 : decode cX6_period 29 = .ok (.iload 4, 2) := by decide +kernel
theorem dX6_period_31 : decode cX6_period 31 = .ok (.iload_n 2, 1) := by decide +kernel
theorem dX6_period_32 : decode cX6_period 32 = .ok (.if_icmp .gt 63, 3) := by decide +kernel
theorem dX6_period_35 : decode cX6_period 35 = .ok (.aload_n 0, 1) := by decide +kernel
theorem dX6_period_36 : decode cX6_period 36 = .ok (.getfield 27, 3) := by decide +kernel
theorem dX6_period_39 : decode cX6_period 39 = .ok (.iload_n 1, 1) := by decide +kernel
theorem dX6_period_40 : decode cX6_period 40 = .ok (.invokevirtual 119, 3) := by decide +kernel
theorem dX6_period_43 : decode cX6_period 43 = .ok (.ifCond .gt 7, 3) := by decide +kernel
theorem dX6_period_46 : decode cX6_period 46 = .ok (.iconst 1, 1) := by decide +kernel
theorem dX6_period_47 : decode cX6_period 47 = .ok (.goto 4, 3) := by decide +kernel
theorem dX6_period_50 : decode cX6_period 50 = .ok (.iconst 0, 1) := by decide +kernel
theorem dX6_period_51 : decode cX6_period 51 = .ok (.istore 5, 2) := by decide +kernel
theorem dX6_period_53 : decode cX6_period 53 = .ok (.aload_n 0, 1) := by decide +kernel
theorem dX6_period_54 : decode cX6_period 54 = .ok (.getfield 27, 3) := by decide +kernel
theorem dX6_period_57 : decode cX6_period 57 = .ok (.invokevirtual 115, 3) := by decide +kernel
theorem dX6_period_60 : decode cX6_period 60 = .ok (.pop, 1) := by decide +kernel
theorem dX6_period_61 : decode cX6_period 61 = .ok (.iload 5, 2) := by decide +kernel
theorem dX6_period_63 : decode cX6_period 63 = .ok (.ifCond .eq 26, 3) := by decide +kernel
theorem dX6_period_66 : decode cX6_period 66 = .ok (.aload_n 0, 1) := by decide +kernel
theorem dX6_period_67 : decode cX6_period 67 = .ok (.getfield 27, 3) := by decide +kernel
theorem dX6_period_70 : decode cX6_period 70 = .ok (.iload_n 1, 1) := by decide +kernel
theorem dX6_period_71 : decode cX6_period 71 = .ok (.invokevirtual 119, 3) := by decide +kernel
theorem dX6_period_74 : decode cX6_period 74 = .ok (.ifCond .le 15, 3) := by decide +kernel
theorem dX6_period_77 : decode cX6_period 77 = .ok (.iload_n 3, 1) := by decide +kernel
theorem dX6_period_78 : decode cX6_period 78 = .ok (.ifCond .le 8, 3) := by decide +kernel
theorem dX6_period_81 : decode cX6_period 81 = .ok (.iload 4, 2) := by decide +kernel
theorem dX6_period_83 : decode cX6_period 83 = .ok (.iload_n 3, 1) := by decide +kernel
theorem dX6_period_84 : decode cX6_period 84 = .ok (.isub, 1) := by decide +kernel
theorem dX6_period_85 : decode cX6_period 85 = .ok (.ireturn, 1) := by decide +kernel
theorem dX6_period_86 : decode cX6_period 86 = .ok (.iload 4, 2) := by decide +kernel
theorem dX6_period_88 : decode cX6_period 88 = .ok (.istore_n 3, 1) := by decide +kernel
theorem dX6_period_89 : decode cX6_period 89 = .ok (.iinc 4 1, 3) := by decide +kernel
theorem dX6_period_92 : decode cX6_period 92 = .ok (.goto (-63), 3) := by decide +kernel
theorem dX6_period_95 : decode cX6_period 95 = .ok (.iconst (-1), 1) := by decide +kernel
theorem dX6_period_96 : decode cX6_period 96 = .ok (.ireturn, 1) := by decide +kernel
theorem dX6_breaksIn_0 : decode cX6_breaksIn 0 = .ok (.iload_n 1, 1) := by decide +kernel
theorem dX6_breaksIn_1 : decode cX6_breaksIn 1 = .ok (.iconst 1, 1) := by decide +kernel
theorem dX6_breaksIn_2 : decode cX6_breaksIn 2 = .ok (.sipush 200, 3) := by decide +kernel
theorem dX6_breaksIn_5 : decode cX6_breaksIn 5 = .ok (.invokestatic 48, 3) := by decide +kernel
theorem dX6_breaksIn_8 : decode cX6_breaksIn 8 = .ok (.aload_n 0, 1) := by decide +kernel
theorem dX6_breaksIn_9 : decode cX6_breaksIn 9 = .ok (.getfield 27, 3) := by decide +kernel
theorem dX6_breaksIn_12 : decode cX6_breaksIn 12 = .ok (.aload_n 0, 1) := by decide +kernel
theorem dX6_breaksIn_13 : decode cX6_breaksIn 13 = .ok (.getfield 23, 3) := by decide +kernel
theorem dX6_breaksIn_16 : decode cX6_breaksIn 16 = .ok (.invokevirtual 64, 3) := by decide +kernel
theorem dX6_breaksIn_19 : decode cX6_breaksIn 19 = .ok (.iconst 1, 1) := by decide +kernel
theorem dX6_breaksIn_20 : decode cX6_breaksIn 20 = .ok (.istore_n 2, 1) := by decide +kernel
theorem dX6_breaksIn_21 : decode cX6_breaksIn 21 = .ok (.iload_n 2, 1) := by decide +kernel
theorem dX6_breaksIn_22 : decode cX6_breaksIn 22 = .ok (.iload_n 1, 1) := by decide +kernel
theorem dX6_breaksIn_23 : decode cX6_breaksIn 23 = .ok (.if_icmp .gt 21, 3) := by decide +kernel
theorem dX6_breaksIn_26 : decode cX6_breaksIn 26 = .ok (.aload_n 0, 1) := by decide +kernel
theorem dX6_breaksIn_27 : decode cX6_breaksIn 27 = .ok (.getfield 27, 3) := by decide +kernel
theorem dX6_breaksIn_30 : decode cX6_breaksIn 30 = .ok (.invokevirtual 115, 3) := by decide +kernel
theorem dX6_breaksIn_33 : decode cX6_breaksIn 33 = .ok (.ifCond .le 5, 3) := by decide +kernel
theorem dX6_breaksIn_36 : decode cX6_breaksIn 36 = .ok (.iload_n 2, 1) := by decide +kernel
theorem dX6_breaksIn_37 : decode cX6_breaksIn 37 = .ok (.ireturn, 1) := by decide +kernel
theorem dX6_breaksIn_38 : decode cX6_breaksIn 38 = .ok (.iinc 2 1, 3) := by decide +kernel
theorem dX6_breaksIn_41 : decode cX6_breaksIn 41 = .ok (.goto (-20), 3) := by decide +kernel
theorem dX6_breaksIn_44 : decode cX6_breaksIn 44 = .ok (.iconst (-1), 1) := by decide +kernel
theorem dX6_breaksIn_45 : decode cX6_breaksIn 45 = .ok (.ireturn, 1) := by decide +kernel
theorem dX6_pieces_0 : decode cX6_pieces 0 = .ok (.aload_n 0, 1) := by decide +kernel
theorem dX6_pieces_1 : decode cX6_pieces 1 = .ok (.getfield 23, 3) := by decide +kernel
theorem dX6_pieces_4 : decode cX6_pieces 4 = .ok (.invokevirtual 139, 3) := by decide +kernel
theorem dX6_pieces_7 : decode cX6_pieces 7 = .ok (.ireturn, 1) := by decide +kernel
theorem dX6_centre_0 : decode cX6_centre 0 = .ok (.aload_n 0, 1) := by decide +kernel
theorem dX6_centre_1 : decode cX6_centre 1 = .ok (.getfield 23, 3) := by decide +kernel
theorem dX6_centre_4 : decode cX6_centre 4 = .ok (.invokevirtual 142, 3) := by decide +kernel
theorem dX6_centre_7 : decode cX6_centre 7 = .ok (.dreturn, 1) := by decide +kernel
theorem dX6_pass_0 : decode cX6_pass 0 = .ok (.iload_n 1, 1) := by decide +kernel
theorem dX6_pass_1 : decode cX6_pass 1 = .ok (.iconst 1, 1) := by decide +kernel
theorem dX6_pass_2 : decode cX6_pass 2 = .ok (.bipush 50, 2) := by decide +kernel
theorem dX6_pass_4 : decode cX6_pass 4 = .ok (.invokestatic 48, 3) := by decide +kernel
theorem dX6_pass_7 : decode cX6_pass 7 = .ok (.aload_n 0, 1) := by decide +kernel
theorem dX6_pass_8 : decode cX6_pass 8 = .ok (.getfield 33, 3) := by decide +kernel
theorem dX6_pass_11 : decode cX6_pass 11 = .ok (.aload_n 0, 1) := by decide +kernel
theorem dX6_pass_12 : decode cX6_pass 12 = .ok (.getfield 23, 3) := by decide +kernel
theorem dX6_pass_15 : decode cX6_pass 15 = .ok (.invokevirtual 60, 3) := by decide +kernel
theorem dX6_pass_18 : decode cX6_pass 18 = .ok (.iconst 0, 1) := by decide +kernel
theorem dX6_pass_19 : decode cX6_pass 19 = .ok (.istore_n 2, 1) := by decide +kernel
theorem dX6_pass_20 : decode cX6_pass 20 = .ok (.iconst 0, 1) := by decide +kernel
theorem dX6_pass_21 : decode cX6_pass 21 = .ok (.istore_n 3, 1) := by decide +kernel
theorem dX6_pass_22 : decode cX6_pass 22 = .ok (.iload_n 3, 1) := by decide +kernel
theorem dX6_pass_23 : decode cX6_pass 23 = .ok (.iload_n 1, 1) := by decide +kernel
theorem dX6_pass_24 : decode cX6_pass 24 = .ok (.if_icmp .ge 19, 3) := by decide +kernel
theorem dX6_pass_27 : decode cX6_pass 27 = .ok (.iload_n 2, 1) := by decide +kernel
theorem dX6_pass_28 : decode cX6_pass 28 = .ok (.aload_n 0, 1) := by decide +kernel
theorem dX6_pass_29 : decode cX6_pass 29 = .ok (.getfield 23, 3) := by decide +kernel
theorem dX6_pass_32 : decode cX6_pass 32 = .ok (.invokevirtual 115, 3) := by decide +kernel
theorem dX6_pass_35 : decode cX6_pass 35 = .ok (.iadd, 1) := by decide +kernel
theorem dX6_pass_36 : decode cX6_pass 36 = .ok (.istore_n 2, 1) := by decide +kernel
theorem dX6_pass_37 : decode cX6_pass 37 = .ok (.iinc 3 1, 3) := by decide +kernel
theorem dX6_pass_40 : decode cX6_pass 40 = .ok (.goto (-18), 3) := by decide +kernel
theorem dX6_pass_43 : decode cX6_pass 43 = .ok (.iload_n 2, 1) := by decide +kernel
theorem dX6_pass_44 : decode cX6_pass 44 = .ok (.ireturn, 1) := by decide +kernel
theorem dX6_pluck_0 : decode cX6_pluck 0 = .ok (.aload_n 0, 1) := by decide +kernel
theorem dX6_pluck_1 : decode cX6_pluck 1 = .ok (.iload_n 1, 1) := by decide +kernel
theorem dX6_pluck_2 : decode cX6_pluck 2 = .ok (.invokevirtual 78, 3) := by decide +kernel
theorem dX6_pluck_5 : decode cX6_pluck 5 = .ok (.iload_n 2, 1) := by decide +kernel
theorem dX6_pluck_6 : decode cX6_pluck 6 = .ok (.sipush (-10000), 3) := by decide +kernel
theorem dX6_pluck_9 : decode cX6_pluck 9 = .ok (.sipush 10000, 3) := by decide +kernel
theorem dX6_pluck_12 : decode cX6_pluck 12 = .ok (.invokestatic 48, 3) := by decide +kernel
theorem dX6_pluck_15 : decode cX6_pluck 15 = .ok (.aload_n 0, 1) := by decide +kernel
theorem dX6_pluck_16 : decode cX6_pluck 16 = .ok (.getfield 33, 3) := by decide +kernel
theorem dX6_pluck_19 : decode cX6_pluck 19 = .ok (.aload_n 0, 1) := by decide +kernel
theorem dX6_pluck_20 : decode cX6_pluck 20 = .ok (.getfield 23, 3) := by decide +kernel
theorem dX6_pluck_23 : decode cX6_pluck 23 = .ok (.invokevirtual 60, 3) := by decide +kernel
theorem dX6_pluck_26 : decode cX6_pluck 26 = .ok (.aload_n 0, 1) := by decide +kernel
theorem dX6_pluck_27 : decode cX6_pluck 27 = .ok (.getfield 23, 3) := by decide +kernel
theorem dX6_pluck_30 : decode cX6_pluck 30 = .ok (.iload_n 1, 1) := by decide +kernel
theorem dX6_pluck_31 : decode cX6_pluck 31 = .ok (.invokevirtual 119, 3) := by decide +kernel
theorem dX6_pluck_34 : decode cX6_pluck 34 = .ok (.istore_n 3, 1) := by decide +kernel
theorem dX6_pluck_35 : decode cX6_pluck 35 = .ok (.aload_n 0, 1) := by decide +kernel
theorem dX6_pluck_36 : decode cX6_pluck 36 = .ok (.getfield 23, 3) := by decide +kernel
theorem dX6_pluck_39 : decode cX6_pluck 39 = .ok (.iload_n 1, 1) := by decide +kernel
theorem dX6_pluck_40 : decode cX6_pluck 40 = .ok (.iload_n 2, 1) := by decide +kernel
theorem dX6_pluck_41 : decode cX6_pluck 41 = .ok (.invokevirtual 146, 3) := by decide +kernel
theorem dX6_pluck_44 : decode cX6_pluck 44 = .ok (.iload_n 3, 1) := by decide +kernel
theorem dX6_pluck_45 : decode cX6_pluck 45 = .ok (.ireturn, 1) := by decide +kernel
theorem dX6_strike_0 : decode cX6_strike 0 = .ok (.aload_n 0, 1) := by decide +kernel
theorem dX6_strike_1 : decode cX6_strike 1 = .ok (.iload_n 1, 1) := by decide +kernel
theorem dX6_strike_2 : decode cX6_strike 2 = .ok (.invokevirtual 78, 3) := by decide +kernel
theorem dX6_strike_5 : decode cX6_strike 5 = .ok (.iload_n 2, 1) := by decide +kernel
theorem dX6_strike_6 : decode cX6_strike 6 = .ok (.ldc 149, 2) := by decide +kernel
theorem dX6_strike_8 : decode cX6_strike 8 = .ok (.ldc 150, 2) := by decide +kernel
theorem dX6_strike_10 : decode cX6_strike 10 = .ok (.invokestatic 48, 3) := by decide +kernel
theorem dX6_strike_13 : decode cX6_strike 13 = .ok (.aload_n 0, 1) := by decide +kernel
theorem dX6_strike_14 : decode cX6_strike 14 = .ok (.getfield 33, 3) := by decide +kernel
theorem dX6_strike_17 : decode cX6_strike 17 = .ok (.aload_n 0, 1) := by decide +kernel
theorem dX6_strike_18 : decode cX6_strike 18 = .ok (.getfield 23, 3) := by decide +kernel
theorem dX6_strike_21 : decode cX6_strike 21 = .ok (.invokevirtual 60, 3) := by decide +kernel
theorem dX6_strike_24 : decode cX6_strike 24 = .ok (.aload_n 0, 1) := by decide +kernel
theorem dX6_strike_25 : decode cX6_strike 25 = .ok (.getfield 23, 3) := by decide +kernel
theorem dX6_strike_28 : decode cX6_strike 28 = .ok (.iload_n 1, 1) := by decide +kernel
theorem dX6_strike_29 : decode cX6_strike 29 = .ok (.iload_n 2, 1) := by decide +kernel
theorem dX6_strike_30 : decode cX6_strike 30 = .ok (.invokevirtual 151, 3) := by decide +kernel
theorem dX6_strike_33 : decode cX6_strike 33 = .ok (.aload_n 0, 1) := by decide +kernel
theorem dX6_strike_34 : decode cX6_strike 34 = .ok (.getfield 23, 3) := by decide +kernel
theorem dX6_strike_37 : decode cX6_strike 37 = .ok (.iload_n 1, 1) := by decide +kernel
theorem dX6_strike_38 : decode cX6_strike 38 = .ok (.invokevirtual 130, 3) := by decide +kernel
theorem dX6_strike_41 : decode cX6_strike 41 = .ok (.ireturn, 1) := by decide +kernel
theorem dX6_impulse_0 : decode cX6_impulse 0 = .ok (.aload_n 0, 1) := by decide +kernel
theorem dX6_impulse_1 : decode cX6_impulse 1 = .ok (.iload_n 2, 1) := by decide +kernel
theorem dX6_impulse_2 : decode cX6_impulse 2 = .ok (.invokevirtual 78, 3) := by decide +kernel
theorem dX6_impulse_5 : decode cX6_impulse 5 = .ok (.iload_n 1, 1) := by decide +kernel
theorem dX6_impulse_6 : decode cX6_impulse 6 = .ok (.aload_n 0, 1) := by decide +kernel
theorem dX6_impulse_7 : decode cX6_impulse 7 = .ok (.getfield 23, 3) := by decide +kernel
theorem dX6_impulse_10 : decode cX6_impulse 10 = .ok (.getfield 154, 3) := by decide +kernel
theorem dX6_impulse_13 : decode cX6_impulse 13 = .ok (.sipush 9999, 3) := by decide +kernel
theorem dX6_impulse_16 : decode cX6_impulse 16 = .ok (.invokestatic 48, 3) := by decide +kernel
theorem dX6_impulse_19 : decode cX6_impulse 19 = .ok (.iload_n 3, 1) := by decide +kernel
theorem dX6_impulse_20 : decode cX6_impulse 20 = .ok (.sipush (-9999), 3) := by decide +kernel
theorem dX6_impulse_23 : decode cX6_impulse 23 = .ok (.sipush 9999, 3) := by decide +kernel
theorem dX6_impulse_26 : decode cX6_impulse 26 = .ok (.invokestatic 48, 3) := by decide +kernel
theorem dX6_impulse_29 : decode cX6_impulse 29 = .ok (.iload_n 3, 1) := by decide +kernel
theorem dX6_impulse_30 : decode cX6_impulse 30 = .ok (.ifCond .ne 13, 3) := by decide +kernel
theorem dX6_impulse_33 : decode cX6_impulse 33 = .ok (.new 157, 3) := by decide +kernel
theorem dX6_impulse_36 : decode cX6_impulse 36 = .ok (.dup, 1) := by decide +kernel
theorem dX6_impulse_37 : decode cX6_impulse 37 = .ok (.ldc 159, 2) := by decide +kernel
theorem dX6_impulse_39 : decode cX6_impulse 39 = .ok (.invokespecial 161, 3) := by decide +kernel
theorem dX6_impulse_42 : decode cX6_impulse 42 = .ok (.athrow, 1) := by decide +kernel
theorem dX6_impulse_43 : decode cX6_impulse 43 = .ok (.aload_n 0, 1) := by decide +kernel
theorem dX6_impulse_44 : decode cX6_impulse 44 = .ok (.getfield 23, 3) := by decide +kernel
theorem dX6_impulse_47 : decode cX6_impulse 47 = .ok (.getfield 107, 3) := by decide +kernel
theorem dX6_impulse_50 : decode cX6_impulse 50 = .ok (.getfield 111, 3) := by decide +kernel
theorem dX6_impulse_53 : decode cX6_impulse 53 = .ok (.bipush 16, 2) := by decide +kernel
theorem dX6_impulse_55 : decode cX6_impulse 55 = .ok (.if_icmp .lt 13, 3) := by decide +kernel
theorem dX6_impulse_58 : decode cX6_impulse 58 = .ok (.new 164, 3) := by decide +kernel
theorem dX6_impulse_61 : decode cX6_impulse 61 = .ok (.dup, 1) := by decide +kernel
theorem dX6_impulse_62 : decode cX6_impulse 62 = .ok (.ldc 166, 2) := by decide +kernel
theorem dX6_impulse_64 : decode cX6_impulse 64 = .ok (.invokespecial 168, 3) := by decide +kernel
theorem dX6_impulse_67 : decode cX6_impulse 67 = .ok (.athrow, 1) := by decide +kernel
theorem dX6_impulse_68 : decode cX6_impulse 68 = .ok (.aload_n 0, 1) := by decide +kernel
theorem dX6_impulse_69 : decode cX6_impulse 69 = .ok (.getfield 33, 3) := by decide +kernel
theorem dX6_impulse_72 : decode cX6_impulse 72 = .ok (.aload_n 0, 1) := by decide +kernel
theorem dX6_impulse_73 : decode cX6_impulse 73 = .ok (.getfield 23, 3) := by decide +kernel
theorem dX6_impulse_76 : decode cX6_impulse 76 = .ok (.invokevirtual 60, 3) := by decide +kernel
theorem dX6_impulse_79 : decode cX6_impulse 79 = .ok (.aload_n 0, 1) := by decide +kernel
theorem dX6_impulse_80 : decode cX6_impulse 80 = .ok (.getfield 23, 3) := by decide +kernel
theorem dX6_impulse_83 : decode cX6_impulse 83 = .ok (.getfield 107, 3) := by decide +kernel
theorem dX6_impulse_86 : decode cX6_impulse 86 = .ok (.iload_n 1, 1) := by decide +kernel
theorem dX6_impulse_87 : decode cX6_impulse 87 = .ok (.iload_n 2, 1) := by decide +kernel
theorem dX6_impulse_88 : decode cX6_impulse 88 = .ok (.iload_n 3, 1) := by decide +kernel
theorem dX6_impulse_89 : decode cX6_impulse 89 = .ok (.invokevirtual 169, 3) := by decide +kernel
theorem dX6_impulse_92 : decode cX6_impulse 92 = .ok (.aload_n 0, 1) := by decide +kernel
theorem dX6_impulse_93 : decode cX6_impulse 93 = .ok (.getfield 23, 3) := by decide +kernel
theorem dX6_impulse_96 : decode cX6_impulse 96 = .ok (.getfield 107, 3) := by decide +kernel
theorem dX6_impulse_99 : decode cX6_impulse 99 = .ok (.getfield 111, 3) := by decide +kernel
theorem dX6_impulse_102 : decode cX6_impulse 102 = .ok (.ireturn, 1) := by decide +kernel
theorem dX6_stiffen_0 : decode cX6_stiffen 0 = .ok (.aload_n 0, 1) := by decide +kernel
theorem dX6_stiffen_1 : decode cX6_stiffen 1 = .ok (.iload_n 1, 1) := by decide +kernel
theorem dX6_stiffen_2 : decode cX6_stiffen 2 = .ok (.invokevirtual 85, 3) := by decide +kernel
theorem dX6_stiffen_5 : decode cX6_stiffen 5 = .ok (.iload_n 2, 1) := by decide +kernel
theorem dX6_stiffen_6 : decode cX6_stiffen 6 = .ok (.iconst 0, 1) := by decide +kernel
theorem dX6_stiffen_7 : decode cX6_stiffen 7 = .ok (.sipush 999, 3) := by decide +kernel
theorem dX6_stiffen_10 : decode cX6_stiffen 10 = .ok (.invokestatic 48, 3) := by decide +kernel
theorem dX6_stiffen_13 : decode cX6_stiffen 13 = .ok (.aload_n 0, 1) := by decide +kernel
theorem dX6_stiffen_14 : decode cX6_stiffen 14 = .ok (.getfield 33, 3) := by decide +kernel
theorem dX6_stiffen_17 : decode cX6_stiffen 17 = .ok (.aload_n 0, 1) := by decide +kernel
theorem dX6_stiffen_18 : decode cX6_stiffen 18 = .ok (.getfield 23, 3) := by decide +kernel
theorem dX6_stiffen_21 : decode cX6_stiffen 21 = .ok (.invokevirtual 60, 3) := by decide +kernel
theorem dX6_stiffen_24 : decode cX6_stiffen 24 = .ok (.aload_n 0, 1) := by decide +kernel
theorem dX6_stiffen_25 : decode cX6_stiffen 25 = .ok (.getfield 23, 3) := by decide +kernel
theorem dX6_stiffen_28 : decode cX6_stiffen 28 = .ok (.iload_n 1, 1) := by decide +kernel
theorem dX6_stiffen_29 : decode cX6_stiffen 29 = .ok (.invokevirtual 172, 3) := by decide +kernel
theorem dX6_stiffen_32 : decode cX6_stiffen 32 = .ok (.istore_n 3, 1) := by decide +kernel
theorem dX6_stiffen_33 : decode cX6_stiffen 33 = .ok (.aload_n 0, 1) := by decide +kernel
theorem dX6_stiffen_34 : decode cX6_stiffen 34 = .ok (.getfield 23, 3) := by decide +kernel
theorem dX6_stiffen_37 : decode cX6_stiffen 37 = .ok (.iload_n 1, 1) := by decide +kernel
theorem dX6_stiffen_38 : decode cX6_stiffen 38 = .ok (.iload_n 2, 1) := by decide +kernel
theorem dX6_stiffen_39 : decode cX6_stiffen 39 = .ok (.invokevirtual 175, 3) := by decide +kernel
theorem dX6_stiffen_42 : decode cX6_stiffen 42 = .ok (.iload_n 3, 1) := by decide +kernel
theorem dX6_stiffen_43 : decode cX6_stiffen 43 = .ok (.ireturn, 1) := by decide +kernel
theorem dX6_mend_0 : decode cX6_mend 0 = .ok (.aload_n 0, 1) := by decide +kernel
theorem dX6_mend_1 : decode cX6_mend 1 = .ok (.iload_n 1, 1) := by decide +kernel
theorem dX6_mend_2 : decode cX6_mend 2 = .ok (.invokevirtual 85, 3) := by decide +kernel
theorem dX6_mend_5 : decode cX6_mend 5 = .ok (.aload_n 0, 1) := by decide +kernel
theorem dX6_mend_6 : decode cX6_mend 6 = .ok (.getfield 23, 3) := by decide +kernel
theorem dX6_mend_9 : decode cX6_mend 9 = .ok (.iload_n 1, 1) := by decide +kernel
theorem dX6_mend_10 : decode cX6_mend 10 = .ok (.invokevirtual 178, 3) := by decide +kernel
theorem dX6_mend_13 : decode cX6_mend 13 = .ok (.ifCond .ne 13, 3) := by decide +kernel
theorem dX6_mend_16 : decode cX6_mend 16 = .ok (.new 164, 3) := by decide +kernel
theorem dX6_mend_19 : decode cX6_mend 19 = .ok (.dup, 1) := by decide +kernel
theorem dX6_mend_20 : decode cX6_mend 20 = .ok (.ldc 182, 2) := by decide +kernel
theorem dX6_mend_22 : decode cX6_mend 22 = .ok (.invokespecial 168, 3) := by decide +kernel
theorem dX6_mend_25 : decode cX6_mend 25 = .ok (.athrow, 1) := by decide +kernel
theorem dX6_mend_26 : decode cX6_mend 26 = .ok (.aload_n 0, 1) := by decide +kernel
theorem dX6_mend_27 : decode cX6_mend 27 = .ok (.getfield 33, 3) := by decide +kernel
theorem dX6_mend_30 : decode cX6_mend 30 = .ok (.aload_n 0, 1) := by decide +kernel
theorem dX6_mend_31 : decode cX6_mend 31 = .ok (.getfield 23, 3) := by decide +kernel
theorem dX6_mend_34 : decode cX6_mend 34 = .ok (.invokevirtual 60, 3) := by decide +kernel
theorem dX6_mend_37 : decode cX6_mend 37 = .ok (.aload_n 0, 1) := by decide +kernel
theorem dX6_mend_38 : decode cX6_mend 38 = .ok (.getfield 23, 3) := by decide +kernel
theorem dX6_mend_41 : decode cX6_mend 41 = .ok (.iload_n 1, 1) := by decide +kernel
theorem dX6_mend_42 : decode cX6_mend 42 = .ok (.iconst 0, 1) := by decide +kernel
theorem dX6_mend_43 : decode cX6_mend 43 = .ok (.invokevirtual 184, 3) := by decide +kernel
theorem dX6_mend_46 : decode cX6_mend 46 = .ok (.aload_n 0, 1) := by decide +kernel
theorem dX6_mend_47 : decode cX6_mend 47 = .ok (.getfield 23, 3) := by decide +kernel
theorem dX6_mend_50 : decode cX6_mend 50 = .ok (.invokevirtual 133, 3) := by decide +kernel
theorem dX6_mend_53 : decode cX6_mend 53 = .ok (.ireturn, 1) := by decide +kernel
theorem dX6_move_0 : decode cX6_move 0 = .ok (.iload_n 2, 1) := by decide +kernel
theorem dX6_move_1 : decode cX6_move 1 = .ok (.ldc 149, 2) := by decide +kernel
theorem dX6_move_3 : decode cX6_move 3 = .ok (.ldc 150, 2) := by decide +kernel
theorem dX6_move_5 : decode cX6_move 5 = .ok (.invokestatic 48, 3) := by decide +kernel
theorem dX6_move_8 : decode cX6_move 8 = .ok (.aload_n 0, 1) := by decide +kernel
theorem dX6_move_9 : decode cX6_move 9 = .ok (.getfield 33, 3) := by decide +kernel
theorem dX6_move_12 : decode cX6_move 12 = .ok (.aload_n 0, 1) := by decide +kernel
theorem dX6_move_13 : decode cX6_move 13 = .ok (.getfield 23, 3) := by decide +kernel
theorem dX6_move_16 : decode cX6_move 16 = .ok (.invokevirtual 60, 3) := by decide +kernel
theorem dX6_move_19 : decode cX6_move 19 = .ok (.iload_n 1, 1) := by decide +kernel
theorem dX6_move_20 : decode cX6_move 20 = .ok (.ifCond .eq 13, 3) := by decide +kernel
theorem dX6_move_23 : decode cX6_move 23 = .ok (.aload_n 0, 1) := by decide +kernel
theorem dX6_move_24 : decode cX6_move 24 = .ok (.getfield 23, 3) := by decide +kernel
theorem dX6_move_27 : decode cX6_move 27 = .ok (.getfield 188, 3) := by decide +kernel
theorem dX6_move_30 : decode cX6_move 30 = .ok (.goto 10, 3) := by decide +kernel
theorem dX6_move_33 : decode cX6_move 33 = .ok (.aload_n 0, 1) := by decide +kernel
theorem dX6_move_34 : decode cX6_move 34 = .ok (.getfield 23, 3) := by decide +kernel
theorem dX6_move_37 : decode cX6_move 37 = .ok (.getfield 191, 3) := by decide +kernel
theorem dX6_move_40 : decode cX6_move 40 = .ok (.istore_n 3, 1) := by decide +kernel
theorem dX6_move_41 : decode cX6_move 41 = .ok (.aload_n 0, 1) := by decide +kernel
theorem dX6_move_42 : decode cX6_move 42 = .ok (.getfield 23, 3) := by decide +kernel
theorem dX6_move_45 : decode cX6_move 45 = .ok (.iload_n 1, 1) := by decide +kernel
theorem dX6_move_46 : decode cX6_move 46 = .ok (.iload_n 2, 1) := by decide +kernel
theorem dX6_move_47 : decode cX6_move 47 = .ok (.invokevirtual 194, 3) := by decide +kernel
theorem dX6_move_50 : decode cX6_move 50 = .ok (.iload_n 3, 1) := by decide +kernel
theorem dX6_move_51 : decode cX6_move 51 = .ok (.ireturn, 1) := by decide +kernel
theorem dX6_undo_0 : decode cX6_undo 0 = .ok (.aload_n 0, 1) := by decide +kernel
theorem dX6_undo_1 : decode cX6_undo 1 = .ok (.getfield 33, 3) := by decide +kernel
theorem dX6_undo_4 : decode cX6_undo 4 = .ok (.getfield 198, 3) := by decide +kernel
theorem dX6_undo_7 : decode cX6_undo 7 = .ok (.ifCond .ne 5, 3) := by decide +kernel
theorem dX6_undo_10 : decode cX6_undo 10 = .ok (.iconst (-1), 1) := by decide +kernel
theorem dX6_undo_11 : decode cX6_undo 11 = .ok (.ireturn, 1) := by decide +kernel
theorem dX6_undo_12 : decode cX6_undo 12 = .ok (.aload_n 0, 1) := by decide +kernel
theorem dX6_undo_13 : decode cX6_undo 13 = .ok (.getfield 33, 3) := by decide +kernel
theorem dX6_undo_16 : decode cX6_undo 16 = .ok (.aload_n 0, 1) := by decide +kernel
theorem dX6_undo_17 : decode cX6_undo 17 = .ok (.getfield 23, 3) := by decide +kernel
theorem dX6_undo_20 : decode cX6_undo 20 = .ok (.invokevirtual 199, 3) := by decide +kernel
theorem dX6_undo_23 : decode cX6_undo 23 = .ok (.aload_n 0, 1) := by decide +kernel
theorem dX6_undo_24 : decode cX6_undo 24 = .ok (.getfield 33, 3) := by decide +kernel
theorem dX6_undo_27 : decode cX6_undo 27 = .ok (.getfield 198, 3) := by decide +kernel
theorem dX6_undo_30 : decode cX6_undo 30 = .ok (.ireturn, 1) := by decide +kernel
theorem dX6_checksum_0 : decode cX6_checksum 0 = .ok (.lconst 0, 1) := by decide +kernel
theorem dX6_checksum_1 : decode cX6_checksum 1 = .ok (.lstore_n 1, 1) := by decide +kernel
theorem dX6_checksum_2 : decode cX6_checksum 2 = .ok (.iconst 0, 1) := by decide +kernel
theorem dX6_checksum_3 : decode cX6_checksum 3 = .ok (.istore_n 3, 1) := by decide +kernel
theorem dX6_checksum_4 : decode cX6_checksum 4 = .ok (.iload_n 3, 1) := by decide +kernel
theorem dX6_checksum_5 : decode cX6_checksum 5 = .ok (.bipush 11, 2) := by decide +kernel
theorem dX6_checksum_7 : decode cX6_checksum 7 = .ok (.if_icmp .gt 25, 3) := by decide +kernel
theorem dX6_checksum_10 : decode cX6_checksum 10 = .ok (.ldc2_w 202, 3) := by decide +kernel
theorem dX6_checksum_13 : decode cX6_checksum 13 = .ok (.lload_n 1, 1) := by decide +kernel
theorem dX6_checksum_14 : decode cX6_checksum 14 = .ok (.lmul, 1) := by decide +kernel
theorem dX6_checksum_15 : decode cX6_checksum 15 = .ok (.aload_n 0, 1) := by decide +kernel
theorem dX6_checksum_16 : decode cX6_checksum 16 = .ok (.getfield 23, 3) := by decide +kernel
theorem dX6_checksum_19 : decode cX6_checksum 19 = .ok (.iload_n 3, 1) := by decide +kernel
theorem dX6_checksum_20 : decode cX6_checksum 20 = .ok (.invokevirtual 70, 3) := by decide +kernel
theorem dX6_checksum_23 : decode cX6_checksum 23 = .ok (.i2l, 1) := by decide +kernel
theorem dX6_checksum_24 : decode cX6_checksum 24 = .ok (.ladd, 1) := by decide +kernel
theorem dX6_checksum_25 : decode cX6_checksum 25 = .ok (.lstore_n 1, 1) := by decide +kernel
theorem dX6_checksum_26 : decode cX6_checksum 26 = .ok (.iinc 3 1, 3) := by decide +kernel
theorem dX6_checksum_29 : decode cX6_checksum 29 = .ok (.goto (-25), 3) := by decide +kernel
theorem dX6_checksum_32 : decode cX6_checksum 32 = .ok (.iconst 0, 1) := by decide +kernel
theorem dX6_checksum_33 : decode cX6_checksum 33 = .ok (.istore_n 3, 1) := by decide +kernel
theorem dX6_checksum_34 : decode cX6_checksum 34 = .ok (.iload_n 3, 1) := by decide +kernel
theorem dX6_checksum_35 : decode cX6_checksum 35 = .ok (.bipush 7, 2) := by decide +kernel
theorem dX6_checksum_37 : decode cX6_checksum 37 = .ok (.if_icmp .gt 24, 3) := by decide +kernel
theorem dX6_checksum_40 : decode cX6_checksum 40 = .ok (.ldc2_w 202, 3) := by decide +kernel
theorem dX6_checksum_43 : decode cX6_checksum 43 = .ok (.lload_n 1, 1) := by decide +kernel
theorem dX6_checksum_44 : decode cX6_checksum 44 = .ok (.lmul, 1) := by decide +kernel
theorem dX6_checksum_45 : decode cX6_checksum 45 = .ok (.aload_n 0, 1) := by decide +kernel
theorem dX6_checksum_46 : decode cX6_checksum 46 = .ok (.getfield 23, 3) := by decide +kernel
theorem dX6_checksum_49 : decode cX6_checksum 49 = .ok (.iload_n 3, 1) := by decide +kernel
theorem dX6_checksum_50 : decode cX6_checksum 50 = .ok (.invokevirtual 74, 3) := by decide +kernel
theorem dX6_checksum_53 : decode cX6_checksum 53 = .ok (.ladd, 1) := by decide +kernel
theorem dX6_checksum_54 : decode cX6_checksum 54 = .ok (.lstore_n 1, 1) := by decide +kernel
theorem dX6_checksum_55 : decode cX6_checksum 55 = .ok (.iinc 3 1, 3) := by decide +kernel
theorem dX6_checksum_58 : decode cX6_checksum 58 = .ok (.goto (-24), 3) := by decide +kernel
theorem dX6_checksum_61 : decode cX6_checksum 61 = .ok (.iconst 0, 1) := by decide +kernel
theorem dX6_checksum_62 : decode cX6_checksum 62 = .ok (.istore_n 3, 1) := by decide +kernel
theorem dX6_checksum_63 : decode cX6_checksum 63 = .ok (.iload_n 3, 1) := by decide +kernel
theorem dX6_checksum_64 : decode cX6_checksum 64 = .ok (.aload_n 0, 1) := by decide +kernel
theorem dX6_checksum_65 : decode cX6_checksum 65 = .ok (.getfield 23, 3) := by decide +kernel
theorem dX6_checksum_68 : decode cX6_checksum 68 = .ok (.getfield 67, 3) := by decide +kernel
theorem dX6_checksum_71 : decode cX6_checksum 71 = .ok (.if_icmp .ge 42, 3) := by decide +kernel
theorem dX6_checksum_74 : decode cX6_checksum 74 = .ok (.iconst 0, 1) := by decide +kernel
theorem dX6_checksum_75 : decode cX6_checksum 75 = .ok (.istore 4, 2) := by decide +kernel
theorem dX6_checksum_77 : decode cX6_checksum 77 = .ok (.iload 4, 2) := by decide +kernel
theorem dX6_checksum_79 : decode cX6_checksum 79 = .ok (.iconst 3, 1) := by decide +kernel
theorem dX6_checksum_80 : decode cX6_checksum 80 = .ok (.if_icmp .gt 27, 3) := by decide +kernel
theorem dX6_checksum_83 : decode cX6_checksum 83 = .ok (.ldc2_w 202, 3) := by decide +kernel
theorem dX6_checksum_86 : decode cX6_checksum 86 = .ok (.lload_n 1, 1) := by decide +kernel
theorem dX6_checksum_87 : decode cX6_checksum 87 = .ok (.lmul, 1) := by decide +kernel
theorem dX6_checksum_88 : decode cX6_checksum 88 = .ok (.aload_n 0, 1) := by decide +kernel
theorem dX6_checksum_89 : decode cX6_checksum 89 = .ok (.getfield 23, 3) := by decide +kernel
theorem dX6_checksum_92 : decode cX6_checksum 92 = .ok (.iload_n 3, 1) := by decide +kernel
theorem dX6_checksum_93 : decode cX6_checksum 93 = .ok (.iload 4, 2) := by decide +kernel
theorem dX6_checksum_95 : decode cX6_checksum 95 = .ok (.invokevirtual 81, 3) := by decide +kernel
theorem dX6_checksum_98 : decode cX6_checksum 98 = .ok (.i2l, 1) := by decide +kernel
theorem dX6_checksum_99 : decode cX6_checksum 99 = .ok (.ladd, 1) := by decide +kernel
theorem dX6_checksum_100 : decode cX6_checksum 100 = .ok (.lstore_n 1, 1) := by decide +kernel
theorem dX6_checksum_101 : decode cX6_checksum 101 = .ok (.iinc 4 1, 3) := by decide +kernel
theorem dX6_checksum_104 : decode cX6_checksum 104 = .ok (.goto (-27), 3) := by decide +kernel
theorem dX6_checksum_107 : decode cX6_checksum 107 = .ok (.iinc 3 1, 3) := by decide +kernel
theorem dX6_checksum_110 : decode cX6_checksum 110 = .ok (.goto (-47), 3) := by decide +kernel
theorem dX6_checksum_113 : decode cX6_checksum 113 = .ok (.iconst 0, 1) := by decide +kernel
theorem dX6_checksum_114 : decode cX6_checksum 114 = .ok (.istore_n 3, 1) := by decide +kernel
theorem dX6_checksum_115 : decode cX6_checksum 115 = .ok (.iload_n 3, 1) := by decide +kernel
theorem dX6_checksum_116 : decode cX6_checksum 116 = .ok (.aload_n 0, 1) := by decide +kernel
theorem dX6_checksum_117 : decode cX6_checksum 117 = .ok (.getfield 23, 3) := by decide +kernel
theorem dX6_checksum_120 : decode cX6_checksum 120 = .ok (.getfield 67, 3) := by decide +kernel
theorem dX6_checksum_123 : decode cX6_checksum 123 = .ok (.if_icmp .gt 42, 3) := by decide +kernel
theorem dX6_checksum_126 : decode cX6_checksum 126 = .ok (.iconst 0, 1) := by decide +kernel
theorem dX6_checksum_127 : decode cX6_checksum 127 = .ok (.istore 4, 2) := by decide +kernel
theorem dX6_checksum_129 : decode cX6_checksum 129 = .ok (.iload 4, 2) := by decide +kernel
theorem dX6_checksum_131 : decode cX6_checksum 131 = .ok (.iconst 4, 1) := by decide +kernel
theorem dX6_checksum_132 : decode cX6_checksum 132 = .ok (.if_icmp .gt 27, 3) := by decide +kernel
theorem dX6_checksum_135 : decode cX6_checksum 135 = .ok (.ldc2_w 202, 3) := by decide +kernel
theorem dX6_checksum_138 : decode cX6_checksum 138 = .ok (.lload_n 1, 1) := by decide +kernel
theorem dX6_checksum_139 : decode cX6_checksum 139 = .ok (.lmul, 1) := by decide +kernel
theorem dX6_checksum_140 : decode cX6_checksum 140 = .ok (.aload_n 0, 1) := by decide +kernel
theorem dX6_checksum_141 : decode cX6_checksum 141 = .ok (.getfield 23, 3) := by decide +kernel
theorem dX6_checksum_144 : decode cX6_checksum 144 = .ok (.iload_n 3, 1) := by decide +kernel
theorem dX6_checksum_145 : decode cX6_checksum 145 = .ok (.iload 4, 2) := by decide +kernel
theorem dX6_checksum_147 : decode cX6_checksum 147 = .ok (.invokevirtual 88, 3) := by decide +kernel
theorem dX6_checksum_150 : decode cX6_checksum 150 = .ok (.i2l, 1) := by decide +kernel
theorem dX6_checksum_151 : decode cX6_checksum 151 = .ok (.ladd, 1) := by decide +kernel
theorem dX6_checksum_152 : decode cX6_checksum 152 = .ok (.lstore_n 1, 1) := by decide +kernel
theorem dX6_checksum_153 : decode cX6_checksum 153 = .ok (.iinc 4 1, 3) := by decide +kernel
theorem dX6_checksum_156 : decode cX6_checksum 156 = .ok (.goto (-27), 3) := by decide +kernel
theorem dX6_checksum_159 : decode cX6_checksum 159 = .ok (.iinc 3 1, 3) := by decide +kernel
theorem dX6_checksum_162 : decode cX6_checksum 162 = .ok (.goto (-47), 3) := by decide +kernel
theorem dX6_checksum_165 : decode cX6_checksum 165 = .ok (.iconst 0, 1) := by decide +kernel
theorem dX6_checksum_166 : decode cX6_checksum 166 = .ok (.istore_n 3, 1) := by decide +kernel
theorem dX6_checksum_167 : decode cX6_checksum 167 = .ok (.iload_n 3, 1) := by decide +kernel
theorem dX6_checksum_168 : decode cX6_checksum 168 = .ok (.aload_n 0, 1) := by decide +kernel
theorem dX6_checksum_169 : decode cX6_checksum 169 = .ok (.getfield 23, 3) := by decide +kernel
theorem dX6_checksum_172 : decode cX6_checksum 172 = .ok (.getfield 91, 3) := by decide +kernel
theorem dX6_checksum_175 : decode cX6_checksum 175 = .ok (.getfield 95, 3) := by decide +kernel
theorem dX6_checksum_178 : decode cX6_checksum 178 = .ok (.if_icmp .ge 45, 3) := by decide +kernel
theorem dX6_checksum_181 : decode cX6_checksum 181 = .ok (.iconst 0, 1) := by decide +kernel
theorem dX6_checksum_182 : decode cX6_checksum 182 = .ok (.istore 4, 2) := by decide +kernel
theorem dX6_checksum_184 : decode cX6_checksum 184 = .ok (.iload 4, 2) := by decide +kernel
theorem dX6_checksum_186 : decode cX6_checksum 186 = .ok (.iconst 1, 1) := by decide +kernel
theorem dX6_checksum_187 : decode cX6_checksum 187 = .ok (.if_icmp .gt 30, 3) := by decide +kernel
theorem dX6_checksum_190 : decode cX6_checksum 190 = .ok (.ldc2_w 202, 3) := by decide +kernel
theorem dX6_checksum_193 : decode cX6_checksum 193 = .ok (.lload_n 1, 1) := by decide +kernel
theorem dX6_checksum_194 : decode cX6_checksum 194 = .ok (.lmul, 1) := by decide +kernel
theorem dX6_checksum_195 : decode cX6_checksum 195 = .ok (.aload_n 0, 1) := by decide +kernel
theorem dX6_checksum_196 : decode cX6_checksum 196 = .ok (.getfield 23, 3) := by decide +kernel
theorem dX6_checksum_199 : decode cX6_checksum 199 = .ok (.getfield 91, 3) := by decide +kernel
theorem dX6_checksum_202 : decode cX6_checksum 202 = .ok (.iload_n 3, 1) := by decide +kernel
theorem dX6_checksum_203 : decode cX6_checksum 203 = .ok (.iload 4, 2) := by decide +kernel
theorem dX6_checksum_205 : decode cX6_checksum 205 = .ok (.invokevirtual 104, 3) := by decide +kernel
theorem dX6_checksum_208 : decode cX6_checksum 208 = .ok (.i2l, 1) := by decide +kernel
theorem dX6_checksum_209 : decode cX6_checksum 209 = .ok (.ladd, 1) := by decide +kernel
theorem dX6_checksum_210 : decode cX6_checksum 210 = .ok (.lstore_n 1, 1) := by decide +kernel
theorem dX6_checksum_211 : decode cX6_checksum 211 = .ok (.iinc 4 1, 3) := by decide +kernel
theorem dX6_checksum_214 : decode cX6_checksum 214 = .ok (.goto (-30), 3) := by decide +kernel
theorem dX6_checksum_217 : decode cX6_checksum 217 = .ok (.iinc 3 1, 3) := by decide +kernel
theorem dX6_checksum_220 : decode cX6_checksum 220 = .ok (.goto (-53), 3) := by decide +kernel
theorem dX6_checksum_223 : decode cX6_checksum 223 = .ok (.lload_n 1, 1) := by decide +kernel
theorem dX6_checksum_224 : decode cX6_checksum 224 = .ok (.lreturn, 1) := by decide +kernel
theorem dX6_appendWord_0 : decode cX6_appendWord 0 = .ok (.bipush 24, 2) := by decide +kernel
theorem dX6_appendWord_2 : decode cX6_appendWord 2 = .ok (.istore_n 2, 1) := by decide +kernel
theorem dX6_appendWord_3 : decode cX6_appendWord 3 = .ok (.iload_n 2, 1) := by decide +kernel
theorem dX6_appendWord_4 : decode cX6_appendWord 4 = .ok (.ifCond .lt 51, 3) := by decide +kernel
theorem dX6_appendWord_7 : decode cX6_appendWord 7 = .ok (.aload_n 0, 1) := by decide +kernel
theorem dX6_appendWord_8 : decode cX6_appendWord 8 = .ok (.getfield 37, 3) := by decide +kernel
theorem dX6_appendWord_11 : decode cX6_appendWord 11 = .ok (.ifCond .lt 38, 3) := by decide +kernel
theorem dX6_appendWord_14 : decode cX6_appendWord 14 = .ok (.aload_n 0, 1) := by decide +kernel
theorem dX6_appendWord_15 : decode cX6_appendWord 15 = .ok (.getfield 37, 3) := by decide +kernel
theorem dX6_appendWord_18 : decode cX6_appendWord 18 = .ok (.aload_n 0, 1) := by decide +kernel
theorem dX6_appendWord_19 : decode cX6_appendWord 19 = .ok (.getfield 9, 3) := by decide +kernel
theorem dX6_appendWord_22 : decode cX6_appendWord 22 = .ok (.arraylength, 1) := by decide +kernel
theorem dX6_appendWord_23 : decode cX6_appendWord 23 = .ok (.if_icmp .ge 26, 3) := by decide +kernel
theorem dX6_appendWord_26 : decode cX6_appendWord 26 = .ok (.aload_n 0, 1) := by decide +kernel
theorem dX6_appendWord_27 : decode cX6_appendWord 27 = .ok (.getfield 9, 3) := by decide +kernel
theorem dX6_appendWord_30 : decode cX6_appendWord 30 = .ok (.aload_n 0, 1) := by decide +kernel
theorem dX6_appendWord_31 : decode cX6_appendWord 31 = .ok (.getfield 37, 3) := by decide +kernel
theorem dX6_appendWord_34 : decode cX6_appendWord 34 = .ok (.iload_n 1, 1) := by decide +kernel
theorem dX6_appendWord_35 : decode cX6_appendWord 35 = .ok (.iload_n 2, 1) := by decide +kernel
theorem dX6_appendWord_36 : decode cX6_appendWord 36 = .ok (.ishr, 1) := by decide +kernel
theorem dX6_appendWord_37 : decode cX6_appendWord 37 = .ok (.i2b, 1) := by decide +kernel
theorem dX6_appendWord_38 : decode cX6_appendWord 38 = .ok (.bastore, 1) := by decide +kernel
theorem dX6_appendWord_39 : decode cX6_appendWord 39 = .ok (.aload_n 0, 1) := by decide +kernel
theorem dX6_appendWord_40 : decode cX6_appendWord 40 = .ok (.dup, 1) := by decide +kernel
theorem dX6_appendWord_41 : decode cX6_appendWord 41 = .ok (.getfield 37, 3) := by decide +kernel
theorem dX6_appendWord_44 : decode cX6_appendWord 44 = .ok (.iconst 1, 1) := by decide +kernel
theorem dX6_appendWord_45 : decode cX6_appendWord 45 = .ok (.iadd, 1) := by decide +kernel
theorem dX6_appendWord_46 : decode cX6_appendWord 46 = .ok (.putfield 37, 3) := by decide +kernel
theorem dX6_appendWord_49 : decode cX6_appendWord 49 = .ok (.iinc 2 (-8), 3) := by decide +kernel
theorem dX6_appendWord_52 : decode cX6_appendWord 52 = .ok (.goto (-49), 3) := by decide +kernel
theorem dX6_appendWord_55 : decode cX6_appendWord 55 = .ok (.return_, 1) := by decide +kernel
theorem dX6_requireMass_0 : decode cX6_requireMass 0 = .ok (.iload_n 1, 1) := by decide +kernel
theorem dX6_requireMass_1 : decode cX6_requireMass 1 = .ok (.ifCond .lt 14, 3) := by decide +kernel
theorem dX6_requireMass_4 : decode cX6_requireMass 4 = .ok (.iload_n 1, 1) := by decide +kernel
theorem dX6_requireMass_5 : decode cX6_requireMass 5 = .ok (.aload_n 0, 1) := by decide +kernel
theorem dX6_requireMass_6 : decode cX6_requireMass 6 = .ok (.getfield 23, 3) := by decide +kernel
theorem dX6_requireMass_9 : decode cX6_requireMass 9 = .ok (.getfield 67, 3) := by decide +kernel
theorem dX6_requireMass_12 : decode cX6_requireMass 12 = .ok (.if_icmp .lt 13, 3) := by decide +kernel
theorem dX6_requireMass_15 : decode cX6_requireMass 15 = .ok (.new 204, 3) := by decide +kernel
theorem dX6_requireMass_18 : decode cX6_requireMass 18 = .ok (.dup, 1) := by decide +kernel
theorem dX6_requireMass_19 : decode cX6_requireMass 19 = .ok (.ldc 206, 2) := by decide +kernel
theorem dX6_requireMass_21 : decode cX6_requireMass 21 = .ok (.invokespecial 208, 3) := by decide +kernel
theorem dX6_requireMass_24 : decode cX6_requireMass 24 = .ok (.athrow, 1) := by decide +kernel
theorem dX6_requireMass_25 : decode cX6_requireMass 25 = .ok (.return_, 1) := by decide +kernel
theorem dX6_requireSpring_0 : decode cX6_requireSpring 0 = .ok (.iload_n 1, 1) := by decide +kernel
theorem dX6_requireSpring_1 : decode cX6_requireSpring 1 = .ok (.ifCond .lt 14, 3) := by decide +kernel
theorem dX6_requireSpring_4 : decode cX6_requireSpring 4 = .ok (.iload_n 1, 1) := by decide +kernel
theorem dX6_requireSpring_5 : decode cX6_requireSpring 5 = .ok (.aload_n 0, 1) := by decide +kernel
theorem dX6_requireSpring_6 : decode cX6_requireSpring 6 = .ok (.getfield 23, 3) := by decide +kernel
theorem dX6_requireSpring_9 : decode cX6_requireSpring 9 = .ok (.getfield 67, 3) := by decide +kernel
theorem dX6_requireSpring_12 : decode cX6_requireSpring 12 = .ok (.if_icmp .le 13, 3) := by decide +kernel
theorem dX6_requireSpring_15 : decode cX6_requireSpring 15 = .ok (.new 204, 3) := by decide +kernel
theorem dX6_requireSpring_18 : decode cX6_requireSpring 18 = .ok (.dup, 1) := by decide +kernel
theorem dX6_requireSpring_19 : decode cX6_requireSpring 19 = .ok (.ldc 209, 2) := by decide +kernel
theorem dX6_requireSpring_21 : decode cX6_requireSpring 21 = .ok (.invokespecial 208, 3) := by decide +kernel
theorem dX6_requireSpring_24 : decode cX6_requireSpring 24 = .ok (.athrow, 1) := by decide +kernel
theorem dX6_requireSpring_25 : decode cX6_requireSpring 25 = .ok (.return_, 1) := by decide +kernel
theorem dX6_requireElement_0 : decode cX6_requireElement 0 = .ok (.iload_n 0, 1) := by decide +kernel
theorem dX6_requireElement_1 : decode cX6_requireElement 1 = .ok (.ifCond .lt 8, 3) := by decide +kernel
theorem dX6_requireElement_4 : decode cX6_requireElement 4 = .ok (.iload_n 0, 1) := by decide +kernel
theorem dX6_requireElement_5 : decode cX6_requireElement 5 = .ok (.iload_n 1, 1) := by decide +kernel
theorem dX6_requireElement_6 : decode cX6_requireElement 6 = .ok (.if_icmp .lt 13, 3) := by decide +kernel
theorem dX6_requireElement_9 : decode cX6_requireElement 9 = .ok (.new 211, 3) := by decide +kernel
theorem dX6_requireElement_12 : decode cX6_requireElement 12 = .ok (.dup, 1) := by decide +kernel
theorem dX6_requireElement_13 : decode cX6_requireElement 13 = .ok (.ldc 213, 2) := by decide +kernel
theorem dX6_requireElement_15 : decode cX6_requireElement 15 = .ok (.invokespecial 215, 3) := by decide +kernel
theorem dX6_requireElement_18 : decode cX6_requireElement 18 = .ok (.athrow, 1) := by decide +kernel
theorem dX6_requireElement_19 : decode cX6_requireElement 19 = .ok (.return_, 1) := by decide +kernel
theorem dX6_requireWithin_0 : decode cX6_requireWithin 0 = .ok (.iload_n 0, 1) := by decide +kernel
theorem dX6_requireWithin_1 : decode cX6_requireWithin 1 = .ok (.iload_n 1, 1) := by decide +kernel
theorem dX6_requireWithin_2 : decode cX6_requireWithin 2 = .ok (.if_icmp .lt 8, 3) := by decide +kernel
theorem dX6_requireWithin_5 : decode cX6_requireWithin 5 = .ok (.iload_n 0, 1) := by decide +kernel
theorem dX6_requireWithin_6 : decode cX6_requireWithin 6 = .ok (.iload_n 2, 1) := by decide +kernel
theorem dX6_requireWithin_7 : decode cX6_requireWithin 7 = .ok (.if_icmp .le 13, 3) := by decide +kernel
theorem dX6_requireWithin_10 : decode cX6_requireWithin 10 = .ok (.new 157, 3) := by decide +kernel
theorem dX6_requireWithin_13 : decode cX6_requireWithin 13 = .ok (.dup, 1) := by decide +kernel
theorem dX6_requireWithin_14 : decode cX6_requireWithin 14 = .ok (.ldc 216, 2) := by decide +kernel
theorem dX6_requireWithin_16 : decode cX6_requireWithin 16 = .ok (.invokespecial 161, 3) := by decide +kernel
theorem dX6_requireWithin_19 : decode cX6_requireWithin 19 = .ok (.athrow, 1) := by decide +kernel
theorem dX6_requireWithin_20 : decode cX6_requireWithin 20 = .ok (.return_, 1) := by decide +kernel
theorem dX6_limited_0 : decode cX6_limited 0 = .ok (.iload_n 2, 1) := by decide +kernel
theorem dX6_limited_1 : decode cX6_limited 1 = .ok (.ineg, 1) := by decide +kernel
theorem dX6_limited_2 : decode cX6_limited 2 = .ok (.i2l, 1) := by decide +kernel
theorem dX6_limited_3 : decode cX6_limited 3 = .ok (.iload_n 2, 1) := by decide +kernel
theorem dX6_limited_4 : decode cX6_limited 4 = .ok (.i2l, 1) := by decide +kernel
theorem dX6_limited_5 : decode cX6_limited 5 = .ok (.lload_n 0, 1) := by decide +kernel
theorem dX6_limited_6 : decode cX6_limited 6 = .ok (.invokestatic 218, 3) := by decide +kernel
theorem dX6_limited_9 : decode cX6_limited 9 = .ok (.invokestatic 222, 3) := by decide +kernel
theorem dX6_limited_12 : decode cX6_limited 12 = .ok (.l2i, 1) := by decide +kernel
theorem dX6_limited_13 : decode cX6_limited 13 = .ok (.ireturn, 1) := by decide +kernel
theorem dX7_init_0 : decode cX7_init 0 = .ok (.aload_n 0, 1) := by decide +kernel
theorem dX7_init_1 : decode cX7_init 1 = .ok (.invokespecial 3, 3) := by decide +kernel
theorem dX7_init_4 : decode cX7_init 4 = .ok (.aload_n 0, 1) := by decide +kernel
theorem dX7_init_5 : decode cX7_init 5 = .ok (.sipush 500, 3) := by decide +kernel
theorem dX7_init_8 : decode cX7_init 8 = .ok (.newarray .int, 2) := by decide +kernel
theorem dX7_init_10 : decode cX7_init 10 = .ok (.putfield 9, 3) := by decide +kernel
theorem dX7_init_13 : decode cX7_init 13 = .ok (.aload_n 0, 1) := by decide +kernel
theorem dX7_init_14 : decode cX7_init 14 = .ok (.iconst (-1), 1) := by decide +kernel
theorem dX7_init_15 : decode cX7_init 15 = .ok (.putfield 13, 3) := by decide +kernel
theorem dX7_init_18 : decode cX7_init 18 = .ok (.aload_n 0, 1) := by decide +kernel
theorem dX7_init_19 : decode cX7_init 19 = .ok (.sipush 199, 3) := by decide +kernel
theorem dX7_init_22 : decode cX7_init 22 = .ok (.newarray .long, 2) := by decide +kernel
theorem dX7_init_24 : decode cX7_init 24 = .ok (.putfield 17, 3) := by decide +kernel
theorem dX7_init_27 : decode cX7_init 27 = .ok (.aload_n 0, 1) := by decide +kernel
theorem dX7_init_28 : decode cX7_init 28 = .ok (.sipush 199, 3) := by decide +kernel
theorem dX7_init_31 : decode cX7_init 31 = .ok (.newarray .long, 2) := by decide +kernel
theorem dX7_init_33 : decode cX7_init 33 = .ok (.putfield 21, 3) := by decide +kernel
theorem dX7_init_36 : decode cX7_init 36 = .ok (.aload_n 0, 1) := by decide +kernel
theorem dX7_init_37 : decode cX7_init 37 = .ok (.sipush 199, 3) := by decide +kernel
theorem dX7_init_40 : decode cX7_init 40 = .ok (.newarray .long, 2) := by decide +kernel
theorem dX7_init_42 : decode cX7_init 42 = .ok (.putfield 24, 3) := by decide +kernel
theorem dX7_init_45 : decode cX7_init 45 = .ok (.aload_n 0, 1) := by decide +kernel
theorem dX7_init_46 : decode cX7_init 46 = .ok (.bipush 8, 2) := by decide +kernel
theorem dX7_init_48 : decode cX7_init 48 = .ok (.sipush 199, 3) := by decide +kernel
theorem dX7_init_51 : decode cX7_init 51 = .ok (.multianewarray 27 2, 4) := by decide +kernel
theorem dX7_init_55 : decode cX7_init 55 = .ok (.putfield 29, 3) := by decide +kernel
theorem dX7_init_58 : decode cX7_init 58 = .ok (.aload_n 0, 1) := by decide +kernel
theorem dX7_init_59 : decode cX7_init 59 = .ok (.bipush 13, 2) := by decide +kernel
theorem dX7_init_61 : decode cX7_init 61 = .ok (.newarray .long, 2) := by decide +kernel
theorem dX7_init_63 : decode cX7_init 63 = .ok (.putfield 32, 3) := by decide +kernel
theorem dX7_init_66 : decode cX7_init 66 = .ok (.aload_n 0, 1) := by decide +kernel
theorem dX7_init_67 : decode cX7_init 67 = .ok (.getfield 17, 3) := by decide +kernel
theorem dX7_init_70 : decode cX7_init 70 = .ok (.iconst 1, 1) := by decide +kernel
theorem dX7_init_71 : decode cX7_init 71 = .ok (.invokestatic 35, 3) := by decide +kernel
theorem dX7_init_74 : decode cX7_init 74 = .ok (.return_, 1) := by decide +kernel
theorem dX7_thrown_0 : decode cX7_thrown 0 = .ok (.aload_n 0, 1) := by decide +kernel
theorem dX7_thrown_1 : decode cX7_thrown 1 = .ok (.getfield 39, 3) := by decide +kernel
theorem dX7_thrown_4 : decode cX7_thrown 4 = .ok (.ireturn, 1) := by decide +kernel
theorem dX7_fails_0 : decode cX7_fails 0 = .ok (.iload_n 1, 1) := by decide +kernel
theorem dX7_fails_1 : decode cX7_fails 1 = .ok (.ifCond .eq 15, 3) := by decide +kernel
theorem dX7_fails_4 : decode cX7_fails 4 = .ok (.aload_n 0, 1) := by decide +kernel
theorem dX7_fails_5 : decode cX7_fails 5 = .ok (.getfield 39, 3) := by decide +kernel
theorem dX7_fails_8 : decode cX7_fails 8 = .ok (.ifCond .ne 8, 3) := by decide +kernel
theorem dX7_fails_11 : decode cX7_fails 11 = .ok (.aload_n 0, 1) := by decide +kernel
theorem dX7_fails_12 : decode cX7_fails 12 = .ok (.iload_n 2, 1) := by decide +kernel
theorem dX7_fails_13 : decode cX7_fails 13 = .ok (.putfield 39, 3) := by decide +kernel
theorem dX7_fails_16 : decode cX7_fails 16 = .ok (.aload_n 0, 1) := by decide +kernel
theorem dX7_fails_17 : decode cX7_fails 17 = .ok (.getfield 39, 3) := by decide +kernel
theorem dX7_fails_20 : decode cX7_fails 20 = .ok (.ifCond .eq 7, 3) := by decide +kernel
theorem dX7_fails_23 : decode cX7_fails 23 = .ok (.iconst 1, 1) := by decide +kernel
theorem dX7_fails_24 : decode cX7_fails 24 = .ok (.goto 4, 3) := by decide +kernel
theorem dX7_fails_27 : decode cX7_fails 27 = .ok (.iconst 0, 1) := by decide +kernel
theorem dX7_fails_28 : decode cX7_fails 28 = .ok (.ireturn, 1) := by decide +kernel
theorem dX7_in_0 : decode cX7_in 0 = .ok (.iload_n 0, 1) := by decide +kernel
theorem dX7_in_1 : decode cX7_in 1 = .ok (.iload_n 1, 1) := by decide +kernel
theorem dX7_in_2 : decode cX7_in 2 = .ok (.if_icmp .lt 12, 3) := by decide +kernel
theorem dX7_in_5 : decode cX7_in 5 = .ok (.iload_n 0, 1) := by decide +kernel
theorem dX7_in_6 : decode cX7_in 6 = .ok (.iload_n 2, 1) := by decide +kernel
theorem dX7_in_7 : decode cX7_in 7 = .ok (.if_icmp .gt 7, 3) := by decide +kernel
theorem dX7_in_10 : decode cX7_in 10 = .ok (.iconst 1, 1) := by decide +kernel
theorem dX7_in_11 : decode cX7_in 11 = .ok (.goto 4, 3) := by decide +kernel
theorem dX7_in_14 : decode cX7_in 14 = .ok (.iconst 0, 1) := by decide +kernel
theorem dX7_in_15 : decode cX7_in 15 = .ok (.ireturn, 1) := by decide +kernel
theorem dX7_min_0 : decode cX7_min 0 = .ok (.iload_n 0, 1) := by decide +kernel
theorem dX7_min_1 : decode cX7_min 1 = .ok (.iload_n 1, 1) := by decide +kernel
theorem dX7_min_2 : decode cX7_min 2 = .ok (.if_icmp .ge 7, 3) := by decide +kernel
theorem dX7_min_5 : decode cX7_min 5 = .ok (.iload_n 0, 1) := by decide +kernel
theorem dX7_min_6 : decode cX7_min 6 = .ok (.goto 4, 3) := by decide +kernel
theorem dX7_min_9 : decode cX7_min 9 = .ok (.iload_n 1, 1) := by decide +kernel
theorem dX7_min_10 : decode cX7_min 10 = .ok (.ireturn, 1) := by decide +kernel
theorem dX7_within_0 : decode cX7_within 0 = .ok (.lload_n 0, 1) := by decide +kernel
theorem dX7_within_1 : decode cX7_within 1 = .ok (.lload_n 2, 1) := by decide +kernel
theorem dX7_within_2 : decode cX7_within 2 = .ok (.lcmp, 1) := by decide +kernel
theorem dX7_within_3 : decode cX7_within 3 = .ok (.ifCond .le 7, 3) := by decide +kernel
theorem dX7_within_6 : decode cX7_within 6 = .ok (.lload_n 2, 1) := by decide +kernel
theorem dX7_within_7 : decode cX7_within 7 = .ok (.goto 16, 3) := by decide +kernel
theorem dX7_within_10 : decode cX7_within 10 = .ok (.lload_n 0, 1) := by decide +kernel
theorem dX7_within_11 : decode cX7_within 11 = .ok (.lload_n 2, 1) := by decide +kernel
theorem dX7_within_12 : decode cX7_within 12 = .ok (.lneg, 1) := by decide +kernel
theorem dX7_within_13 : decode cX7_within 13 = .ok (.lcmp, 1) := by decide +kernel
theorem dX7_within_14 : decode cX7_within 14 = .ok (.ifCond .ge 8, 3) := by decide +kernel
theorem dX7_within_17 : decode cX7_within 17 = .ok (.lload_n 2, 1) := by decide +kernel
theorem dX7_within_18 : decode cX7_within 18 = .ok (.lneg, 1) := by decide +kernel
theorem dX7_within_19 : decode cX7_within 19 = .ok (.goto 4, 3) := by decide +kernel
theorem dX7_within_22 : decode cX7_within 22 = .ok (.lload_n 0, 1) := by decide +kernel
theorem dX7_within_23 : decode cX7_within 23 = .ok (.lreturn, 1) := by decide +kernel
theorem dX7_copy_0 : decode cX7_copy 0 = .ok (.iconst 0, 1) := by decide +kernel
theorem dX7_copy_1 : decode cX7_copy 1 = .ok (.istore_n 2, 1) := by decide +kernel
theorem dX7_copy_2 : decode cX7_copy 2 = .ok (.iload_n 2, 1) := by decide +kernel
theorem dX7_copy_3 : decode cX7_copy 3 = .ok (.sipush 199, 3) := by decide +kernel
theorem dX7_copy_6 : decode cX7_copy 6 = .ok (.if_icmp .ge 15, 3) := by decide +kernel
theorem dX7_copy_9 : decode cX7_copy 9 = .ok (.aload_n 1, 1) := by decide +kernel
theorem dX7_copy_10 : decode cX7_copy 10 = .ok (.iload_n 2, 1) := by decide +kernel
theorem dX7_copy_11 : decode cX7_copy 11 = .ok (.aload_n 0, 1) := by decide +kernel
theorem dX7_copy_12 : decode cX7_copy 12 = .ok (.iload_n 2, 1) := by decide +kernel
theorem dX7_copy_13 : decode cX7_copy 13 = .ok (.laload, 1) := by decide +kernel
theorem dX7_copy_14 : decode cX7_copy 14 = .ok (.lastore, 1) := by decide +kernel
theorem dX7_copy_15 : decode cX7_copy 15 = .ok (.iinc 2 1, 3) := by decide +kernel
theorem dX7_copy_18 : decode cX7_copy 18 = .ok (.goto (-16), 3) := by decide +kernel
theorem dX7_copy_21 : decode cX7_copy 21 = .ok (.return_, 1) := by decide +kernel
theorem dX7_layChain_0 : decode cX7_layChain 0 = .ok (.iconst 0, 1) := by decide +kernel
theorem dX7_layChain_1 : decode cX7_layChain 1 = .ok (.istore_n 2, 1) := by decide +kernel
theorem dX7_layChain_2 : decode cX7_layChain 2 = .ok (.iload_n 2, 1) := by decide +kernel
theorem dX7_layChain_3 : decode cX7_layChain 3 = .ok (.sipush 199, 3) := by decide +kernel
theorem dX7_layChain_6 : decode cX7_layChain 6 = .ok (.if_icmp .ge 13, 3) := by decide +kernel
theorem dX7_layChain_9 : decode cX7_layChain 9 = .ok (.aload_n 0, 1) := by decide +kernel
theorem dX7_layChain_10 : decode cX7_layChain 10 = .ok (.iload_n 2, 1) := by decide +kernel
theorem dX7_layChain_11 : decode cX7_layChain 11 = .ok (.lconst 0, 1) := by decide +kernel
theorem dX7_layChain_12 : decode cX7_layChain 12 = .ok (.lastore, 1) := by decide +kernel
theorem dX7_layChain_13 : decode cX7_layChain 13 = .ok (.iinc 2 1, 3) := by decide +kernel
theorem dX7_layChain_16 : decode cX7_layChain 16 = .ok (.goto (-14), 3) := by decide +kernel
theorem dX7_layChain_19 : decode cX7_layChain 19 = .ok (.aload_n 0, 1) := by decide +kernel
theorem dX7_layChain_20 : decode cX7_layChain 20 = .ok (.iconst 1, 1) := by decide +kernel
theorem dX7_layChain_21 : decode cX7_layChain 21 = .ok (.iload_n 1, 1) := by decide +kernel
theorem dX7_layChain_22 : decode cX7_layChain 22 = .ok (.i2l, 1) := by decide +kernel
theorem dX7_layChain_23 : decode cX7_layChain 23 = .ok (.lastore, 1) := by decide +kernel
theorem dX7_layChain_24 : decode cX7_layChain 24 = .ok (.iconst 0, 1) := by decide +kernel
theorem dX7_layChain_25 : decode cX7_layChain 25 = .ok (.istore_n 2, 1) := by decide +kernel
theorem dX7_layChain_26 : decode cX7_layChain 26 = .ok (.iload_n 2, 1) := by decide +kernel
theorem dX7_layChain_27 : decode cX7_layChain 27 = .ok (.iload_n 1, 1) := by decide +kernel
theorem dX7_layChain_28 : decode cX7_layChain 28 = .ok (.if_icmp .ge 22, 3) := by decide +kernel
theorem dX7_layChain_31 : decode cX7_layChain 31 = .ok (.aload_n 0, 1) := by decide +kernel
theorem dX7_layChain_32 : decode cX7_layChain 32 = .ok (.bipush 12, 2) := by decide +kernel
theorem dX7_layChain_34 : decode cX7_layChain 34 = .ok (.iconst 3, 1) := by decide +kernel
theorem dX7_layChain_35 : decode cX7_layChain 35 = .ok (.iload_n 2, 1) := by decide +kernel
theorem dX7_layChain_36 : decode cX7_layChain 36 = .ok (.imul, 1) := by decide +kernel
theorem dX7_layChain_37 : decode cX7_layChain 37 = .ok (.iadd, 1) := by decide +kernel
theorem dX7_layChain_38 : decode cX7_layChain 38 = .ok (.iconst 0, 1) := by decide +kernel
theorem dX7_layChain_39 : decode cX7_layChain 39 = .ok (.iadd, 1) := by decide +kernel
theorem dX7_layChain_40 : decode cX7_layChain 40 = .ok (.ldc2_w 42, 3) := by decide +kernel
theorem dX7_layChain_43 : decode cX7_layChain 43 = .ok (.lastore, 1) := by decide +kernel
theorem dX7_layChain_44 : decode cX7_layChain 44 = .ok (.iinc 2 1, 3) := by decide +kernel
theorem dX7_layChain_47 : decode cX7_layChain 47 = .ok (.goto (-21), 3) := by decide +kernel
theorem dX7_layChain_50 : decode cX7_layChain 50 = .ok (.iconst 0, 1) := by decide +kernel
theorem dX7_layChain_51 : decode cX7_layChain 51 = .ok (.istore_n 2, 1) := by decide +kernel
theorem dX7_layChain_52 : decode cX7_layChain 52 = .ok (.iload_n 2, 1) := by decide +kernel
theorem dX7_layChain_53 : decode cX7_layChain 53 = .ok (.iload_n 1, 1) := by decide +kernel
theorem dX7_layChain_54 : decode cX7_layChain 54 = .ok (.if_icmp .gt 22, 3) := by decide +kernel
theorem dX7_layChain_57 : decode cX7_layChain 57 = .ok (.aload_n 0, 1) := by decide +kernel
theorem dX7_layChain_58 : decode cX7_layChain 58 = .ok (.bipush 48, 2) := by decide +kernel
theorem dX7_layChain_60 : decode cX7_layChain 60 = .ok (.iconst 3, 1) := by decide +kernel
theorem dX7_layChain_61 : decode cX7_layChain 61 = .ok (.iload_n 2, 1) := by decide +kernel
theorem dX7_layChain_62 : decode cX7_layChain 62 = .ok (.imul, 1) := by decide +kernel
theorem dX7_layChain_63 : decode cX7_layChain 63 = .ok (.iadd, 1) := by decide +kernel
theorem dX7_layChain_64 : decode cX7_layChain 64 = .ok (.iconst 0, 1) := by decide +kernel
theorem dX7_layChain_65 : decode cX7_layChain 65 = .ok (.iadd, 1) := by decide +kernel
theorem dX7_layChain_66 : decode cX7_layChain 66 = .ok (.ldc2_w 44, 3) := by decide +kernel
theorem dX7_layChain_69 : decode cX7_layChain 69 = .ok (.lastore, 1) := by decide +kernel
theorem dX7_layChain_70 : decode cX7_layChain 70 = .ok (.iinc 2 1, 3) := by decide +kernel
theorem dX7_layChain_73 : decode cX7_layChain 73 = .ok (.goto (-21), 3) := by decide +kernel
theorem dX7_layChain_76 : decode cX7_layChain 76 = .ok (.return_, 1) := by decide +kernel
theorem dX7_append_0 : decode cX7_append 0 = .ok (.aload_n 0, 1) := by decide +kernel
theorem dX7_append_1 : decode cX7_append 1 = .ok (.iconst 0, 1) := by decide +kernel
theorem dX7_append_2 : decode cX7_append 2 = .ok (.putfield 39, 3) := by decide +kernel
theorem dX7_append_5 : decode cX7_append 5 = .ok (.aload_n 0, 1) := by decide +kernel
theorem dX7_append_6 : decode cX7_append 6 = .ok (.getfield 46, 3) := by decide +kernel
theorem dX7_append_9 : decode cX7_append 9 = .ok (.bipush 20, 2) := by decide +kernel
theorem dX7_append_11 : decode cX7_append 11 = .ok (.iadd, 1) := by decide +kernel
theorem dX7_append_12 : decode cX7_append 12 = .ok (.sipush 500, 3) := by decide +kernel
theorem dX7_append_15 : decode cX7_append 15 = .ok (.if_icmp .le 5, 3) := by decide +kernel
theorem dX7_append_18 : decode cX7_append 18 = .ok (.iconst (-1), 1) := by decide +kernel
theorem dX7_append_19 : decode cX7_append 19 = .ok (.ireturn, 1) := by decide +kernel
theorem dX7_append_20 : decode cX7_append 20 = .ok (.iconst 0, 1) := by decide +kernel
theorem dX7_append_21 : decode cX7_append 21 = .ok (.istore 6, 2) := by decide +kernel
theorem dX7_append_23 : decode cX7_append 23 = .ok (.iload 6, 2) := by decide +kernel
theorem dX7_append_25 : decode cX7_append 25 = .ok (.bipush 20, 2) := by decide +kernel
theorem dX7_append_27 : decode cX7_append 27 = .ok (.if_icmp .ge 93, 3) := by decide +kernel
theorem dX7_append_30 : decode cX7_append 30 = .ok (.iload 6, 2) := by decide +kernel
theorem dX7_append_32 : decode cX7_append 32 = .ok (.iconst 4, 1) := by decide +kernel
theorem dX7_append_33 : decode cX7_append 33 = .ok (.if_icmp .ge 7, 3) := by decide +kernel
theorem dX7_append_36 : decode cX7_append 36 = .ok (.iload_n 1, 1) := by decide +kernel
theorem dX7_append_37 : decode cX7_append 37 = .ok (.goto 39, 3) := by decide +kernel
theorem dX7_append_40 : decode cX7_append 40 = .ok (.iload 6, 2) := by decide +kernel
theorem dX7_append_42 : decode cX7_append 42 = .ok (.bipush 8, 2) := by decide +kernel
theorem dX7_append_44 : decode cX7_append 44 = .ok (.if_icmp .ge 7, 3) := by decide +kernel
theorem dX7_append_47 : decode cX7_append 47 = .ok (.iload_n 2, 1) := by decide +kernel
theorem dX7_append_48 : decode cX7_append 48 = .ok (.goto 28, 3) := by decide +kernel
theorem dX7_append_51 : decode cX7_append 51 = .ok (.iload 6, 2) := by decide +kernel
theorem dX7_append_53 : decode cX7_append 53 = .ok (.bipush 12, 2) := by decide +kernel
theorem dX7_append_55 : decode cX7_append 55 = .ok (.if_icmp .ge 7, 3) := by decide +kernel
theorem dX7_append_58 : decode cX7_append 58 = .ok (.iload_n 3, 1) := by decide +kernel
theorem dX7_append_59 : decode cX7_append 59 = .ok (.goto 17, 3) := by decide +kernel
theorem dX7_append_62 : decode cX7_append 62 = .ok (.iload 6, 2) := by decide +kernel
theorem dX7_append_64 : decode cX7_append 64 = .ok (.bipush 16, 2) := by decide +kernel
theorem dX7_append_66 : decode cX7_append 66 = .ok (.if_icmp .ge 8, 3) := by decide +kernel
theorem dX7_append_69 : decode cX7_append 69 = .ok (.iload 4, 2) := by decide +kernel
theorem dX7_append_71 : decode cX7_append 71 = .ok (.goto 5, 3) := by decide +kernel
theorem dX7_append_74 : decode cX7_append 74 = .ok (.iload 5, 2) := by decide +kernel
theorem dX7_append_76 : decode cX7_append 76 = .ok (.istore 7, 2) := by decide +kernel
theorem dX7_append_78 : decode cX7_append 78 = .ok (.aload_n 0, 1) := by decide +kernel
theorem dX7_append_79 : decode cX7_append 79 = .ok (.getfield 9, 3) := by decide +kernel
theorem dX7_append_82 : decode cX7_append 82 = .ok (.aload_n 0, 1) := by decide +kernel
theorem dX7_append_83 : decode cX7_append 83 = .ok (.getfield 46, 3) := by decide +kernel
theorem dX7_append_86 : decode cX7_append 86 = .ok (.iload 7, 2) := by decide +kernel
theorem dX7_append_88 : decode cX7_append 88 = .ok (.bipush 24, 2) := by decide +kernel
theorem dX7_append_90 : decode cX7_append 90 = .ok (.bipush 8, 2) := by decide +kernel
theorem dX7_append_92 : decode cX7_append 92 = .ok (.iload 6, 2) := by decide +kernel
theorem dX7_append_94 : decode cX7_append 94 = .ok (.iconst 4, 1) := by decide +kernel
theorem dX7_append_95 : decode cX7_append 95 = .ok (.irem, 1) := by decide +kernel
theorem dX7_append_96 : decode cX7_append 96 = .ok (.imul, 1) := by decide +kernel
theorem dX7_append_97 : decode cX7_append 97 = .ok (.isub, 1) := by decide +kernel
theorem dX7_append_98 : decode cX7_append 98 = .ok (.ishr, 1) := by decide +kernel
theorem dX7_append_99 : decode cX7_append 99 = .ok (.sipush 255, 3) := by decide +kernel
theorem dX7_append_102 : decode cX7_append 102 = .ok (.iand, 1) := by decide +kernel
theorem dX7_append_103 : decode cX7_append 103 = .ok (.iastore, 1) := by decide +kernel
theorem dX7_append_104 : decode cX7_append 104 = .ok (.aload_n 0, 1) := by decide +kernel
theorem dX7_append_105 : decode cX7_append 105 = .ok (.dup, 1) := by decide +kernel
theorem dX7_append_106 : decode cX7_append 106 = .ok (.getfield 46, 3) := by decide +kernel
theorem dX7_append_109 : decode cX7_append 109 = .ok (.iconst 1, 1) := by decide +kernel
theorem dX7_append_110 : decode cX7_append 110 = .ok (.iadd, 1) := by decide +kernel
theorem dX7_append_111 : decode cX7_append 111 = .ok (.putfield 46, 3) := by decide +kernel
theorem dX7_append_114 : decode cX7_append 114 = .ok (.iinc 6 1, 3) := by decide +kernel
theorem dX7_append_117 : decode cX7_append 117 = .ok (.goto (-94), 3) := by decide +kernel
theorem dX7_append_120 : decode cX7_append 120 = .ok (.aload_n 0, 1) := by decide +kernel
theorem dX7_append_121 : decode cX7_append 121 = .ok (.getfield 46, 3) := by decide +kernel
theorem dX7_append_124 : decode cX7_append 124 = .ok (.ireturn, 1) := by decide +kernel
theorem dX7_byteAt_0 : decode cX7_byteAt 0 = .ok (.iload_n 1, 1) := by decide +kernel
theorem dX7_byteAt_1 : decode cX7_byteAt 1 = .ok (.aload_n 0, 1) := by decide +kernel
theorem dX7_byteAt_2 : decode cX7_byteAt 2 = .ok (.getfield 49, 3) := by decide +kernel
theorem dX7_byteAt_5 : decode cX7_byteAt 5 = .ok (.if_icmp .ge 12, 3) := by decide +kernel
theorem dX7_byteAt_8 : decode cX7_byteAt 8 = .ok (.aload_n 0, 1) := by decide +kernel
theorem dX7_byteAt_9 : decode cX7_byteAt 9 = .ok (.getfield 9, 3) := by decide +kernel
theorem dX7_byteAt_12 : decode cX7_byteAt 12 = .ok (.iload_n 1, 1) := by decide +kernel
theorem dX7_byteAt_13 : decode cX7_byteAt 13 = .ok (.iaload, 1) := by decide +kernel
theorem dX7_byteAt_14 : decode cX7_byteAt 14 = .ok (.goto 4, 3) := by decide +kernel
theorem dX7_byteAt_17 : decode cX7_byteAt 17 = .ok (.iconst (-1), 1) := by decide +kernel
theorem dX7_byteAt_18 : decode cX7_byteAt 18 = .ok (.ireturn, 1) := by decide +kernel
theorem dX7_ahead_0 : decode cX7_ahead 0 = .ok (.aload_n 0, 1) := by decide +kernel
theorem dX7_ahead_1 : decode cX7_ahead 1 = .ok (.aload_n 0, 1) := by decide +kernel
theorem dX7_ahead_2 : decode cX7_ahead 2 = .ok (.getfield 52, 3) := by decide +kernel
theorem dX7_ahead_5 : decode cX7_ahead 5 = .ok (.invokevirtual 55, 3) := by decide +kernel
theorem dX7_ahead_8 : decode cX7_ahead 8 = .ok (.bipush 32, 2) := by decide +kernel
theorem dX7_ahead_10 : decode cX7_ahead 10 = .ok (.if_icmp .ne 16, 3) := by decide +kernel
theorem dX7_ahead_13 : decode cX7_ahead 13 = .ok (.aload_n 0, 1) := by decide +kernel
theorem dX7_ahead_14 : decode cX7_ahead 14 = .ok (.dup, 1) := by decide +kernel
theorem dX7_ahead_15 : decode cX7_ahead 15 = .ok (.getfield 52, 3) := by decide +kernel
theorem dX7_ahead_18 : decode cX7_ahead 18 = .ok (.iconst 1, 1) := by decide +kernel
theorem dX7_ahead_19 : decode cX7_ahead 19 = .ok (.iadd, 1) := by decide +kernel
theorem dX7_ahead_20 : decode cX7_ahead 20 = .ok (.putfield 52, 3) := by decide +kernel
theorem dX7_ahead_23 : decode cX7_ahead 23 = .ok (.goto (-23), 3) := by decide +kernel
theorem dX7_ahead_26 : decode cX7_ahead 26 = .ok (.aload_n 0, 1) := by decide +kernel
theorem dX7_ahead_27 : decode cX7_ahead 27 = .ok (.aload_n 0, 1) := by decide +kernel
theorem dX7_ahead_28 : decode cX7_ahead 28 = .ok (.getfield 52, 3) := by decide +kernel
theorem dX7_ahead_31 : decode cX7_ahead 31 = .ok (.invokevirtual 55, 3) := by decide +kernel
theorem dX7_ahead_34 : decode cX7_ahead 34 = .ok (.ireturn, 1) := by decide +kernel
theorem dX7_isGood_0 : decode cX7_isGood 0 = .ok (.aload_n 0, 1) := by decide +kernel
theorem dX7_isGood_1 : decode cX7_isGood 1 = .ok (.getfield 59, 3) := by decide +kernel
theorem dX7_isGood_4 : decode cX7_isGood 4 = .ok (.ifCond .ne 7, 3) := by decide +kernel
theorem dX7_isGood_7 : decode cX7_isGood 7 = .ok (.iconst 1, 1) := by decide +kernel
theorem dX7_isGood_8 : decode cX7_isGood 8 = .ok (.goto 4, 3) := by decide +kernel
theorem dX7_isGood_11 : decode cX7_isGood 11 = .ok (.iconst 0, 1) := by decide +kernel
theorem dX7_isGood_12 : decode cX7_isGood 12 = .ok (.ireturn, 1) := by decide +kernel
theorem dX7_report_0 : decode cX7_report 0 = .ok (.aload_n 0, 1) := by decide +kernel
theorem dX7_report_1 : decode cX7_report 1 = .ok (.getfield 59, 3) := by decide +kernel
theorem dX7_report_4 : decode cX7_report 4 = .ok (.ifCond .eq 4, 3) := by decide +kernel
theorem dX7_report_7 : decode cX7_report 7 = .ok (.return_, 1) := by decide +kernel
theorem dX7_report_8 : decode cX7_report 8 = .ok (.aload_n 0, 1) := by decide +kernel
theorem dX7_report_9 : decode cX7_report 9 = .ok (.iload_n 1, 1) := by decide +kernel
theorem dX7_report_10 : decode cX7_report 10 = .ok (.putfield 59, 3) := by decide +kernel
theorem dX7_report_13 : decode cX7_report 13 = .ok (.aload_n 0, 1) := by decide +kernel
theorem dX7_report_14 : decode cX7_report 14 = .ok (.iload_n 2, 1) := by decide +kernel
theorem dX7_report_15 : decode cX7_report 15 = .ok (.putfield 62, 3) := by decide +kernel
theorem dX7_report_18 : decode cX7_report 18 = .ok (.return_, 1) := by decide +kernel
theorem dX7_isDigit_0 : decode cX7_isDigit 0 = .ok (.iload_n 0, 1) := by decide +kernel
theorem dX7_isDigit_1 : decode cX7_isDigit 1 = .ok (.bipush 48, 2) := by decide +kernel
theorem dX7_isDigit_3 : decode cX7_isDigit 3 = .ok (.bipush 57, 2) := by decide +kernel
theorem dX7_isDigit_5 : decode cX7_isDigit 5 = .ok (.invokestatic 65, 3) := by decide +kernel
theorem dX7_isDigit_8 : decode cX7_isDigit 8 = .ok (.ireturn, 1) := by decide +kernel
theorem dX7_takeWord_0 : decode cX7_takeWord 0 = .ok (.aload_n 0, 1) := by decide +kernel
theorem dX7_takeWord_1 : decode cX7_takeWord 1 = .ok (.invokevirtual 69, 3) := by decide +kernel
theorem dX7_takeWord_4 : decode cX7_takeWord 4 = .ok (.ifCond .ne 5, 3) := by decide +kernel
theorem dX7_takeWord_7 : decode cX7_takeWord 7 = .ok (.iconst 0, 1) := by decide +kernel
theorem dX7_takeWord_8 : decode cX7_takeWord 8 = .ok (.ireturn, 1) := by decide +kernel
theorem dX7_takeWord_9 : decode cX7_takeWord 9 = .ok (.aload_n 0, 1) := by decide +kernel
theorem dX7_takeWord_10 : decode cX7_takeWord 10 = .ok (.invokevirtual 73, 3) := by decide +kernel
theorem dX7_takeWord_13 : decode cX7_takeWord 13 = .ok (.pop, 1) := by decide +kernel
theorem dX7_takeWord_14 : decode cX7_takeWord 14 = .ok (.iconst 0, 1) := by decide +kernel
theorem dX7_takeWord_15 : decode cX7_takeWord 15 = .ok (.istore_n 2, 1) := by decide +kernel
theorem dX7_takeWord_16 : decode cX7_takeWord 16 = .ok (.iload_n 2, 1) := by decide +kernel
theorem dX7_takeWord_17 : decode cX7_takeWord 17 = .ok (.aload_n 1, 1) := by decide +kernel
theorem dX7_takeWord_18 : decode cX7_takeWord 18 = .ok (.invokevirtual 77, 3) := by decide +kernel
theorem dX7_takeWord_21 : decode cX7_takeWord 21 = .ok (.if_icmp .ge 27, 3) := by decide +kernel
theorem dX7_takeWord_24 : decode cX7_takeWord 24 = .ok (.aload_n 0, 1) := by decide +kernel
theorem dX7_takeWord_25 : decode cX7_takeWord 25 = .ok (.aload_n 0, 1) := by decide +kernel
theorem dX7_takeWord_26 : decode cX7_takeWord 26 = .ok (.getfield 52, 3) := by decide +kernel
theorem dX7_takeWord_29 : decode cX7_takeWord 29 = .ok (.iload_n 2, 1) := by decide +kernel
theorem dX7_takeWord_30 : decode cX7_takeWord 30 = .ok (.iadd, 1) := by decide +kernel
theorem dX7_takeWord_31 : decode cX7_takeWord 31 = .ok (.invokevirtual 55, 3) := by decide +kernel
theorem dX7_takeWord_34 : decode cX7_takeWord 34 = .ok (.aload_n 1, 1) := by decide +kernel
theorem dX7_takeWord_35 : decode cX7_takeWord 35 = .ok (.iload_n 2, 1) := by decide +kernel
theorem dX7_takeWord_36 : decode cX7_takeWord 36 = .ok (.invokevirtual 82, 3) := by decide +kernel
theorem dX7_takeWord_39 : decode cX7_takeWord 39 = .ok (.if_icmp .ne 9, 3) := by decide +kernel
theorem dX7_takeWord_42 : decode cX7_takeWord 42 = .ok (.iinc 2 1, 3) := by decide +kernel
theorem dX7_takeWord_45 : decode cX7_takeWord 45 = .ok (.goto (-29), 3) := by decide +kernel
theorem dX7_takeWord_48 : decode cX7_takeWord 48 = .ok (.iload_n 2, 1) := by decide +kernel
theorem dX7_takeWord_49 : decode cX7_takeWord 49 = .ok (.aload_n 1, 1) := by decide +kernel
theorem dX7_takeWord_50 : decode cX7_takeWord 50 = .ok (.invokevirtual 77, 3) := by decide +kernel
theorem dX7_takeWord_53 : decode cX7_takeWord 53 = .ok (.if_icmp .lt 23, 3) := by decide +kernel
theorem dX7_takeWord_56 : decode cX7_takeWord 56 = .ok (.aload_n 0, 1) := by decide +kernel
theorem dX7_takeWord_57 : decode cX7_takeWord 57 = .ok (.aload_n 0, 1) := by decide +kernel
theorem dX7_takeWord_58 : decode cX7_takeWord 58 = .ok (.getfield 52, 3) := by decide +kernel
theorem dX7_takeWord_61 : decode cX7_takeWord 61 = .ok (.iload_n 2, 1) := by decide +kernel
theorem dX7_takeWord_62 : decode cX7_takeWord 62 = .ok (.iadd, 1) := by decide +kernel
theorem dX7_takeWord_63 : decode cX7_takeWord 63 = .ok (.invokevirtual 55, 3) := by decide +kernel
theorem dX7_takeWord_66 : decode cX7_takeWord 66 = .ok (.bipush 97, 2) := by decide +kernel
theorem dX7_takeWord_68 : decode cX7_takeWord 68 = .ok (.bipush 122, 2) := by decide +kernel
theorem dX7_takeWord_70 : decode cX7_takeWord 70 = .ok (.invokestatic 65, 3) := by decide +kernel
theorem dX7_takeWord_73 : decode cX7_takeWord 73 = .ok (.ifCond .eq 5, 3) := by decide +kernel
theorem dX7_takeWord_76 : decode cX7_takeWord 76 = .ok (.iconst 0, 1) := by decide +kernel
theorem dX7_takeWord_77 : decode cX7_takeWord 77 = .ok (.ireturn, 1) := by decide +kernel
theorem dX7_takeWord_78 : decode cX7_takeWord 78 = .ok (.aload_n 0, 1) := by decide +kernel
theorem dX7_takeWord_79 : decode cX7_takeWord 79 = .ok (.dup, 1) := by decide +kernel
theorem dX7_takeWord_80 : decode cX7_takeWord 80 = .ok (.getfield 52, 3) := by decide +kernel
theorem dX7_takeWord_83 : decode cX7_takeWord 83 = .ok (.iload_n 2, 1) := by decide +kernel
theorem dX7_takeWord_84 : decode cX7_takeWord 84 = .ok (.iadd, 1) := by decide +kernel
theorem dX7_takeWord_85 : decode cX7_takeWord 85 = .ok (.putfield 52, 3) := by decide +kernel
theorem dX7_takeWord_88 : decode cX7_takeWord 88 = .ok (.iconst 1, 1) := by decide +kernel
theorem dX7_takeWord_89 : decode cX7_takeWord 89 = .ok (.ireturn, 1) := by decide +kernel
theorem dX7_expect_0 : decode cX7_expect 0 = .ok (.aload_n 0, 1) := by decide +kernel
theorem dX7_expect_1 : decode cX7_expect 1 = .ok (.invokevirtual 69, 3) := by decide +kernel
theorem dX7_expect_4 : decode cX7_expect 4 = .ok (.ifCond .ne 4, 3) := by decide +kernel
theorem dX7_expect_7 : decode cX7_expect 7 = .ok (.return_, 1) := by decide +kernel
theorem dX7_expect_8 : decode cX7_expect 8 = .ok (.aload_n 0, 1) := by decide +kernel
theorem dX7_expect_9 : decode cX7_expect 9 = .ok (.invokevirtual 73, 3) := by decide +kernel
theorem dX7_expect_12 : decode cX7_expect 12 = .ok (.iload_n 1, 1) := by decide +kernel
theorem dX7_expect_13 : decode cX7_expect 13 = .ok (.if_icmp .ne 16, 3) := by decide +kernel
theorem dX7_expect_16 : decode cX7_expect 16 = .ok (.aload_n 0, 1) := by decide +kernel
theorem dX7_expect_17 : decode cX7_expect 17 = .ok (.dup, 1) := by decide +kernel
theorem dX7_expect_18 : decode cX7_expect 18 = .ok (.getfield 52, 3) := by decide +kernel
theorem dX7_expect_21 : decode cX7_expect 21 = .ok (.iconst 1, 1) := by decide +kernel
theorem dX7_expect_22 : decode cX7_expect 22 = .ok (.iadd, 1) := by decide +kernel
theorem dX7_expect_23 : decode cX7_expect 23 = .ok (.putfield 52, 3) := by decide +kernel
theorem dX7_expect_26 : decode cX7_expect 26 = .ok (.goto 13, 3) := by decide +kernel
theorem dX7_expect_29 : decode cX7_expect 29 = .ok (.aload_n 0, 1) := by decide +kernel
theorem dX7_expect_30 : decode cX7_expect 30 = .ok (.bipush (-2), 2) := by decide +kernel
theorem dX7_expect_32 : decode cX7_expect 32 = .ok (.aload_n 0, 1) := by decide +kernel
theorem dX7_expect_33 : decode cX7_expect 33 = .ok (.getfield 52, 3) := by decide +kernel
theorem dX7_expect_36 : decode cX7_expect 36 = .ok (.invokevirtual 86, 3) := by decide +kernel
theorem dX7_expect_39 : decode cX7_expect 39 = .ok (.return_, 1) := by decide +kernel
theorem dX7_number_0 : decode cX7_number 0 = .ok (.aload_n 0, 1) := by decide +kernel
theorem dX7_number_1 : decode cX7_number 1 = .ok (.invokevirtual 69, 3) := by decide +kernel
theorem dX7_number_4 : decode cX7_number 4 = .ok (.ifCond .ne 5, 3) := by decide +kernel
theorem dX7_number_7 : decode cX7_number 7 = .ok (.iconst 0, 1) := by decide +kernel
theorem dX7_number_8 : decode cX7_number 8 = .ok (.ireturn, 1) := by decide +kernel
theorem dX7_number_9 : decode cX7_number 9 = .ok (.aload_n 0, 1) := by decide +kernel
theorem dX7_number_10 : decode cX7_number 10 = .ok (.invokevirtual 73, 3) := by decide +kernel
theorem dX7_number_13 : decode cX7_number 13 = .ok (.invokestatic 90, 3) := by decide +kernel
theorem dX7_number_16 : decode cX7_number 16 = .ok (.ifCond .ne 15, 3) := by decide +kernel
theorem dX7_number_19 : decode cX7_number 19 = .ok (.aload_n 0, 1) := by decide +kernel
theorem dX7_number_20 : decode cX7_number 20 = .ok (.bipush (-2), 2) := by decide +kernel
theorem dX7_number_22 : decode cX7_number 22 = .ok (.aload_n 0, 1) := by decide +kernel
theorem dX7_number_23 : decode cX7_number 23 = .ok (.getfield 52, 3) := by decide +kernel
theorem dX7_number_26 : decode cX7_number 26 = .ok (.invokevirtual 86, 3) := by decide +kernel
theorem dX7_number_29 : decode cX7_number 29 = .ok (.iconst 0, 1) := by decide +kernel
theorem dX7_number_30 : decode cX7_number 30 = .ok (.ireturn, 1) := by decide +kernel
theorem dX7_number_31 : decode cX7_number 31 = .ok (.aload_n 0, 1) := by decide +kernel
theorem dX7_number_32 : decode cX7_number 32 = .ok (.aload_n 0, 1) := by decide +kernel
theorem dX7_number_33 : decode cX7_number 33 = .ok (.getfield 52, 3) := by decide +kernel
theorem dX7_number_36 : decode cX7_number 36 = .ok (.putfield 94, 3) := by decide +kernel
theorem dX7_number_39 : decode cX7_number 39 = .ok (.iconst 0, 1) := by decide +kernel
theorem dX7_number_40 : decode cX7_number 40 = .ok (.istore_n 3, 1) := by decide +kernel
theorem dX7_number_41 : decode cX7_number 41 = .ok (.aload_n 0, 1) := by decide +kernel
theorem dX7_number_42 : decode cX7_number 42 = .ok (.aload_n 0, 1) := by decide +kernel
theorem dX7_number_43 : decode cX7_number 43 = .ok (.getfield 52, 3) := by decide +kernel
theorem dX7_number_46 : decode cX7_number 46 = .ok (.invokevirtual 55, 3) := by decide +kernel
theorem dX7_number_49 : decode cX7_number 49 = .ok (.invokestatic 90, 3) := by decide +kernel
theorem dX7_number_52 : decode cX7_number 52 = .ok (.ifCond .eq 38, 3) := by decide +kernel
theorem dX7_number_55 : decode cX7_number 55 = .ok (.ldc 97, 2) := by decide +kernel
theorem dX7_number_57 : decode cX7_number 57 = .ok (.bipush 10, 2) := by decide +kernel
theorem dX7_number_59 : decode cX7_number 59 = .ok (.iload_n 3, 1) := by decide +kernel
theorem dX7_number_60 : decode cX7_number 60 = .ok (.imul, 1) := by decide +kernel
theorem dX7_number_61 : decode cX7_number 61 = .ok (.aload_n 0, 1) := by decide +kernel
theorem dX7_number_62 : decode cX7_number 62 = .ok (.aload_n 0, 1) := by decide +kernel
theorem dX7_number_63 : decode cX7_number 63 = .ok (.getfield 52, 3) := by decide +kernel
theorem dX7_number_66 : decode cX7_number 66 = .ok (.invokevirtual 55, 3) := by decide +kernel
theorem dX7_number_69 : decode cX7_number 69 = .ok (.iadd, 1) := by decide +kernel
theorem dX7_number_70 : decode cX7_number 70 = .ok (.bipush 48, 2) := by decide +kernel
theorem dX7_number_72 : decode cX7_number 72 = .ok (.isub, 1) := by decide +kernel
theorem dX7_number_73 : decode cX7_number 73 = .ok (.invokestatic 98, 3) := by decide +kernel
theorem dX7_number_76 : decode cX7_number 76 = .ok (.istore_n 3, 1) := by decide +kernel
theorem dX7_number_77 : decode cX7_number 77 = .ok (.aload_n 0, 1) := by decide +kernel
theorem dX7_number_78 : decode cX7_number 78 = .ok (.dup, 1) := by decide +kernel
theorem dX7_number_79 : decode cX7_number 79 = .ok (.getfield 52, 3) := by decide +kernel
theorem dX7_number_82 : decode cX7_number 82 = .ok (.iconst 1, 1) := by decide +kernel
theorem dX7_number_83 : decode cX7_number 83 = .ok (.iadd, 1) := by decide +kernel
theorem dX7_number_84 : decode cX7_number 84 = .ok (.putfield 52, 3) := by decide +kernel
theorem dX7_number_87 : decode cX7_number 87 = .ok (.goto (-46), 3) := by decide +kernel
theorem dX7_number_90 : decode cX7_number 90 = .ok (.iload_n 3, 1) := by decide +kernel
theorem dX7_number_91 : decode cX7_number 91 = .ok (.iload_n 1, 1) := by decide +kernel
theorem dX7_number_92 : decode cX7_number 92 = .ok (.iload_n 2, 1) := by decide +kernel
theorem dX7_number_93 : decode cX7_number 93 = .ok (.invokestatic 65, 3) := by decide +kernel
theorem dX7_number_96 : decode cX7_number 96 = .ok (.ifCond .ne 13, 3) := by decide +kernel
theorem dX7_number_99 : decode cX7_number 99 = .ok (.aload_n 0, 1) := by decide +kernel
theorem dX7_number_100 : decode cX7_number 100 = .ok (.bipush (-3), 2) := by decide +kernel
theorem dX7_number_102 : decode cX7_number 102 = .ok (.aload_n 0, 1) := by decide +kernel
theorem dX7_number_103 : decode cX7_number 103 = .ok (.getfield 94, 3) := by decide +kernel
theorem dX7_number_106 : decode cX7_number 106 = .ok (.invokevirtual 86, 3) := by decide +kernel
theorem dX7_number_109 : decode cX7_number 109 = .ok (.aload_n 0, 1) := by decide +kernel
theorem dX7_number_110 : decode cX7_number 110 = .ok (.invokevirtual 69, 3) := by decide +kernel
theorem dX7_number_113 : decode cX7_number 113 = .ok (.ifCond .eq 7, 3) := by decide +kernel
theorem dX7_number_116 : decode cX7_number 116 = .ok (.iload_n 3, 1) := by decide +kernel
theorem dX7_number_117 : decode cX7_number 117 = .ok (.goto 4, 3) := by decide +kernel
theorem dX7_number_120 : decode cX7_number 120 = .ok (.iconst 0, 1) := by decide +kernel
theorem dX7_number_121 : decode cX7_number 121 = .ok (.ireturn, 1) := by decide +kernel
theorem dX7_signed_0 : decode cX7_signed 0 = .ok (.aload_n 0, 1) := by decide +kernel
theorem dX7_signed_1 : decode cX7_signed 1 = .ok (.invokevirtual 69, 3) := by decide +kernel
theorem dX7_signed_4 : decode cX7_signed 4 = .ok (.ifCond .ne 5, 3) := by decide +kernel
theorem dX7_signed_7 : decode cX7_signed 7 = .ok (.iload_n 1, 1) := by decide +kernel
theorem dX7_signed_8 : decode cX7_signed 8 = .ok (.ireturn, 1) := by decide +kernel
theorem dX7_signed_9 : decode cX7_signed 9 = .ok (.aload_n 0, 1) := by decide +kernel
theorem dX7_signed_10 : decode cX7_signed 10 = .ok (.invokevirtual 73, 3) := by decide +kernel
theorem dX7_signed_13 : decode cX7_signed 13 = .ok (.bipush 45, 2) := by decide +kernel
theorem dX7_signed_15 : decode cX7_signed 15 = .ok (.if_icmp .eq 10, 3) := by decide +kernel
theorem dX7_signed_18 : decode cX7_signed 18 = .ok (.aload_n 0, 1) := by decide +kernel
theorem dX7_signed_19 : decode cX7_signed 19 = .ok (.iload_n 1, 1) := by decide +kernel
theorem dX7_signed_20 : decode cX7_signed 20 = .ok (.iload_n 2, 1) := by decide +kernel
theorem dX7_signed_21 : decode cX7_signed 21 = .ok (.invokevirtual 102, 3) := by decide +kernel
theorem dX7_signed_24 : decode cX7_signed 24 = .ok (.ireturn, 1) := by decide +kernel
theorem dX7_signed_25 : decode cX7_signed 25 = .ok (.aload_n 0, 1) := by decide +kernel
theorem dX7_signed_26 : decode cX7_signed 26 = .ok (.getfield 52, 3) := by decide +kernel
theorem dX7_signed_29 : decode cX7_signed 29 = .ok (.istore_n 3, 1) := by decide +kernel
theorem dX7_signed_30 : decode cX7_signed 30 = .ok (.aload_n 0, 1) := by decide +kernel
theorem dX7_signed_31 : decode cX7_signed 31 = .ok (.dup, 1) := by decide +kernel
theorem dX7_signed_32 : decode cX7_signed 32 = .ok (.getfield 52, 3) := by decide +kernel
theorem dX7_signed_35 : decode cX7_signed 35 = .ok (.iconst 1, 1) := by decide +kernel
theorem dX7_signed_36 : decode cX7_signed 36 = .ok (.iadd, 1) := by decide +kernel
theorem dX7_signed_37 : decode cX7_signed 37 = .ok (.putfield 52, 3) := by decide +kernel
theorem dX7_signed_40 : decode cX7_signed 40 = .ok (.aload_n 0, 1) := by decide +kernel
theorem dX7_signed_41 : decode cX7_signed 41 = .ok (.iconst 0, 1) := by decide +kernel
theorem dX7_signed_42 : decode cX7_signed 42 = .ok (.ldc 97, 2) := by decide +kernel
theorem dX7_signed_44 : decode cX7_signed 44 = .ok (.invokevirtual 102, 3) := by decide +kernel
theorem dX7_signed_47 : decode cX7_signed 47 = .ok (.istore 4, 2) := by decide +kernel
theorem dX7_signed_49 : decode cX7_signed 49 = .ok (.aload_n 0, 1) := by decide +kernel
theorem dX7_signed_50 : decode cX7_signed 50 = .ok (.invokevirtual 69, 3) := by decide +kernel
theorem dX7_signed_53 : decode cX7_signed 53 = .ok (.ifCond .eq 21, 3) := by decide +kernel
theorem dX7_signed_56 : decode cX7_signed 56 = .ok (.iload 4, 2) := by decide +kernel
theorem dX7_signed_58 : decode cX7_signed 58 = .ok (.ineg, 1) := by decide +kernel
theorem dX7_signed_59 : decode cX7_signed 59 = .ok (.iload_n 1, 1) := by decide +kernel
theorem dX7_signed_60 : decode cX7_signed 60 = .ok (.iload_n 2, 1) := by decide +kernel
theorem dX7_signed_61 : decode cX7_signed 61 = .ok (.invokestatic 65, 3) := by decide +kernel
theorem dX7_signed_64 : decode cX7_signed 64 = .ok (.ifCond .ne 10, 3) := by decide +kernel
theorem dX7_signed_67 : decode cX7_signed 67 = .ok (.aload_n 0, 1) := by decide +kernel
theorem dX7_signed_68 : decode cX7_signed 68 = .ok (.bipush (-3), 2) := by decide +kernel
theorem dX7_signed_70 : decode cX7_signed 70 = .ok (.iload_n 3, 1) := by decide +kernel
theorem dX7_signed_71 : decode cX7_signed 71 = .ok (.invokevirtual 86, 3) := by decide +kernel
theorem dX7_signed_74 : decode cX7_signed 74 = .ok (.aload_n 0, 1) := by decide +kernel
theorem dX7_signed_75 : decode cX7_signed 75 = .ok (.invokevirtual 69, 3) := by decide +kernel
theorem dX7_signed_78 : decode cX7_signed 78 = .ok (.ifCond .eq 9, 3) := by decide +kernel
theorem dX7_signed_81 : decode cX7_signed 81 = .ok (.iload 4, 2) := by decide +kernel
theorem dX7_signed_83 : decode cX7_signed 83 = .ok (.ineg, 1) := by decide +kernel
theorem dX7_signed_84 : decode cX7_signed 84 = .ok (.goto 4, 3) := by decide +kernel
theorem dX7_signed_87 : decode cX7_signed 87 = .ok (.iload_n 1, 1) := by decide +kernel
theorem dX7_signed_88 : decode cX7_signed 88 = .ok (.ireturn, 1) := by decide +kernel
theorem dX7_massOfText_0 : decode cX7_massOfText 0 = .ok (.aload_n 0, 1) := by decide +kernel
theorem dX7_massOfText_1 : decode cX7_massOfText 1 = .ok (.iconst 0, 1) := by decide +kernel
theorem dX7_massOfText_2 : decode cX7_massOfText 2 = .ok (.aload_n 0, 1) := by decide +kernel
theorem dX7_massOfText_3 : decode cX7_massOfText 3 = .ok (.getfield 21, 3) := by decide +kernel
theorem dX7_massOfText_6 : decode cX7_massOfText 6 = .ok (.iconst 1, 1) := by decide +kernel
theorem dX7_massOfText_7 : decode cX7_massOfText 7 = .ok (.laload, 1) := by decide +kernel
theorem dX7_massOfText_8 : decode cX7_massOfText 8 = .ok (.l2i, 1) := by decide +kernel
theorem dX7_massOfText_9 : decode cX7_massOfText 9 = .ok (.iconst 1, 1) := by decide +kernel
theorem dX7_massOfText_10 : decode cX7_massOfText 10 = .ok (.isub, 1) := by decide +kernel
theorem dX7_massOfText_11 : decode cX7_massOfText 11 = .ok (.invokevirtual 102, 3) := by decide +kernel
theorem dX7_massOfText_14 : decode cX7_massOfText 14 = .ok (.ireturn, 1) := by decide +kernel
theorem dX7_readSpring_0 : decode cX7_readSpring 0 = .ok (.aload_n 0, 1) := by decide +kernel
theorem dX7_readSpring_1 : decode cX7_readSpring 1 = .ok (.iconst 0, 1) := by decide +kernel
theorem dX7_readSpring_2 : decode cX7_readSpring 2 = .ok (.aload_n 0, 1) := by decide +kernel
theorem dX7_readSpring_3 : decode cX7_readSpring 3 = .ok (.getfield 21, 3) := by decide +kernel
theorem dX7_readSpring_6 : decode cX7_readSpring 6 = .ok (.iconst 1, 1) := by decide +kernel
theorem dX7_readSpring_7 : decode cX7_readSpring 7 = .ok (.laload, 1) := by decide +kernel
theorem dX7_readSpring_8 : decode cX7_readSpring 8 = .ok (.l2i, 1) := by decide +kernel
theorem dX7_readSpring_9 : decode cX7_readSpring 9 = .ok (.invokevirtual 102, 3) := by decide +kernel
theorem dX7_readSpring_12 : decode cX7_readSpring 12 = .ok (.istore_n 1, 1) := by decide +kernel
theorem dX7_readSpring_13 : decode cX7_readSpring 13 = .ok (.aload_n 0, 1) := by decide +kernel
theorem dX7_readSpring_14 : decode cX7_readSpring 14 = .ok (.iconst 0, 1) := by decide +kernel
theorem dX7_readSpring_15 : decode cX7_readSpring 15 = .ok (.sipush 999, 3) := by decide +kernel
theorem dX7_readSpring_18 : decode cX7_readSpring 18 = .ok (.invokevirtual 102, 3) := by decide +kernel
theorem dX7_readSpring_21 : decode cX7_readSpring 21 = .ok (.istore_n 2, 1) := by decide +kernel
theorem dX7_readSpring_22 : decode cX7_readSpring 22 = .ok (.iconst 0, 1) := by decide +kernel
theorem dX7_readSpring_23 : decode cX7_readSpring 23 = .ok (.istore_n 3, 1) := by decide +kernel
theorem dX7_readSpring_24 : decode cX7_readSpring 24 = .ok (.aload_n 0, 1) := by decide +kernel
theorem dX7_readSpring_25 : decode cX7_readSpring 25 = .ok (.invokevirtual 69, 3) := by decide +kernel
theorem dX7_readSpring_28 : decode cX7_readSpring 28 = .ok (.ifCond .eq 20, 3) := by decide +kernel
theorem dX7_readSpring_31 : decode cX7_readSpring 31 = .ok (.aload_n 0, 1) := by decide +kernel
theorem dX7_readSpring_32 : decode cX7_readSpring 32 = .ok (.ldc 105, 2) := by decide +kernel
theorem dX7_readSpring_34 : decode cX7_readSpring 34 = .ok (.invokevirtual 107, 3) := by decide +kernel
theorem dX7_readSpring_37 : decode cX7_readSpring 37 = .ok (.ifCond .eq 11, 3) := by decide +kernel
theorem dX7_readSpring_40 : decode cX7_readSpring 40 = .ok (.aload_n 0, 1) := by decide +kernel
theorem dX7_readSpring_41 : decode cX7_readSpring 41 = .ok (.iconst 0, 1) := by decide +kernel
theorem dX7_readSpring_42 : decode cX7_readSpring 42 = .ok (.ldc 111, 2) := by decide +kernel
theorem dX7_readSpring_44 : decode cX7_readSpring 44 = .ok (.invokevirtual 102, 3) := by decide +kernel
theorem dX7_readSpring_47 : decode cX7_readSpring 47 = .ok (.istore_n 3, 1) := by decide +kernel
theorem dX7_readSpring_48 : decode cX7_readSpring 48 = .ok (.aload_n 0, 1) := by decide +kernel
theorem dX7_readSpring_49 : decode cX7_readSpring 49 = .ok (.invokevirtual 69, 3) := by decide +kernel
theorem dX7_readSpring_52 : decode cX7_readSpring 52 = .ok (.ifCond .ne 4, 3) := by decide +kernel
theorem dX7_readSpring_55 : decode cX7_readSpring 55 = .ok (.return_, 1) := by decide +kernel
theorem dX7_readSpring_56 : decode cX7_readSpring 56 = .ok (.aload_n 0, 1) := by decide +kernel
theorem dX7_readSpring_57 : decode cX7_readSpring 57 = .ok (.getfield 21, 3) := by decide +kernel
theorem dX7_readSpring_60 : decode cX7_readSpring 60 = .ok (.bipush 48, 2) := by decide +kernel
theorem dX7_readSpring_62 : decode cX7_readSpring 62 = .ok (.iconst 3, 1) := by decide +kernel
theorem dX7_readSpring_63 : decode cX7_readSpring 63 = .ok (.iload_n 1, 1) := by decide +kernel
theorem dX7_readSpring_64 : decode cX7_readSpring 64 = .ok (.imul, 1) := by decide +kernel
theorem dX7_readSpring_65 : decode cX7_readSpring 65 = .ok (.iadd, 1) := by decide +kernel
theorem dX7_readSpring_66 : decode cX7_readSpring 66 = .ok (.iconst 0, 1) := by decide +kernel
theorem dX7_readSpring_67 : decode cX7_readSpring 67 = .ok (.iadd, 1) := by decide +kernel
theorem dX7_readSpring_68 : decode cX7_readSpring 68 = .ok (.iload_n 2, 1) := by decide +kernel
theorem dX7_readSpring_69 : decode cX7_readSpring 69 = .ok (.i2l, 1) := by decide +kernel
theorem dX7_readSpring_70 : decode cX7_readSpring 70 = .ok (.lastore, 1) := by decide +kernel
theorem dX7_readSpring_71 : decode cX7_readSpring 71 = .ok (.aload_n 0, 1) := by decide +kernel
theorem dX7_readSpring_72 : decode cX7_readSpring 72 = .ok (.getfield 21, 3) := by decide +kernel
theorem dX7_readSpring_75 : decode cX7_readSpring 75 = .ok (.bipush 48, 2) := by decide +kernel
theorem dX7_readSpring_77 : decode cX7_readSpring 77 = .ok (.iconst 3, 1) := by decide +kernel
theorem dX7_readSpring_78 : decode cX7_readSpring 78 = .ok (.iload_n 1, 1) := by decide +kernel
theorem dX7_readSpring_79 : decode cX7_readSpring 79 = .ok (.imul, 1) := by decide +kernel
theorem dX7_readSpring_80 : decode cX7_readSpring 80 = .ok (.iadd, 1) := by decide +kernel
theorem dX7_readSpring_81 : decode cX7_readSpring 81 = .ok (.iconst 1, 1) := by decide +kernel
theorem dX7_readSpring_82 : decode cX7_readSpring 82 = .ok (.iadd, 1) := by decide +kernel
theorem dX7_readSpring_83 : decode cX7_readSpring 83 = .ok (.iload_n 3, 1) := by decide +kernel
theorem dX7_readSpring_84 : decode cX7_readSpring 84 = .ok (.i2l, 1) := by decide +kernel
theorem dX7_readSpring_85 : decode cX7_readSpring 85 = .ok (.lastore, 1) := by decide +kernel
theorem dX7_readSpring_86 : decode cX7_readSpring 86 = .ok (.return_, 1) := by decide +kernel
theorem dX7_readSprings_0 : decode cX7_readSprings 0 = .ok (.aload_n 0, 1) := by decide +kernel
theorem dX7_readSprings_1 : decode cX7_readSprings 1 = .ok (.iconst 0, 1) := by decide +kernel
theorem dX7_readSprings_2 : decode cX7_readSprings 2 = .ok (.sipush 999, 3) := by decide +kernel
theorem dX7_readSprings_5 : decode cX7_readSprings 5 = .ok (.invokevirtual 102, 3) := by decide +kernel
theorem dX7_readSprings_8 : decode cX7_readSprings 8 = .ok (.istore_n 1, 1) := by decide +kernel
theorem dX7_readSprings_9 : decode cX7_readSprings 9 = .ok (.iconst 0, 1) := by decide +kernel
theorem dX7_readSprings_10 : decode cX7_readSprings 10 = .ok (.istore_n 2, 1) := by decide +kernel
theorem dX7_readSprings_11 : decode cX7_readSprings 11 = .ok (.iload_n 2, 1) := by decide +kernel
theorem dX7_readSprings_12 : decode cX7_readSprings 12 = .ok (.aload_n 0, 1) := by decide +kernel
theorem dX7_readSprings_13 : decode cX7_readSprings 13 = .ok (.getfield 21, 3) := by decide +kernel
theorem dX7_readSprings_16 : decode cX7_readSprings 16 = .ok (.iconst 1, 1) := by decide +kernel
theorem dX7_readSprings_17 : decode cX7_readSprings 17 = .ok (.laload, 1) := by decide +kernel
theorem dX7_readSprings_18 : decode cX7_readSprings 18 = .ok (.l2i, 1) := by decide +kernel
theorem dX7_readSprings_19 : decode cX7_readSprings 19 = .ok (.if_icmp .gt 24, 3) := by decide +kernel
theorem dX7_readSprings_22 : decode cX7_readSprings 22 = .ok (.aload_n 0, 1) := by decide +kernel
theorem dX7_readSprings_23 : decode cX7_readSprings 23 = .ok (.getfield 21, 3) := by decide +kernel
theorem dX7_readSprings_26 : decode cX7_readSprings 26 = .ok (.bipush 48, 2) := by decide +kernel
theorem dX7_readSprings_28 : decode cX7_readSprings 28 = .ok (.iconst 3, 1) := by decide +kernel
theorem dX7_readSprings_29 : decode cX7_readSprings 29 = .ok (.iload_n 2, 1) := by decide +kernel
theorem dX7_readSprings_30 : decode cX7_readSprings 30 = .ok (.imul, 1) := by decide +kernel
theorem dX7_readSprings_31 : decode cX7_readSprings 31 = .ok (.iadd, 1) := by decide +kernel
theorem dX7_readSprings_32 : decode cX7_readSprings 32 = .ok (.iconst 0, 1) := by decide +kernel
theorem dX7_readSprings_33 : decode cX7_readSprings 33 = .ok (.iadd, 1) := by decide +kernel
theorem dX7_readSprings_34 : decode cX7_readSprings 34 = .ok (.iload_n 1, 1) := by decide +kernel
theorem dX7_readSprings_35 : decode cX7_readSprings 35 = .ok (.i2l, 1) := by decide +kernel
theorem dX7_readSprings_36 : decode cX7_readSprings 36 = .ok (.lastore, 1) := by decide +kernel
theorem dX7_readSprings_37 : decode cX7_readSprings 37 = .ok (.iinc 2 1, 3) := by decide +kernel
theorem dX7_readSprings_40 : decode cX7_readSprings 40 = .ok (.goto (-29), 3) := by decide +kernel
theorem dX7_readSprings_43 : decode cX7_readSprings 43 = .ok (.return_, 1) := by decide +kernel
theorem dX7_readMasses_0 : decode cX7_readMasses 0 = .ok (.aload_n 0, 1) := by decide +kernel
theorem dX7_readMasses_1 : decode cX7_readMasses 1 = .ok (.iconst 1, 1) := by decide +kernel
theorem dX7_readMasses_2 : decode cX7_readMasses 2 = .ok (.bipush 99, 2) := by decide +kernel
theorem dX7_readMasses_4 : decode cX7_readMasses 4 = .ok (.invokevirtual 102, 3) := by decide +kernel
theorem dX7_readMasses_7 : decode cX7_readMasses 7 = .ok (.istore_n 1, 1) := by decide +kernel
theorem dX7_readMasses_8 : decode cX7_readMasses 8 = .ok (.iconst 0, 1) := by decide +kernel
theorem dX7_readMasses_9 : decode cX7_readMasses 9 = .ok (.istore_n 2, 1) := by decide +kernel
theorem dX7_readMasses_10 : decode cX7_readMasses 10 = .ok (.iload_n 2, 1) := by decide +kernel
theorem dX7_readMasses_11 : decode cX7_readMasses 11 = .ok (.aload_n 0, 1) := by decide +kernel
theorem dX7_readMasses_12 : decode cX7_readMasses 12 = .ok (.getfield 21, 3) := by decide +kernel
theorem dX7_readMasses_15 : decode cX7_readMasses 15 = .ok (.iconst 1, 1) := by decide +kernel
theorem dX7_readMasses_16 : decode cX7_readMasses 16 = .ok (.laload, 1) := by decide +kernel
theorem dX7_readMasses_17 : decode cX7_readMasses 17 = .ok (.l2i, 1) := by decide +kernel
theorem dX7_readMasses_18 : decode cX7_readMasses 18 = .ok (.if_icmp .ge 24, 3) := by decide +kernel
theorem dX7_readMasses_21 : decode cX7_readMasses 21 = .ok (.aload_n 0, 1) := by decide +kernel
theorem dX7_readMasses_22 : decode cX7_readMasses 22 = .ok (.getfield 21, 3) := by decide +kernel
theorem dX7_readMasses_25 : decode cX7_readMasses 25 = .ok (.bipush 12, 2) := by decide +kernel
theorem dX7_readMasses_27 : decode cX7_readMasses 27 = .ok (.iconst 3, 1) := by decide +kernel
theorem dX7_readMasses_28 : decode cX7_readMasses 28 = .ok (.iload_n 2, 1) := by decide +kernel
theorem dX7_readMasses_29 : decode cX7_readMasses 29 = .ok (.imul, 1) := by decide +kernel
theorem dX7_readMasses_30 : decode cX7_readMasses 30 = .ok (.iadd, 1) := by decide +kernel
theorem dX7_readMasses_31 : decode cX7_readMasses 31 = .ok (.iconst 0, 1) := by decide +kernel
theorem dX7_readMasses_32 : decode cX7_readMasses 32 = .ok (.iadd, 1) := by decide +kernel
theorem dX7_readMasses_33 : decode cX7_readMasses 33 = .ok (.iload_n 1, 1) := by decide +kernel
theorem dX7_readMasses_34 : decode cX7_readMasses 34 = .ok (.i2l, 1) := by decide +kernel
theorem dX7_readMasses_35 : decode cX7_readMasses 35 = .ok (.lastore, 1) := by decide +kernel
theorem dX7_readMasses_36 : decode cX7_readMasses 36 = .ok (.iinc 2 1, 3) := by decide +kernel
theorem dX7_readMasses_39 : decode cX7_readMasses 39 = .ok (.goto (-29), 3) := by decide +kernel
theorem dX7_readMasses_42 : decode cX7_readMasses 42 = .ok (.return_, 1) := by decide +kernel
theorem dX7_readPluck_0 : decode cX7_readPluck 0 = .ok (.aload_n 0, 1) := by decide +kernel
theorem dX7_readPluck_1 : decode cX7_readPluck 1 = .ok (.invokevirtual 112, 3) := by decide +kernel
theorem dX7_readPluck_4 : decode cX7_readPluck 4 = .ok (.istore_n 1, 1) := by decide +kernel
theorem dX7_readPluck_5 : decode cX7_readPluck 5 = .ok (.aload_n 0, 1) := by decide +kernel
theorem dX7_readPluck_6 : decode cX7_readPluck 6 = .ok (.invokevirtual 69, 3) := by decide +kernel
theorem dX7_readPluck_9 : decode cX7_readPluck 9 = .ok (.ifCond .eq 25, 3) := by decide +kernel
theorem dX7_readPluck_12 : decode cX7_readPluck 12 = .ok (.aload_n 0, 1) := by decide +kernel
theorem dX7_readPluck_13 : decode cX7_readPluck 13 = .ok (.getfield 115, 3) := by decide +kernel
theorem dX7_readPluck_16 : decode cX7_readPluck 16 = .ok (.iload_n 1, 1) := by decide +kernel
theorem dX7_readPluck_17 : decode cX7_readPluck 17 = .ok (.ishr, 1) := by decide +kernel
theorem dX7_readPluck_18 : decode cX7_readPluck 18 = .ok (.iconst 1, 1) := by decide +kernel
theorem dX7_readPluck_19 : decode cX7_readPluck 19 = .ok (.iand, 1) := by decide +kernel
theorem dX7_readPluck_20 : decode cX7_readPluck 20 = .ok (.iconst 1, 1) := by decide +kernel
theorem dX7_readPluck_21 : decode cX7_readPluck 21 = .ok (.if_icmp .ne 13, 3) := by decide +kernel
theorem dX7_readPluck_24 : decode cX7_readPluck 24 = .ok (.aload_n 0, 1) := by decide +kernel
theorem dX7_readPluck_25 : decode cX7_readPluck 25 = .ok (.bipush (-4), 2) := by decide +kernel
theorem dX7_readPluck_27 : decode cX7_readPluck 27 = .ok (.aload_n 0, 1) := by decide +kernel
theorem dX7_readPluck_28 : decode cX7_readPluck 28 = .ok (.getfield 94, 3) := by decide +kernel
theorem dX7_readPluck_31 : decode cX7_readPluck 31 = .ok (.invokevirtual 86, 3) := by decide +kernel
theorem dX7_readPluck_34 : decode cX7_readPluck 34 = .ok (.aload_n 0, 1) := by decide +kernel
theorem dX7_readPluck_35 : decode cX7_readPluck 35 = .ok (.sipush (-10000), 3) := by decide +kernel
theorem dX7_readPluck_38 : decode cX7_readPluck 38 = .ok (.sipush 10000, 3) := by decide +kernel
theorem dX7_readPluck_41 : decode cX7_readPluck 41 = .ok (.invokevirtual 118, 3) := by decide +kernel
theorem dX7_readPluck_44 : decode cX7_readPluck 44 = .ok (.istore_n 2, 1) := by decide +kernel
theorem dX7_readPluck_45 : decode cX7_readPluck 45 = .ok (.aload_n 0, 1) := by decide +kernel
theorem dX7_readPluck_46 : decode cX7_readPluck 46 = .ok (.invokevirtual 69, 3) := by decide +kernel
theorem dX7_readPluck_49 : decode cX7_readPluck 49 = .ok (.ifCond .ne 4, 3) := by decide +kernel
theorem dX7_readPluck_52 : decode cX7_readPluck 52 = .ok (.return_, 1) := by decide +kernel
theorem dX7_readPluck_53 : decode cX7_readPluck 53 = .ok (.aload_n 0, 1) := by decide +kernel
theorem dX7_readPluck_54 : decode cX7_readPluck 54 = .ok (.dup, 1) := by decide +kernel
theorem dX7_readPluck_55 : decode cX7_readPluck 55 = .ok (.getfield 115, 3) := by decide +kernel
theorem dX7_readPluck_58 : decode cX7_readPluck 58 = .ok (.iconst 1, 1) := by decide +kernel
theorem dX7_readPluck_59 : decode cX7_readPluck 59 = .ok (.iload_n 1, 1) := by decide +kernel
theorem dX7_readPluck_60 : decode cX7_readPluck 60 = .ok (.ishl, 1) := by decide +kernel
theorem dX7_readPluck_61 : decode cX7_readPluck 61 = .ok (.ior, 1) := by decide +kernel
theorem dX7_readPluck_62 : decode cX7_readPluck 62 = .ok (.putfield 115, 3) := by decide +kernel
theorem dX7_readPluck_65 : decode cX7_readPluck 65 = .ok (.aload_n 0, 1) := by decide +kernel
theorem dX7_readPluck_66 : decode cX7_readPluck 66 = .ok (.getfield 21, 3) := by decide +kernel
theorem dX7_readPluck_69 : decode cX7_readPluck 69 = .ok (.bipush 12, 2) := by decide +kernel
theorem dX7_readPluck_71 : decode cX7_readPluck 71 = .ok (.iconst 3, 1) := by decide +kernel
theorem dX7_readPluck_72 : decode cX7_readPluck 72 = .ok (.iload_n 1, 1) := by decide +kernel
theorem dX7_readPluck_73 : decode cX7_readPluck 73 = .ok (.imul, 1) := by decide +kernel
theorem dX7_readPluck_74 : decode cX7_readPluck 74 = .ok (.iadd, 1) := by decide +kernel
theorem dX7_readPluck_75 : decode cX7_readPluck 75 = .ok (.iconst 1, 1) := by decide +kernel
theorem dX7_readPluck_76 : decode cX7_readPluck 76 = .ok (.iadd, 1) := by decide +kernel
theorem dX7_readPluck_77 : decode cX7_readPluck 77 = .ok (.iload_n 2, 1) := by decide +kernel
theorem dX7_readPluck_78 : decode cX7_readPluck 78 = .ok (.i2l, 1) := by decide +kernel
theorem dX7_readPluck_79 : decode cX7_readPluck 79 = .ok (.lastore, 1) := by decide +kernel
theorem dX7_readPluck_80 : decode cX7_readPluck 80 = .ok (.return_, 1) := by decide +kernel
theorem dX7_readStrike_0 : decode cX7_readStrike 0 = .ok (.aload_n 0, 1) := by decide +kernel
theorem dX7_readStrike_1 : decode cX7_readStrike 1 = .ok (.invokevirtual 112, 3) := by decide +kernel
theorem dX7_readStrike_4 : decode cX7_readStrike 4 = .ok (.istore_n 1, 1) := by decide +kernel
theorem dX7_readStrike_5 : decode cX7_readStrike 5 = .ok (.aload_n 0, 1) := by decide +kernel
theorem dX7_readStrike_6 : decode cX7_readStrike 6 = .ok (.invokevirtual 69, 3) := by decide +kernel
theorem dX7_readStrike_9 : decode cX7_readStrike 9 = .ok (.ifCond .eq 25, 3) := by decide +kernel
theorem dX7_readStrike_12 : decode cX7_readStrike 12 = .ok (.aload_n 0, 1) := by decide +kernel
theorem dX7_readStrike_13 : decode cX7_readStrike 13 = .ok (.getfield 121, 3) := by decide +kernel
theorem dX7_readStrike_16 : decode cX7_readStrike 16 = .ok (.iload_n 1, 1) := by decide +kernel
theorem dX7_readStrike_17 : decode cX7_readStrike 17 = .ok (.ishr, 1) := by decide +kernel
theorem dX7_readStrike_18 : decode cX7_readStrike 18 = .ok (.iconst 1, 1) := by decide +kernel
theorem dX7_readStrike_19 : decode cX7_readStrike 19 = .ok (.iand, 1) := by decide +kernel
theorem dX7_readStrike_20 : decode cX7_readStrike 20 = .ok (.iconst 1, 1) := by decide +kernel
theorem dX7_readStrike_21 : decode cX7_readStrike 21 = .ok (.if_icmp .ne 13, 3) := by decide +kernel
theorem dX7_readStrike_24 : decode cX7_readStrike 24 = .ok (.aload_n 0, 1) := by decide +kernel
theorem dX7_readStrike_25 : decode cX7_readStrike 25 = .ok (.bipush (-4), 2) := by decide +kernel
theorem dX7_readStrike_27 : decode cX7_readStrike 27 = .ok (.aload_n 0, 1) := by decide +kernel
theorem dX7_readStrike_28 : decode cX7_readStrike 28 = .ok (.getfield 94, 3) := by decide +kernel
theorem dX7_readStrike_31 : decode cX7_readStrike 31 = .ok (.invokevirtual 86, 3) := by decide +kernel
theorem dX7_readStrike_34 : decode cX7_readStrike 34 = .ok (.aload_n 0, 1) := by decide +kernel
theorem dX7_readStrike_35 : decode cX7_readStrike 35 = .ok (.ldc 124, 2) := by decide +kernel
theorem dX7_readStrike_37 : decode cX7_readStrike 37 = .ok (.ldc 125, 2) := by decide +kernel
theorem dX7_readStrike_39 : decode cX7_readStrike 39 = .ok (.invokevirtual 118, 3) := by decide +kernel
theorem dX7_readStrike_42 : decode cX7_readStrike 42 = .ok (.istore_n 2, 1) := by decide +kernel
theorem dX7_readStrike_43 : decode cX7_readStrike 43 = .ok (.aload_n 0, 1) := by decide +kernel
theorem dX7_readStrike_44 : decode cX7_readStrike 44 = .ok (.invokevirtual 69, 3) := by decide +kernel
theorem dX7_readStrike_47 : decode cX7_readStrike 47 = .ok (.ifCond .ne 4, 3) := by decide +kernel
theorem dX7_readStrike_50 : decode cX7_readStrike 50 = .ok (.return_, 1) := by decide +kernel
theorem dX7_readStrike_51 : decode cX7_readStrike 51 = .ok (.aload_n 0, 1) := by decide +kernel
theorem dX7_readStrike_52 : decode cX7_readStrike 52 = .ok (.dup, 1) := by decide +kernel
theorem dX7_readStrike_53 : decode cX7_readStrike 53 = .ok (.getfield 121, 3) := by decide +kernel
theorem dX7_readStrike_56 : decode cX7_readStrike 56 = .ok (.iconst 1, 1) := by decide +kernel
theorem dX7_readStrike_57 : decode cX7_readStrike 57 = .ok (.iload_n 1, 1) := by decide +kernel
theorem dX7_readStrike_58 : decode cX7_readStrike 58 = .ok (.ishl, 1) := by decide +kernel
theorem dX7_readStrike_59 : decode cX7_readStrike 59 = .ok (.ior, 1) := by decide +kernel
theorem dX7_readStrike_60 : decode cX7_readStrike 60 = .ok (.putfield 121, 3) := by decide +kernel
theorem dX7_readStrike_63 : decode cX7_readStrike 63 = .ok (.aload_n 0, 1) := by decide +kernel
theorem dX7_readStrike_64 : decode cX7_readStrike 64 = .ok (.getfield 21, 3) := by decide +kernel
theorem dX7_readStrike_67 : decode cX7_readStrike 67 = .ok (.bipush 12, 2) := by decide +kernel
theorem dX7_readStrike_69 : decode cX7_readStrike 69 = .ok (.iconst 3, 1) := by decide +kernel
theorem dX7_readStrike_70 : decode cX7_readStrike 70 = .ok (.iload_n 1, 1) := by decide +kernel
theorem dX7_readStrike_71 : decode cX7_readStrike 71 = .ok (.imul, 1) := by decide +kernel
theorem dX7_readStrike_72 : decode cX7_readStrike 72 = .ok (.iadd, 1) := by decide +kernel
theorem dX7_readStrike_73 : decode cX7_readStrike 73 = .ok (.iconst 2, 1) := by decide +kernel
theorem dX7_readStrike_74 : decode cX7_readStrike 74 = .ok (.iadd, 1) := by decide +kernel
theorem dX7_readStrike_75 : decode cX7_readStrike 75 = .ok (.iload_n 2, 1) := by decide +kernel
theorem dX7_readStrike_76 : decode cX7_readStrike 76 = .ok (.i2l, 1) := by decide +kernel
theorem dX7_readStrike_77 : decode cX7_readStrike 77 = .ok (.lastore, 1) := by decide +kernel
theorem dX7_readStrike_78 : decode cX7_readStrike 78 = .ok (.aload_n 0, 1) := by decide +kernel
theorem dX7_readStrike_79 : decode cX7_readStrike 79 = .ok (.getfield 21, 3) := by decide +kernel
theorem dX7_readStrike_82 : decode cX7_readStrike 82 = .ok (.bipush 9, 2) := by decide +kernel
theorem dX7_readStrike_84 : decode cX7_readStrike 84 = .ok (.dup2, 1) := by decide +kernel
theorem dX7_readStrike_85 : decode cX7_readStrike 85 = .ok (.laload, 1) := by decide +kernel
theorem dX7_readStrike_86 : decode cX7_readStrike 86 = .ok (.iload_n 2, 1) := by decide +kernel
theorem dX7_readStrike_87 : decode cX7_readStrike 87 = .ok (.i2l, 1) := by decide +kernel
theorem dX7_readStrike_88 : decode cX7_readStrike 88 = .ok (.ladd, 1) := by decide +kernel
theorem dX7_readStrike_89 : decode cX7_readStrike 89 = .ok (.lastore, 1) := by decide +kernel
theorem dX7_readStrike_90 : decode cX7_readStrike 90 = .ok (.return_, 1) := by decide +kernel
theorem dX7_readEnd_0 : decode cX7_readEnd 0 = .ok (.aload_n 0, 1) := by decide +kernel
theorem dX7_readEnd_1 : decode cX7_readEnd 1 = .ok (.invokevirtual 69, 3) := by decide +kernel
theorem dX7_readEnd_4 : decode cX7_readEnd 4 = .ok (.ifCond .ne 4, 3) := by decide +kernel
theorem dX7_readEnd_7 : decode cX7_readEnd 7 = .ok (.return_, 1) := by decide +kernel
theorem dX7_readEnd_8 : decode cX7_readEnd 8 = .ok (.aload_n 0, 1) := by decide +kernel
theorem dX7_readEnd_9 : decode cX7_readEnd 9 = .ok (.ldc 126, 2) := by decide +kernel
theorem dX7_readEnd_11 : decode cX7_readEnd 11 = .ok (.invokevirtual 107, 3) := by decide +kernel
theorem dX7_readEnd_14 : decode cX7_readEnd 14 = .ok (.istore_n 1, 1) := by decide +kernel
theorem dX7_readEnd_15 : decode cX7_readEnd 15 = .ok (.iload_n 1, 1) := by decide +kernel
theorem dX7_readEnd_16 : decode cX7_readEnd 16 = .ok (.ifCond .ne 22, 3) := by decide +kernel
theorem dX7_readEnd_19 : decode cX7_readEnd 19 = .ok (.aload_n 0, 1) := by decide +kernel
theorem dX7_readEnd_20 : decode cX7_readEnd 20 = .ok (.ldc 128, 2) := by decide +kernel
theorem dX7_readEnd_22 : decode cX7_readEnd 22 = .ok (.invokevirtual 107, 3) := by decide +kernel
theorem dX7_readEnd_25 : decode cX7_readEnd 25 = .ok (.ifCond .ne 13, 3) := by decide +kernel
theorem dX7_readEnd_28 : decode cX7_readEnd 28 = .ok (.aload_n 0, 1) := by decide +kernel
theorem dX7_readEnd_29 : decode cX7_readEnd 29 = .ok (.bipush (-2), 2) := by decide +kernel
theorem dX7_readEnd_31 : decode cX7_readEnd 31 = .ok (.aload_n 0, 1) := by decide +kernel
theorem dX7_readEnd_32 : decode cX7_readEnd 32 = .ok (.getfield 52, 3) := by decide +kernel
theorem dX7_readEnd_35 : decode cX7_readEnd 35 = .ok (.invokevirtual 86, 3) := by decide +kernel
theorem dX7_readEnd_38 : decode cX7_readEnd 38 = .ok (.aload_n 0, 1) := by decide +kernel
theorem dX7_readEnd_39 : decode cX7_readEnd 39 = .ok (.ldc 124, 2) := by decide +kernel
theorem dX7_readEnd_41 : decode cX7_readEnd 41 = .ok (.ldc 125, 2) := by decide +kernel
theorem dX7_readEnd_43 : decode cX7_readEnd 43 = .ok (.invokevirtual 118, 3) := by decide +kernel
theorem dX7_readEnd_46 : decode cX7_readEnd 46 = .ok (.istore_n 2, 1) := by decide +kernel
theorem dX7_readEnd_47 : decode cX7_readEnd 47 = .ok (.aload_n 0, 1) := by decide +kernel
theorem dX7_readEnd_48 : decode cX7_readEnd 48 = .ok (.invokevirtual 69, 3) := by decide +kernel
theorem dX7_readEnd_51 : decode cX7_readEnd 51 = .ok (.ifCond .eq 19, 3) := by decide +kernel
theorem dX7_readEnd_54 : decode cX7_readEnd 54 = .ok (.aload_n 0, 1) := by decide +kernel
theorem dX7_readEnd_55 : decode cX7_readEnd 55 = .ok (.getfield 21, 3) := by decide +kernel
theorem dX7_readEnd_58 : decode cX7_readEnd 58 = .ok (.iload_n 1, 1) := by decide +kernel
theorem dX7_readEnd_59 : decode cX7_readEnd 59 = .ok (.ifCond .eq 7, 3) := by decide +kernel
theorem dX7_readEnd_62 : decode cX7_readEnd 62 = .ok (.iconst 2, 1) := by decide +kernel
theorem dX7_readEnd_63 : decode cX7_readEnd 63 = .ok (.goto 4, 3) := by decide +kernel
theorem dX7_readEnd_66 : decode cX7_readEnd 66 = .ok (.iconst 3, 1) := by decide +kernel
theorem dX7_readEnd_67 : decode cX7_readEnd 67 = .ok (.iload_n 2, 1) := by decide +kernel
theorem dX7_readEnd_68 : decode cX7_readEnd 68 = .ok (.i2l, 1) := by decide +kernel
theorem dX7_readEnd_69 : decode cX7_readEnd 69 = .ok (.lastore, 1) := by decide +kernel
theorem dX7_readEnd_70 : decode cX7_readEnd 70 = .ok (.return_, 1) := by decide +kernel
theorem dX7_addImpulse_0 : decode cX7_addImpulse 0 = .ok (.bipush 87, 2) := by decide +kernel
theorem dX7_addImpulse_2 : decode cX7_addImpulse 2 = .ok (.iconst 3, 1) := by decide +kernel
theorem dX7_addImpulse_3 : decode cX7_addImpulse 3 = .ok (.aload_n 0, 1) := by decide +kernel
theorem dX7_addImpulse_4 : decode cX7_addImpulse 4 = .ok (.iconst 5, 1) := by decide +kernel
theorem dX7_addImpulse_5 : decode cX7_addImpulse 5 = .ok (.laload, 1) := by decide +kernel
theorem dX7_addImpulse_6 : decode cX7_addImpulse 6 = .ok (.l2i, 1) := by decide +kernel
theorem dX7_addImpulse_7 : decode cX7_addImpulse 7 = .ok (.imul, 1) := by decide +kernel
theorem dX7_addImpulse_8 : decode cX7_addImpulse 8 = .ok (.iadd, 1) := by decide +kernel
theorem dX7_addImpulse_9 : decode cX7_addImpulse 9 = .ok (.istore 4, 2) := by decide +kernel
theorem dX7_addImpulse_11 : decode cX7_addImpulse 11 = .ok (.aload_n 0, 1) := by decide +kernel
theorem dX7_addImpulse_12 : decode cX7_addImpulse 12 = .ok (.iload 4, 2) := by decide +kernel
theorem dX7_addImpulse_14 : decode cX7_addImpulse 14 = .ok (.iload_n 1, 1) := by decide +kernel
theorem dX7_addImpulse_15 : decode cX7_addImpulse 15 = .ok (.i2l, 1) := by decide +kernel
theorem dX7_addImpulse_16 : decode cX7_addImpulse 16 = .ok (.lastore, 1) := by decide +kernel
theorem dX7_addImpulse_17 : decode cX7_addImpulse 17 = .ok (.aload_n 0, 1) := by decide +kernel
theorem dX7_addImpulse_18 : decode cX7_addImpulse 18 = .ok (.iload 4, 2) := by decide +kernel
theorem dX7_addImpulse_20 : decode cX7_addImpulse 20 = .ok (.iconst 1, 1) := by decide +kernel
theorem dX7_addImpulse_21 : decode cX7_addImpulse 21 = .ok (.iadd, 1) := by decide +kernel
theorem dX7_addImpulse_22 : decode cX7_addImpulse 22 = .ok (.iload_n 2, 1) := by decide +kernel
theorem dX7_addImpulse_23 : decode cX7_addImpulse 23 = .ok (.i2l, 1) := by decide +kernel
theorem dX7_addImpulse_24 : decode cX7_addImpulse 24 = .ok (.lastore, 1) := by decide +kernel
theorem dX7_addImpulse_25 : decode cX7_addImpulse 25 = .ok (.aload_n 0, 1) := by decide +kernel
theorem dX7_addImpulse_26 : decode cX7_addImpulse 26 = .ok (.iload 4, 2) := by decide +kernel
theorem dX7_addImpulse_28 : decode cX7_addImpulse 28 = .ok (.iconst 2, 1) := by decide +kernel
theorem dX7_addImpulse_29 : decode cX7_addImpulse 29 = .ok (.iadd, 1) := by decide +kernel
theorem dX7_addImpulse_30 : decode cX7_addImpulse 30 = .ok (.iload_n 3, 1) := by decide +kernel
theorem dX7_addImpulse_31 : decode cX7_addImpulse 31 = .ok (.i2l, 1) := by decide +kernel
theorem dX7_addImpulse_32 : decode cX7_addImpulse 32 = .ok (.lastore, 1) := by decide +kernel
theorem dX7_addImpulse_33 : decode cX7_addImpulse 33 = .ok (.aload_n 0, 1) := by decide +kernel
theorem dX7_addImpulse_34 : decode cX7_addImpulse 34 = .ok (.iconst 5, 1) := by decide +kernel
theorem dX7_addImpulse_35 : decode cX7_addImpulse 35 = .ok (.dup2, 1) := by decide +kernel
theorem dX7_addImpulse_36 : decode cX7_addImpulse 36 = .ok (.laload, 1) := by decide +kernel
theorem dX7_addImpulse_37 : decode cX7_addImpulse 37 = .ok (.lconst 1, 1) := by decide +kernel
theorem dX7_addImpulse_38 : decode cX7_addImpulse 38 = .ok (.ladd, 1) := by decide +kernel
theorem dX7_addImpulse_39 : decode cX7_addImpulse 39 = .ok (.lastore, 1) := by decide +kernel
theorem dX7_addImpulse_40 : decode cX7_addImpulse 40 = .ok (.return_, 1) := by decide +kernel
theorem dX7_readImpulse_0 : decode cX7_readImpulse 0 = .ok (.aload_n 0, 1) := by decide +kernel
theorem dX7_readImpulse_1 : decode cX7_readImpulse 1 = .ok (.getfield 21, 3) := by decide +kernel
theorem dX7_readImpulse_4 : decode cX7_readImpulse 4 = .ok (.iconst 5, 1) := by decide +kernel
theorem dX7_readImpulse_5 : decode cX7_readImpulse 5 = .ok (.laload, 1) := by decide +kernel
theorem dX7_readImpulse_6 : decode cX7_readImpulse 6 = .ok (.ldc2_w 130, 3) := by decide +kernel
theorem dX7_readImpulse_9 : decode cX7_readImpulse 9 = .ok (.lcmp, 1) := by decide +kernel
theorem dX7_readImpulse_10 : decode cX7_readImpulse 10 = .ok (.ifCond .ne 10, 3) := by decide +kernel
theorem dX7_readImpulse_13 : decode cX7_readImpulse 13 = .ok (.aload_n 0, 1) := by decide +kernel
theorem dX7_readImpulse_14 : decode cX7_readImpulse 14 = .ok (.bipush (-5), 2) := by decide +kernel
theorem dX7_readImpulse_16 : decode cX7_readImpulse 16 = .ok (.iload_n 1, 1) := by decide +kernel
theorem dX7_readImpulse_17 : decode cX7_readImpulse 17 = .ok (.invokevirtual 86, 3) := by decide +kernel
theorem dX7_readImpulse_20 : decode cX7_readImpulse 20 = .ok (.aload_n 0, 1) := by decide +kernel
theorem dX7_readImpulse_21 : decode cX7_readImpulse 21 = .ok (.iconst 0, 1) := by decide +kernel
theorem dX7_readImpulse_22 : decode cX7_readImpulse 22 = .ok (.sipush 9999, 3) := by decide +kernel
theorem dX7_readImpulse_25 : decode cX7_readImpulse 25 = .ok (.invokevirtual 102, 3) := by decide +kernel
theorem dX7_readImpulse_28 : decode cX7_readImpulse 28 = .ok (.istore_n 2, 1) := by decide +kernel
theorem dX7_readImpulse_29 : decode cX7_readImpulse 29 = .ok (.aload_n 0, 1) := by decide +kernel
theorem dX7_readImpulse_30 : decode cX7_readImpulse 30 = .ok (.invokevirtual 112, 3) := by decide +kernel
theorem dX7_readImpulse_33 : decode cX7_readImpulse 33 = .ok (.istore_n 3, 1) := by decide +kernel
theorem dX7_readImpulse_34 : decode cX7_readImpulse 34 = .ok (.aload_n 0, 1) := by decide +kernel
theorem dX7_readImpulse_35 : decode cX7_readImpulse 35 = .ok (.invokevirtual 69, 3) := by decide +kernel
theorem dX7_readImpulse_38 : decode cX7_readImpulse 38 = .ok (.ifCond .ne 4, 3) := by decide +kernel
theorem dX7_readImpulse_41 : decode cX7_readImpulse 41 = .ok (.return_, 1) := by decide +kernel
theorem dX7_readImpulse_42 : decode cX7_readImpulse 42 = .ok (.aload_n 0, 1) := by decide +kernel
theorem dX7_readImpulse_43 : decode cX7_readImpulse 43 = .ok (.invokevirtual 73, 3) := by decide +kernel
theorem dX7_readImpulse_46 : decode cX7_readImpulse 46 = .ok (.pop, 1) := by decide +kernel
theorem dX7_readImpulse_47 : decode cX7_readImpulse 47 = .ok (.aload_n 0, 1) := by decide +kernel
theorem dX7_readImpulse_48 : decode cX7_readImpulse 48 = .ok (.getfield 52, 3) := by decide +kernel
theorem dX7_readImpulse_51 : decode cX7_readImpulse 51 = .ok (.istore 4, 2) := by decide +kernel
theorem dX7_readImpulse_53 : decode cX7_readImpulse 53 = .ok (.aload_n 0, 1) := by decide +kernel
theorem dX7_readImpulse_54 : decode cX7_readImpulse 54 = .ok (.sipush (-9999), 3) := by decide +kernel
theorem dX7_readImpulse_57 : decode cX7_readImpulse 57 = .ok (.sipush 9999, 3) := by decide +kernel
theorem dX7_readImpulse_60 : decode cX7_readImpulse 60 = .ok (.invokevirtual 118, 3) := by decide +kernel
theorem dX7_readImpulse_63 : decode cX7_readImpulse 63 = .ok (.istore 5, 2) := by decide +kernel
theorem dX7_readImpulse_65 : decode cX7_readImpulse 65 = .ok (.aload_n 0, 1) := by decide +kernel
theorem dX7_readImpulse_66 : decode cX7_readImpulse 66 = .ok (.invokevirtual 69, 3) := by decide +kernel
theorem dX7_readImpulse_69 : decode cX7_readImpulse 69 = .ok (.ifCond .eq 16, 3) := by decide +kernel
theorem dX7_readImpulse_72 : decode cX7_readImpulse 72 = .ok (.iload 5, 2) := by decide +kernel
theorem dX7_readImpulse_74 : decode cX7_readImpulse 74 = .ok (.ifCond .ne 11, 3) := by decide +kernel
theorem dX7_readImpulse_77 : decode cX7_readImpulse 77 = .ok (.aload_n 0, 1) := by decide +kernel
theorem dX7_readImpulse_78 : decode cX7_readImpulse 78 = .ok (.bipush (-3), 2) := by decide +kernel
theorem dX7_readImpulse_80 : decode cX7_readImpulse 80 = .ok (.iload 4, 2) := by decide +kernel
theorem dX7_readImpulse_82 : decode cX7_readImpulse 82 = .ok (.invokevirtual 86, 3) := by decide +kernel
theorem dX7_readImpulse_85 : decode cX7_readImpulse 85 = .ok (.aload_n 0, 1) := by decide +kernel
theorem dX7_readImpulse_86 : decode cX7_readImpulse 86 = .ok (.invokevirtual 69, 3) := by decide +kernel
theorem dX7_readImpulse_89 : decode cX7_readImpulse 89 = .ok (.ifCond .eq 14, 3) := by decide +kernel
theorem dX7_readImpulse_92 : decode cX7_readImpulse 92 = .ok (.aload_n 0, 1) := by decide +kernel
theorem dX7_readImpulse_93 : decode cX7_readImpulse 93 = .ok (.getfield 21, 3) := by decide +kernel
theorem dX7_readImpulse_96 : decode cX7_readImpulse 96 = .ok (.iload_n 2, 1) := by decide +kernel
theorem dX7_readImpulse_97 : decode cX7_readImpulse 97 = .ok (.iload_n 3, 1) := by decide +kernel
theorem dX7_readImpulse_98 : decode cX7_readImpulse 98 = .ok (.iload 5, 2) := by decide +kernel
