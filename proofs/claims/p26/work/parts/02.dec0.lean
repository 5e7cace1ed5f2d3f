theorem dX0_init_0 : decode cX0_init 0 = .ok (.aload_n 0, 1) := by decide +kernel
theorem dX0_init_1 : decode cX0_init 1 = .ok (.invokespecial 3, 3) := by decide +kernel
theorem dX0_init_4 : decode cX0_init 4 = .ok (.aload_n 0, 1) := by decide +kernel
theorem dX0_init_5 : decode cX0_init 5 = .ok (.bipush 12, 2) := by decide +kernel
theorem dX0_init_7 : decode cX0_init 7 = .ok (.newarray .int, 2) := by decide +kernel
theorem dX0_init_9 : decode cX0_init 9 = .ok (.putfield 9, 3) := by decide +kernel
theorem dX0_init_12 : decode cX0_init 12 = .ok (.aload_n 0, 1) := by decide +kernel
theorem dX0_init_13 : decode cX0_init 13 = .ok (.bipush 12, 2) := by decide +kernel
theorem dX0_init_15 : decode cX0_init 15 = .ok (.newarray .int, 2) := by decide +kernel
theorem dX0_init_17 : decode cX0_init 17 = .ok (.putfield 15, 3) := by decide +kernel
theorem dX0_init_20 : decode cX0_init 20 = .ok (.aload_n 0, 1) := by decide +kernel
theorem dX0_init_21 : decode cX0_init 21 = .ok (.bipush 12, 2) := by decide +kernel
theorem dX0_init_23 : decode cX0_init 23 = .ok (.newarray .int, 2) := by decide +kernel
theorem dX0_init_25 : decode cX0_init 25 = .ok (.putfield 18, 3) := by decide +kernel
theorem dX0_init_28 : decode cX0_init 28 = .ok (.aload_n 0, 1) := by decide +kernel
theorem dX0_init_29 : decode cX0_init 29 = .ok (.bipush 13, 2) := by decide +kernel
theorem dX0_init_31 : decode cX0_init 31 = .ok (.newarray .int, 2) := by decide +kernel
theorem dX0_init_33 : decode cX0_init 33 = .ok (.putfield 21, 3) := by decide +kernel
theorem dX0_init_36 : decode cX0_init 36 = .ok (.aload_n 0, 1) := by decide +kernel
theorem dX0_init_37 : decode cX0_init 37 = .ok (.bipush 13, 2) := by decide +kernel
theorem dX0_init_39 : decode cX0_init 39 = .ok (.newarray .int, 2) := by decide +kernel
theorem dX0_init_41 : decode cX0_init 41 = .ok (.putfield 24, 3) := by decide +kernel
theorem dX0_init_44 : decode cX0_init 44 = .ok (.aload_n 0, 1) := by decide +kernel
theorem dX0_init_45 : decode cX0_init 45 = .ok (.bipush 13, 2) := by decide +kernel
theorem dX0_init_47 : decode cX0_init 47 = .ok (.newarray .boolean, 2) := by decide +kernel
theorem dX0_init_49 : decode cX0_init 49 = .ok (.putfield 27, 3) := by decide +kernel
theorem dX0_init_52 : decode cX0_init 52 = .ok (.aload_n 0, 1) := by decide +kernel
theorem dX0_init_53 : decode cX0_init 53 = .ok (.new 31, 3) := by decide +kernel
theorem dX0_init_56 : decode cX0_init 56 = .ok (.dup, 1) := by decide +kernel
theorem dX0_init_57 : decode cX0_init 57 = .ok (.invokespecial 33, 3) := by decide +kernel
theorem dX0_init_60 : decode cX0_init 60 = .ok (.putfield 34, 3) := by decide +kernel
theorem dX0_init_63 : decode cX0_init 63 = .ok (.aload_n 0, 1) := by decide +kernel
theorem dX0_init_64 : decode cX0_init 64 = .ok (.new 38, 3) := by decide +kernel
theorem dX0_init_67 : decode cX0_init 67 = .ok (.dup, 1) := by decide +kernel
theorem dX0_init_68 : decode cX0_init 68 = .ok (.invokespecial 40, 3) := by decide +kernel
theorem dX0_init_71 : decode cX0_init 71 = .ok (.putfield 41, 3) := by decide +kernel
theorem dX0_init_74 : decode cX0_init 74 = .ok (.aload_n 0, 1) := by decide +kernel
theorem dX0_init_75 : decode cX0_init 75 = .ok (.new 45, 3) := by decide +kernel
theorem dX0_init_78 : decode cX0_init 78 = .ok (.dup, 1) := by decide +kernel
theorem dX0_init_79 : decode cX0_init 79 = .ok (.invokespecial 47, 3) := by decide +kernel
theorem dX0_init_82 : decode cX0_init 82 = .ok (.putfield 48, 3) := by decide +kernel
theorem dX0_init_85 : decode cX0_init 85 = .ok (.aload_n 0, 1) := by decide +kernel
theorem dX0_init_86 : decode cX0_init 86 = .ok (.iconst 1, 1) := by decide +kernel
theorem dX0_init_87 : decode cX0_init 87 = .ok (.invokevirtual 52, 3) := by decide +kernel
theorem dX0_init_90 : decode cX0_init 90 = .ok (.return_, 1) := by decide +kernel
theorem dX0_begin_0 : decode cX0_begin 0 = .ok (.aload_n 0, 1) := by decide +kernel
theorem dX0_begin_1 : decode cX0_begin 1 = .ok (.iconst 1, 1) := by decide +kernel
theorem dX0_begin_2 : decode cX0_begin 2 = .ok (.bipush 12, 2) := by decide +kernel
theorem dX0_begin_4 : decode cX0_begin 4 = .ok (.iload_n 1, 1) := by decide +kernel
theorem dX0_begin_5 : decode cX0_begin 5 = .ok (.invokestatic 56, 3) := by decide +kernel
theorem dX0_begin_8 : decode cX0_begin 8 = .ok (.invokestatic 62, 3) := by decide +kernel
theorem dX0_begin_11 : decode cX0_begin 11 = .ok (.putfield 65, 3) := by decide +kernel
theorem dX0_begin_14 : decode cX0_begin 14 = .ok (.aload_n 0, 1) := by decide +kernel
theorem dX0_begin_15 : decode cX0_begin 15 = .ok (.iconst 0, 1) := by decide +kernel
theorem dX0_begin_16 : decode cX0_begin 16 = .ok (.putfield 69, 3) := by decide +kernel
theorem dX0_begin_19 : decode cX0_begin 19 = .ok (.aload_n 0, 1) := by decide +kernel
theorem dX0_begin_20 : decode cX0_begin 20 = .ok (.iconst 0, 1) := by decide +kernel
theorem dX0_begin_21 : decode cX0_begin 21 = .ok (.putfield 72, 3) := by decide +kernel
theorem dX0_begin_24 : decode cX0_begin 24 = .ok (.aload_n 0, 1) := by decide +kernel
theorem dX0_begin_25 : decode cX0_begin 25 = .ok (.iconst 0, 1) := by decide +kernel
theorem dX0_begin_26 : decode cX0_begin 26 = .ok (.putfield 75, 3) := by decide +kernel
theorem dX0_begin_29 : decode cX0_begin 29 = .ok (.aload_n 0, 1) := by decide +kernel
theorem dX0_begin_30 : decode cX0_begin 30 = .ok (.iconst 0, 1) := by decide +kernel
theorem dX0_begin_31 : decode cX0_begin 31 = .ok (.putfield 78, 3) := by decide +kernel
theorem dX0_begin_34 : decode cX0_begin 34 = .ok (.iconst 0, 1) := by decide +kernel
theorem dX0_begin_35 : decode cX0_begin 35 = .ok (.istore_n 2, 1) := by decide +kernel
theorem dX0_begin_36 : decode cX0_begin 36 = .ok (.iload_n 2, 1) := by decide +kernel
theorem dX0_begin_37 : decode cX0_begin 37 = .ok (.bipush 12, 2) := by decide +kernel
theorem dX0_begin_39 : decode cX0_begin 39 = .ok (.if_icmp .ge 31, 3) := by decide +kernel
theorem dX0_begin_42 : decode cX0_begin 42 = .ok (.aload_n 0, 1) := by decide +kernel
theorem dX0_begin_43 : decode cX0_begin 43 = .ok (.getfield 9, 3) := by decide +kernel
theorem dX0_begin_46 : decode cX0_begin 46 = .ok (.iload_n 2, 1) := by decide +kernel
theorem dX0_begin_47 : decode cX0_begin 47 = .ok (.bipush 10, 2) := by decide +kernel
theorem dX0_begin_49 : decode cX0_begin 49 = .ok (.iastore, 1) := by decide +kernel
theorem dX0_begin_50 : decode cX0_begin 50 = .ok (.aload_n 0, 1) := by decide +kernel
theorem dX0_begin_51 : decode cX0_begin 51 = .ok (.getfield 15, 3) := by decide +kernel
theorem dX0_begin_54 : decode cX0_begin 54 = .ok (.iload_n 2, 1) := by decide +kernel
theorem dX0_begin_55 : decode cX0_begin 55 = .ok (.iconst 0, 1) := by decide +kernel
theorem dX0_begin_56 : decode cX0_begin 56 = .ok (.iastore, 1) := by decide +kernel
theorem dX0_begin_57 : decode cX0_begin 57 = .ok (.aload_n 0, 1) := by decide +kernel
theorem dX0_begin_58 : decode cX0_begin 58 = .ok (.getfield 18, 3) := by decide +kernel
theorem dX0_begin_61 : decode cX0_begin 61 = .ok (.iload_n 2, 1) := by decide +kernel
theorem dX0_begin_62 : decode cX0_begin 62 = .ok (.iconst 0, 1) := by decide +kernel
theorem dX0_begin_63 : decode cX0_begin 63 = .ok (.iastore, 1) := by decide +kernel
theorem dX0_begin_64 : decode cX0_begin 64 = .ok (.iinc 2 1, 3) := by decide +kernel
theorem dX0_begin_67 : decode cX0_begin 67 = .ok (.goto (-31), 3) := by decide +kernel
theorem dX0_begin_70 : decode cX0_begin 70 = .ok (.iconst 0, 1) := by decide +kernel
theorem dX0_begin_71 : decode cX0_begin 71 = .ok (.istore_n 2, 1) := by decide +kernel
theorem dX0_begin_72 : decode cX0_begin 72 = .ok (.iload_n 2, 1) := by decide +kernel
theorem dX0_begin_73 : decode cX0_begin 73 = .ok (.bipush 13, 2) := by decide +kernel
theorem dX0_begin_75 : decode cX0_begin 75 = .ok (.if_icmp .ge 31, 3) := by decide +kernel
theorem dX0_begin_78 : decode cX0_begin 78 = .ok (.aload_n 0, 1) := by decide +kernel
theorem dX0_begin_79 : decode cX0_begin 79 = .ok (.getfield 21, 3) := by decide +kernel
theorem dX0_begin_82 : decode cX0_begin 82 = .ok (.iload_n 2, 1) := by decide +kernel
theorem dX0_begin_83 : decode cX0_begin 83 = .ok (.bipush 100, 2) := by decide +kernel
theorem dX0_begin_85 : decode cX0_begin 85 = .ok (.iastore, 1) := by decide +kernel
theorem dX0_begin_86 : decode cX0_begin 86 = .ok (.aload_n 0, 1) := by decide +kernel
theorem dX0_begin_87 : decode cX0_begin 87 = .ok (.getfield 24, 3) := by decide +kernel
theorem dX0_begin_90 : decode cX0_begin 90 = .ok (.iload_n 2, 1) := by decide +kernel
theorem dX0_begin_91 : decode cX0_begin 91 = .ok (.iconst 0, 1) := by decide +kernel
theorem dX0_begin_92 : decode cX0_begin 92 = .ok (.iastore, 1) := by decide +kernel
theorem dX0_begin_93 : decode cX0_begin 93 = .ok (.aload_n 0, 1) := by decide +kernel
theorem dX0_begin_94 : decode cX0_begin 94 = .ok (.getfield 27, 3) := by decide +kernel
theorem dX0_begin_97 : decode cX0_begin 97 = .ok (.iload_n 2, 1) := by decide +kernel
theorem dX0_begin_98 : decode cX0_begin 98 = .ok (.iconst 0, 1) := by decide +kernel
theorem dX0_begin_99 : decode cX0_begin 99 = .ok (.bastore, 1) := by decide +kernel
theorem dX0_begin_100 : decode cX0_begin 100 = .ok (.iinc 2 1, 3) := by decide +kernel
theorem dX0_begin_103 : decode cX0_begin 103 = .ok (.goto (-31), 3) := by decide +kernel
theorem dX0_begin_106 : decode cX0_begin 106 = .ok (.aload_n 0, 1) := by decide +kernel
theorem dX0_begin_107 : decode cX0_begin 107 = .ok (.getfield 34, 3) := by decide +kernel
theorem dX0_begin_110 : decode cX0_begin 110 = .ok (.invokevirtual 81, 3) := by decide +kernel
theorem dX0_begin_113 : decode cX0_begin 113 = .ok (.aload_n 0, 1) := by decide +kernel
theorem dX0_begin_114 : decode cX0_begin 114 = .ok (.getfield 41, 3) := by decide +kernel
theorem dX0_begin_117 : decode cX0_begin 117 = .ok (.iconst 0, 1) := by decide +kernel
theorem dX0_begin_118 : decode cX0_begin 118 = .ok (.putfield 84, 3) := by decide +kernel
theorem dX0_begin_121 : decode cX0_begin 121 = .ok (.aload_n 0, 1) := by decide +kernel
theorem dX0_begin_122 : decode cX0_begin 122 = .ok (.getfield 48, 3) := by decide +kernel
theorem dX0_begin_125 : decode cX0_begin 125 = .ok (.iconst 0, 1) := by decide +kernel
theorem dX0_begin_126 : decode cX0_begin 126 = .ok (.putfield 87, 3) := by decide +kernel
theorem dX0_begin_129 : decode cX0_begin 129 = .ok (.return_, 1) := by decide +kernel
theorem dX0_become_0 : decode cX0_become 0 = .ok (.aload_n 0, 1) := by decide +kernel
theorem dX0_become_1 : decode cX0_become 1 = .ok (.aload_n 1, 1) := by decide +kernel
theorem dX0_become_2 : decode cX0_become 2 = .ok (.getfield 65, 3) := by decide +kernel
theorem dX0_become_5 : decode cX0_become 5 = .ok (.putfield 65, 3) := by decide +kernel
theorem dX0_become_8 : decode cX0_become 8 = .ok (.aload_n 0, 1) := by decide +kernel
theorem dX0_become_9 : decode cX0_become 9 = .ok (.aload_n 1, 1) := by decide +kernel
theorem dX0_become_10 : decode cX0_become 10 = .ok (.getfield 69, 3) := by decide +kernel
theorem dX0_become_13 : decode cX0_become 13 = .ok (.putfield 69, 3) := by decide +kernel
theorem dX0_become_16 : decode cX0_become 16 = .ok (.aload_n 0, 1) := by decide +kernel
theorem dX0_become_17 : decode cX0_become 17 = .ok (.aload_n 1, 1) := by decide +kernel
theorem dX0_become_18 : decode cX0_become 18 = .ok (.getfield 72, 3) := by decide +kernel
theorem dX0_become_21 : decode cX0_become 21 = .ok (.putfield 72, 3) := by decide +kernel
theorem dX0_become_24 : decode cX0_become 24 = .ok (.aload_n 0, 1) := by decide +kernel
theorem dX0_become_25 : decode cX0_become 25 = .ok (.aload_n 1, 1) := by decide +kernel
theorem dX0_become_26 : decode cX0_become 26 = .ok (.getfield 75, 3) := by decide +kernel
theorem dX0_become_29 : decode cX0_become 29 = .ok (.putfield 75, 3) := by decide +kernel
theorem dX0_become_32 : decode cX0_become 32 = .ok (.aload_n 0, 1) := by decide +kernel
theorem dX0_become_33 : decode cX0_become 33 = .ok (.aload_n 1, 1) := by decide +kernel
theorem dX0_become_34 : decode cX0_become 34 = .ok (.getfield 78, 3) := by decide +kernel
theorem dX0_become_37 : decode cX0_become 37 = .ok (.putfield 78, 3) := by decide +kernel
theorem dX0_become_40 : decode cX0_become 40 = .ok (.iconst 0, 1) := by decide +kernel
theorem dX0_become_41 : decode cX0_become 41 = .ok (.istore_n 2, 1) := by decide +kernel
theorem dX0_become_42 : decode cX0_become 42 = .ok (.iload_n 2, 1) := by decide +kernel
theorem dX0_become_43 : decode cX0_become 43 = .ok (.bipush 12, 2) := by decide +kernel
theorem dX0_become_45 : decode cX0_become 45 = .ok (.if_icmp .ge 45, 3) := by decide +kernel
theorem dX0_become_48 : decode cX0_become 48 = .ok (.aload_n 0, 1) := by decide +kernel
theorem dX0_become_49 : decode cX0_become 49 = .ok (.getfield 9, 3) := by decide +kernel
theorem dX0_become_52 : decode cX0_become 52 = .ok (.iload_n 2, 1) := by decide +kernel
theorem dX0_become_53 : decode cX0_become 53 = .ok (.aload_n 1, 1) := by decide +kernel
theorem dX0_become_54 : decode cX0_become 54 = .ok (.getfield 9, 3) := by decide +kernel
theorem dX0_become_57 : decode cX0_become 57 = .ok (.iload_n 2, 1) := by decide +kernel
theorem dX0_become_58 : decode cX0_become 58 = .ok (.iaload, 1) := by decide +kernel
theorem dX0_become_59 : decode cX0_become 59 = .ok (.iastore, 1) := by decide +kernel
theorem dX0_become_60 : decode cX0_become 60 = .ok (.aload_n 0, 1) := by decide +kernel
theorem dX0_become_61 : decode cX0_become 61 = .ok (.getfield 15, 3) := by decide +kernel
theorem dX0_become_64 : decode cX0_become 64 = .ok (.iload_n 2, 1) := by decide +kernel
theorem dX0_become_65 : decode cX0_become 65 = .ok (.aload_n 1, 1) := by decide +kernel
theorem dX0_become_66 : decode cX0_become 66 = .ok (.getfield 15, 3) := by decide +kernel
theorem dX0_become_69 : decode cX0_become 69 = .ok (.iload_n 2, 1) := by decide +kernel
theorem dX0_become_70 : decode cX0_become 70 = .ok (.iaload, 1) := by decide +kernel
theorem dX0_become_71 : decode cX0_become 71 = .ok (.iastore, 1) := by decide +kernel
theorem dX0_become_72 : decode cX0_become 72 = .ok (.aload_n 0, 1) := by decide +kernel
theorem dX0_become_73 : decode cX0_become 73 = .ok (.getfield 18, 3) := by decide +kernel
theorem dX0_become_76 : decode cX0_become 76 = .ok (.iload_n 2, 1) := by decide +kernel
theorem dX0_become_77 : decode cX0_become 77 = .ok (.aload_n 1, 1) := by decide +kernel
theorem dX0_become_78 : decode cX0_become 78 = .ok (.getfield 18, 3) := by decide +kernel
theorem dX0_become_81 : decode cX0_become 81 = .ok (.iload_n 2, 1) := by decide +kernel
theorem dX0_become_82 : decode cX0_become 82 = .ok (.iaload, 1) := by decide +kernel
theorem dX0_become_83 : decode cX0_become 83 = .ok (.iastore, 1) := by decide +kernel
theorem dX0_become_84 : decode cX0_become 84 = .ok (.iinc 2 1, 3) := by decide +kernel
theorem dX0_become_87 : decode cX0_become 87 = .ok (.goto (-45), 3) := by decide +kernel
theorem dX0_become_90 : decode cX0_become 90 = .ok (.iconst 0, 1) := by decide +kernel
theorem dX0_become_91 : decode cX0_become 91 = .ok (.istore_n 2, 1) := by decide +kernel
theorem dX0_become_92 : decode cX0_become 92 = .ok (.iload_n 2, 1) := by decide +kernel
theorem dX0_become_93 : decode cX0_become 93 = .ok (.bipush 13, 2) := by decide +kernel
theorem dX0_become_95 : decode cX0_become 95 = .ok (.if_icmp .ge 45, 3) := by decide +kernel
theorem dX0_become_98 : decode cX0_become 98 = .ok (.aload_n 0, 1) := by decide +kernel
theorem dX0_become_99 : decode cX0_become 99 = .ok (.getfield 21, 3) := by decide +kernel
theorem dX0_become_102 : decode cX0_become 102 = .ok (.iload_n 2, 1) := by decide +kernel
theorem dX0_become_103 : decode cX0_become 103 = .ok (.aload_n 1, 1) := by decide +kernel
theorem dX0_become_104 : decode cX0_become 104 = .ok (.getfield 21, 3) := by decide +kernel
theorem dX0_become_107 : decode cX0_become 107 = .ok (.iload_n 2, 1) := by decide +kernel
theorem dX0_become_108 : decode cX0_become 108 = .ok (.iaload, 1) := by decide +kernel
theorem dX0_become_109 : decode cX0_become 109 = .ok (.iastore, 1) := by decide +kernel
theorem dX0_become_110 : decode cX0_become 110 = .ok (.aload_n 0, 1) := by decide +kernel
theorem dX0_become_111 : decode cX0_become 111 = .ok (.getfield 24, 3) := by decide +kernel
theorem dX0_become_114 : decode cX0_become 114 = .ok (.iload_n 2, 1) := by decide +kernel
theorem dX0_become_115 : decode cX0_become 115 = .ok (.aload_n 1, 1) := by decide +kernel
theorem dX0_become_116 : decode cX0_become 116 = .ok (.getfield 24, 3) := by decide +kernel
theorem dX0_become_119 : decode cX0_become 119 = .ok (.iload_n 2, 1) := by decide +kernel
theorem dX0_become_120 : decode cX0_become 120 = .ok (.iaload, 1) := by decide +kernel
theorem dX0_become_121 : decode cX0_become 121 = .ok (.iastore, 1) := by decide +kernel
theorem dX0_become_122 : decode cX0_become 122 = .ok (.aload_n 0, 1) := by decide +kernel
theorem dX0_become_123 : decode cX0_become 123 = .ok (.getfield 27, 3) := by decide +kernel
theorem dX0_become_126 : decode cX0_become 126 = .ok (.iload_n 2, 1) := by decide +kernel
theorem dX0_become_127 : decode cX0_become 127 = .ok (.aload_n 1, 1) := by decide +kernel
theorem dX0_become_128 : decode cX0_become 128 = .ok (.getfield 27, 3) := by decide +kernel
theorem dX0_become_131 : decode cX0_become 131 = .ok (.iload_n 2, 1) := by decide +kernel
theorem dX0_become_132 : decode cX0_become 132 = .ok (.baload, 1) := by decide +kernel
theorem dX0_become_133 : decode cX0_become 133 = .ok (.bastore, 1) := by decide +kernel
theorem dX0_become_134 : decode cX0_become 134 = .ok (.iinc 2 1, 3) := by decide +kernel
theorem dX0_become_137 : decode cX0_become 137 = .ok (.goto (-45), 3) := by decide +kernel
theorem dX0_become_140 : decode cX0_become 140 = .ok (.aload_n 0, 1) := by decide +kernel
theorem dX0_become_141 : decode cX0_become 141 = .ok (.getfield 34, 3) := by decide +kernel
theorem dX0_become_144 : decode cX0_become 144 = .ok (.aload_n 1, 1) := by decide +kernel
theorem dX0_become_145 : decode cX0_become 145 = .ok (.getfield 34, 3) := by decide +kernel
theorem dX0_become_148 : decode cX0_become 148 = .ok (.invokevirtual 88, 3) := by decide +kernel
theorem dX0_become_151 : decode cX0_become 151 = .ok (.aload_n 0, 1) := by decide +kernel
theorem dX0_become_152 : decode cX0_become 152 = .ok (.getfield 41, 3) := by decide +kernel
theorem dX0_become_155 : decode cX0_become 155 = .ok (.aload_n 1, 1) := by decide +kernel
theorem dX0_become_156 : decode cX0_become 156 = .ok (.getfield 41, 3) := by decide +kernel
theorem dX0_become_159 : decode cX0_become 159 = .ok (.invokevirtual 92, 3) := by decide +kernel
theorem dX0_become_162 : decode cX0_become 162 = .ok (.aload_n 0, 1) := by decide +kernel
theorem dX0_become_163 : decode cX0_become 163 = .ok (.getfield 48, 3) := by decide +kernel
theorem dX0_become_166 : decode cX0_become 166 = .ok (.aload_n 1, 1) := by decide +kernel
theorem dX0_become_167 : decode cX0_become 167 = .ok (.getfield 48, 3) := by decide +kernel
theorem dX0_become_170 : decode cX0_become 170 = .ok (.invokevirtual 95, 3) := by decide +kernel
theorem dX0_become_173 : decode cX0_become 173 = .ok (.return_, 1) := by decide +kernel
theorem dX0_hasMass_0 : decode cX0_hasMass 0 = .ok (.iload_n 1, 1) := by decide +kernel
theorem dX0_hasMass_1 : decode cX0_hasMass 1 = .ok (.ifCond .lt 21, 3) := by decide +kernel
theorem dX0_hasMass_4 : decode cX0_hasMass 4 = .ok (.iload_n 1, 1) := by decide +kernel
theorem dX0_hasMass_5 : decode cX0_hasMass 5 = .ok (.aload_n 0, 1) := by decide +kernel
theorem dX0_hasMass_6 : decode cX0_hasMass 6 = .ok (.getfield 65, 3) := by decide +kernel
theorem dX0_hasMass_9 : decode cX0_hasMass 9 = .ok (.if_icmp .ge 13, 3) := by decide +kernel
theorem dX0_hasMass_12 : decode cX0_hasMass 12 = .ok (.iload_n 1, 1) := by decide +kernel
theorem dX0_hasMass_13 : decode cX0_hasMass 13 = .ok (.bipush 12, 2) := by decide +kernel
theorem dX0_hasMass_15 : decode cX0_hasMass 15 = .ok (.if_icmp .ge 7, 3) := by decide +kernel
theorem dX0_hasMass_18 : decode cX0_hasMass 18 = .ok (.iconst 1, 1) := by decide +kernel
theorem dX0_hasMass_19 : decode cX0_hasMass 19 = .ok (.goto 4, 3) := by decide +kernel
theorem dX0_hasMass_22 : decode cX0_hasMass 22 = .ok (.iconst 0, 1) := by decide +kernel
theorem dX0_hasMass_23 : decode cX0_hasMass 23 = .ok (.ireturn, 1) := by decide +kernel
theorem dX0_hasSpring_0 : decode cX0_hasSpring 0 = .ok (.iload_n 1, 1) := by decide +kernel
theorem dX0_hasSpring_1 : decode cX0_hasSpring 1 = .ok (.ifCond .lt 21, 3) := by decide +kernel
theorem dX0_hasSpring_4 : decode cX0_hasSpring 4 = .ok (.iload_n 1, 1) := by decide +kernel
theorem dX0_hasSpring_5 : decode cX0_hasSpring 5 = .ok (.aload_n 0, 1) := by decide +kernel
theorem dX0_hasSpring_6 : decode cX0_hasSpring 6 = .ok (.getfield 65, 3) := by decide +kernel
theorem dX0_hasSpring_9 : decode cX0_hasSpring 9 = .ok (.if_icmp .gt 13, 3) := by decide +kernel
theorem dX0_hasSpring_12 : decode cX0_hasSpring 12 = .ok (.iload_n 1, 1) := by decide +kernel
theorem dX0_hasSpring_13 : decode cX0_hasSpring 13 = .ok (.bipush 13, 2) := by decide +kernel
theorem dX0_hasSpring_15 : decode cX0_hasSpring 15 = .ok (.if_icmp .ge 7, 3) := by decide +kernel
theorem dX0_hasSpring_18 : decode cX0_hasSpring 18 = .ok (.iconst 1, 1) := by decide +kernel
theorem dX0_hasSpring_19 : decode cX0_hasSpring 19 = .ok (.goto 4, 3) := by decide +kernel
theorem dX0_hasSpring_22 : decode cX0_hasSpring 22 = .ok (.iconst 0, 1) := by decide +kernel
theorem dX0_hasSpring_23 : decode cX0_hasSpring 23 = .ok (.ireturn, 1) := by decide +kernel
theorem dX0_weightOf_0 : decode cX0_weightOf 0 = .ok (.aload_n 0, 1) := by decide +kernel
theorem dX0_weightOf_1 : decode cX0_weightOf 1 = .ok (.iload_n 1, 1) := by decide +kernel
theorem dX0_weightOf_2 : decode cX0_weightOf 2 = .ok (.invokevirtual 98, 3) := by decide +kernel
theorem dX0_weightOf_5 : decode cX0_weightOf 5 = .ok (.ifCond .eq 12, 3) := by decide +kernel
theorem dX0_weightOf_8 : decode cX0_weightOf 8 = .ok (.aload_n 0, 1) := by decide +kernel
theorem dX0_weightOf_9 : decode cX0_weightOf 9 = .ok (.getfield 9, 3) := by decide +kernel
theorem dX0_weightOf_12 : decode cX0_weightOf 12 = .ok (.iload_n 1, 1) := by decide +kernel
theorem dX0_weightOf_13 : decode cX0_weightOf 13 = .ok (.iaload, 1) := by decide +kernel
theorem dX0_weightOf_14 : decode cX0_weightOf 14 = .ok (.goto 4, 3) := by decide +kernel
theorem dX0_weightOf_17 : decode cX0_weightOf 17 = .ok (.iconst 0, 1) := by decide +kernel
theorem dX0_weightOf_18 : decode cX0_weightOf 18 = .ok (.ireturn, 1) := by decide +kernel
theorem dX0_displacementOf_0 : decode cX0_displacementOf 0 = .ok (.aload_n 0, 1) := by decide +kernel
theorem dX0_displacementOf_1 : decode cX0_displacementOf 1 = .ok (.iload_n 1, 1) := by decide +kernel
theorem dX0_displacementOf_2 : decode cX0_displacementOf 2 = .ok (.invokevirtual 98, 3) := by decide +kernel
theorem dX0_displacementOf_5 : decode cX0_displacementOf 5 = .ok (.ifCond .eq 12, 3) := by decide +kernel
theorem dX0_displacementOf_8 : decode cX0_displacementOf 8 = .ok (.aload_n 0, 1) := by decide +kernel
theorem dX0_displacementOf_9 : decode cX0_displacementOf 9 = .ok (.getfield 15, 3) := by decide +kernel
theorem dX0_displacementOf_12 : decode cX0_displacementOf 12 = .ok (.iload_n 1, 1) := by decide +kernel
theorem dX0_displacementOf_13 : decode cX0_displacementOf 13 = .ok (.iaload, 1) := by decide +kernel
theorem dX0_displacementOf_14 : decode cX0_displacementOf 14 = .ok (.goto 4, 3) := by decide +kernel
theorem dX0_displacementOf_17 : decode cX0_displacementOf 17 = .ok (.iconst 0, 1) := by decide +kernel
theorem dX0_displacementOf_18 : decode cX0_displacementOf 18 = .ok (.ireturn, 1) := by decide +kernel
theorem dX0_momentumOf_0 : decode cX0_momentumOf 0 = .ok (.aload_n 0, 1) := by decide +kernel
theorem dX0_momentumOf_1 : decode cX0_momentumOf 1 = .ok (.iload_n 1, 1) := by decide +kernel
theorem dX0_momentumOf_2 : decode cX0_momentumOf 2 = .ok (.invokevirtual 98, 3) := by decide +kernel
theorem dX0_momentumOf_5 : decode cX0_momentumOf 5 = .ok (.ifCond .eq 12, 3) := by decide +kernel
theorem dX0_momentumOf_8 : decode cX0_momentumOf 8 = .ok (.aload_n 0, 1) := by decide +kernel
theorem dX0_momentumOf_9 : decode cX0_momentumOf 9 = .ok (.getfield 18, 3) := by decide +kernel
theorem dX0_momentumOf_12 : decode cX0_momentumOf 12 = .ok (.iload_n 1, 1) := by decide +kernel
theorem dX0_momentumOf_13 : decode cX0_momentumOf 13 = .ok (.iaload, 1) := by decide +kernel
theorem dX0_momentumOf_14 : decode cX0_momentumOf 14 = .ok (.goto 4, 3) := by decide +kernel
theorem dX0_momentumOf_17 : decode cX0_momentumOf 17 = .ok (.iconst 0, 1) := by decide +kernel
theorem dX0_momentumOf_18 : decode cX0_momentumOf 18 = .ok (.ireturn, 1) := by decide +kernel
theorem dX0_velocityOf_0 : decode cX0_velocityOf 0 = .ok (.aload_n 0, 1) := by decide +kernel
theorem dX0_velocityOf_1 : decode cX0_velocityOf 1 = .ok (.iload_n 1, 1) := by decide +kernel
theorem dX0_velocityOf_2 : decode cX0_velocityOf 2 = .ok (.invokevirtual 102, 3) := by decide +kernel
theorem dX0_velocityOf_5 : decode cX0_velocityOf 5 = .ok (.istore_n 2, 1) := by decide +kernel
theorem dX0_velocityOf_6 : decode cX0_velocityOf 6 = .ok (.iload_n 2, 1) := by decide +kernel
theorem dX0_velocityOf_7 : decode cX0_velocityOf 7 = .ok (.ifCond .ne 7, 3) := by decide +kernel
theorem dX0_velocityOf_10 : decode cX0_velocityOf 10 = .ok (.iconst 0, 1) := by decide +kernel
theorem dX0_velocityOf_11 : decode cX0_velocityOf 11 = .ok (.goto 10, 3) := by decide +kernel
theorem dX0_velocityOf_14 : decode cX0_velocityOf 14 = .ok (.aload_n 0, 1) := by decide +kernel
theorem dX0_velocityOf_15 : decode cX0_velocityOf 15 = .ok (.iload_n 1, 1) := by decide +kernel
theorem dX0_velocityOf_16 : decode cX0_velocityOf 16 = .ok (.invokevirtual 106, 3) := by decide +kernel
theorem dX0_velocityOf_19 : decode cX0_velocityOf 19 = .ok (.iload_n 2, 1) := by decide +kernel
theorem dX0_velocityOf_20 : decode cX0_velocityOf 20 = .ok (.idiv, 1) := by decide +kernel
theorem dX0_velocityOf_21 : decode cX0_velocityOf 21 = .ok (.ireturn, 1) := by decide +kernel
theorem dX0_stiffnessOf_0 : decode cX0_stiffnessOf 0 = .ok (.aload_n 0, 1) := by decide +kernel
theorem dX0_stiffnessOf_1 : decode cX0_stiffnessOf 1 = .ok (.iload_n 1, 1) := by decide +kernel
theorem dX0_stiffnessOf_2 : decode cX0_stiffnessOf 2 = .ok (.invokevirtual 109, 3) := by decide +kernel
theorem dX0_stiffnessOf_5 : decode cX0_stiffnessOf 5 = .ok (.ifCond .eq 12, 3) := by decide +kernel
theorem dX0_stiffnessOf_8 : decode cX0_stiffnessOf 8 = .ok (.aload_n 0, 1) := by decide +kernel
theorem dX0_stiffnessOf_9 : decode cX0_stiffnessOf 9 = .ok (.getfield 21, 3) := by decide +kernel
theorem dX0_stiffnessOf_12 : decode cX0_stiffnessOf 12 = .ok (.iload_n 1, 1) := by decide +kernel
theorem dX0_stiffnessOf_13 : decode cX0_stiffnessOf 13 = .ok (.iaload, 1) := by decide +kernel
theorem dX0_stiffnessOf_14 : decode cX0_stiffnessOf 14 = .ok (.goto 4, 3) := by decide +kernel
theorem dX0_stiffnessOf_17 : decode cX0_stiffnessOf 17 = .ok (.iconst 0, 1) := by decide +kernel
theorem dX0_stiffnessOf_18 : decode cX0_stiffnessOf 18 = .ok (.ireturn, 1) := by decide +kernel
theorem dX0_limitOf_0 : decode cX0_limitOf 0 = .ok (.aload_n 0, 1) := by decide +kernel
theorem dX0_limitOf_1 : decode cX0_limitOf 1 = .ok (.iload_n 1, 1) := by decide +kernel
theorem dX0_limitOf_2 : decode cX0_limitOf 2 = .ok (.invokevirtual 109, 3) := by decide +kernel
theorem dX0_limitOf_5 : decode cX0_limitOf 5 = .ok (.ifCond .eq 12, 3) := by decide +kernel
theorem dX0_limitOf_8 : decode cX0_limitOf 8 = .ok (.aload_n 0, 1) := by decide +kernel
theorem dX0_limitOf_9 : decode cX0_limitOf 9 = .ok (.getfield 24, 3) := by decide +kernel
theorem dX0_limitOf_12 : decode cX0_limitOf 12 = .ok (.iload_n 1, 1) := by decide +kernel
theorem dX0_limitOf_13 : decode cX0_limitOf 13 = .ok (.iaload, 1) := by decide +kernel
theorem dX0_limitOf_14 : decode cX0_limitOf 14 = .ok (.goto 4, 3) := by decide +kernel
theorem dX0_limitOf_17 : decode cX0_limitOf 17 = .ok (.iconst 0, 1) := by decide +kernel
theorem dX0_limitOf_18 : decode cX0_limitOf 18 = .ok (.ireturn, 1) := by decide +kernel
theorem dX0_isBroken_0 : decode cX0_isBroken 0 = .ok (.aload_n 0, 1) := by decide +kernel
theorem dX0_isBroken_1 : decode cX0_isBroken 1 = .ok (.iload_n 1, 1) := by decide +kernel
theorem dX0_isBroken_2 : decode cX0_isBroken 2 = .ok (.invokevirtual 109, 3) := by decide +kernel
theorem dX0_isBroken_5 : decode cX0_isBroken 5 = .ok (.ifCond .eq 16, 3) := by decide +kernel
theorem dX0_isBroken_8 : decode cX0_isBroken 8 = .ok (.aload_n 0, 1) := by decide +kernel
theorem dX0_isBroken_9 : decode cX0_isBroken 9 = .ok (.getfield 27, 3) := by decide +kernel
theorem dX0_isBroken_12 : decode cX0_isBroken 12 = .ok (.iload_n 1, 1) := by decide +kernel
theorem dX0_isBroken_13 : decode cX0_isBroken 13 = .ok (.baload, 1) := by decide +kernel
theorem dX0_isBroken_14 : decode cX0_isBroken 14 = .ok (.ifCond .eq 7, 3) := by decide +kernel
theorem dX0_isBroken_17 : decode cX0_isBroken 17 = .ok (.iconst 1, 1) := by decide +kernel
theorem dX0_isBroken_18 : decode cX0_isBroken 18 = .ok (.goto 4, 3) := by decide +kernel
theorem dX0_isBroken_21 : decode cX0_isBroken 21 = .ok (.iconst 0, 1) := by decide +kernel
theorem dX0_isBroken_22 : decode cX0_isBroken 22 = .ok (.ireturn, 1) := by decide +kernel
theorem dX0_stretchOf_0 : decode cX0_stretchOf 0 = .ok (.iload_n 1, 1) := by decide +kernel
theorem dX0_stretchOf_1 : decode cX0_stretchOf 1 = .ok (.ifCond .gt 10, 3) := by decide +kernel
theorem dX0_stretchOf_4 : decode cX0_stretchOf 4 = .ok (.aload_n 0, 1) := by decide +kernel
theorem dX0_stretchOf_5 : decode cX0_stretchOf 5 = .ok (.getfield 75, 3) := by decide +kernel
theorem dX0_stretchOf_8 : decode cX0_stretchOf 8 = .ok (.goto 10, 3) := by decide +kernel
theorem dX0_stretchOf_11 : decode cX0_stretchOf 11 = .ok (.aload_n 0, 1) := by decide +kernel
theorem dX0_stretchOf_12 : decode cX0_stretchOf 12 = .ok (.iload_n 1, 1) := by decide +kernel
theorem dX0_stretchOf_13 : decode cX0_stretchOf 13 = .ok (.iconst 1, 1) := by decide +kernel
theorem dX0_stretchOf_14 : decode cX0_stretchOf 14 = .ok (.isub, 1) := by decide +kernel
theorem dX0_stretchOf_15 : decode cX0_stretchOf 15 = .ok (.invokevirtual 112, 3) := by decide +kernel
theorem dX0_stretchOf_18 : decode cX0_stretchOf 18 = .ok (.istore_n 2, 1) := by decide +kernel
theorem dX0_stretchOf_19 : decode cX0_stretchOf 19 = .ok (.iload_n 1, 1) := by decide +kernel
theorem dX0_stretchOf_20 : decode cX0_stretchOf 20 = .ok (.aload_n 0, 1) := by decide +kernel
theorem dX0_stretchOf_21 : decode cX0_stretchOf 21 = .ok (.getfield 65, 3) := by decide +kernel
theorem dX0_stretchOf_24 : decode cX0_stretchOf 24 = .ok (.if_icmp .lt 10, 3) := by decide +kernel
theorem dX0_stretchOf_27 : decode cX0_stretchOf 27 = .ok (.aload_n 0, 1) := by decide +kernel
theorem dX0_stretchOf_28 : decode cX0_stretchOf 28 = .ok (.getfield 78, 3) := by decide +kernel
theorem dX0_stretchOf_31 : decode cX0_stretchOf 31 = .ok (.goto 8, 3) := by decide +kernel
theorem dX0_stretchOf_34 : decode cX0_stretchOf 34 = .ok (.aload_n 0, 1) := by decide +kernel
theorem dX0_stretchOf_35 : decode cX0_stretchOf 35 = .ok (.iload_n 1, 1) := by decide +kernel
theorem dX0_stretchOf_36 : decode cX0_stretchOf 36 = .ok (.invokevirtual 112, 3) := by decide +kernel
theorem dX0_stretchOf_39 : decode cX0_stretchOf 39 = .ok (.istore_n 3, 1) := by decide +kernel
theorem dX0_stretchOf_40 : decode cX0_stretchOf 40 = .ok (.iload_n 3, 1) := by decide +kernel
theorem dX0_stretchOf_41 : decode cX0_stretchOf 41 = .ok (.iload_n 2, 1) := by decide +kernel
theorem dX0_stretchOf_42 : decode cX0_stretchOf 42 = .ok (.isub, 1) := by decide +kernel
theorem dX0_stretchOf_43 : decode cX0_stretchOf 43 = .ok (.ireturn, 1) := by decide +kernel
theorem dX0_pullOf_0 : decode cX0_pullOf 0 = .ok (.aload_n 0, 1) := by decide +kernel
theorem dX0_pullOf_1 : decode cX0_pullOf 1 = .ok (.iload_n 1, 1) := by decide +kernel
theorem dX0_pullOf_2 : decode cX0_pullOf 2 = .ok (.invokevirtual 115, 3) := by decide +kernel
theorem dX0_pullOf_5 : decode cX0_pullOf 5 = .ok (.ifCond .eq 7, 3) := by decide +kernel
theorem dX0_pullOf_8 : decode cX0_pullOf 8 = .ok (.iconst 0, 1) := by decide +kernel
theorem dX0_pullOf_9 : decode cX0_pullOf 9 = .ok (.goto 21, 3) := by decide +kernel
theorem dX0_pullOf_12 : decode cX0_pullOf 12 = .ok (.aload_n 0, 1) := by decide +kernel
theorem dX0_pullOf_13 : decode cX0_pullOf 13 = .ok (.iload_n 1, 1) := by decide +kernel
theorem dX0_pullOf_14 : decode cX0_pullOf 14 = .ok (.invokevirtual 118, 3) := by decide +kernel
theorem dX0_pullOf_17 : decode cX0_pullOf 17 = .ok (.i2l, 1) := by decide +kernel
theorem dX0_pullOf_18 : decode cX0_pullOf 18 = .ok (.aload_n 0, 1) := by decide +kernel
theorem dX0_pullOf_19 : decode cX0_pullOf 19 = .ok (.iload_n 1, 1) := by decide +kernel
theorem dX0_pullOf_20 : decode cX0_pullOf 20 = .ok (.invokevirtual 121, 3) := by decide +kernel
theorem dX0_pullOf_23 : decode cX0_pullOf 23 = .ok (.i2l, 1) := by decide +kernel
theorem dX0_pullOf_24 : decode cX0_pullOf 24 = .ok (.lmul, 1) := by decide +kernel
theorem dX0_pullOf_25 : decode cX0_pullOf 25 = .ok (.ldc2_w 124, 3) := by decide +kernel
theorem dX0_pullOf_28 : decode cX0_pullOf 28 = .ok (.ldiv, 1) := by decide +kernel
theorem dX0_pullOf_29 : decode cX0_pullOf 29 = .ok (.l2i, 1) := by decide +kernel
theorem dX0_pullOf_30 : decode cX0_pullOf 30 = .ok (.ireturn, 1) := by decide +kernel
theorem dX0_energyOfMass_0 : decode cX0_energyOfMass 0 = .ok (.aload_n 0, 1) := by decide +kernel
theorem dX0_energyOfMass_1 : decode cX0_energyOfMass 1 = .ok (.iload_n 1, 1) := by decide +kernel
theorem dX0_energyOfMass_2 : decode cX0_energyOfMass 2 = .ok (.invokevirtual 102, 3) := by decide +kernel
theorem dX0_energyOfMass_5 : decode cX0_energyOfMass 5 = .ok (.i2l, 1) := by decide +kernel
theorem dX0_energyOfMass_6 : decode cX0_energyOfMass 6 = .ok (.lstore_n 2, 1) := by decide +kernel
theorem dX0_energyOfMass_7 : decode cX0_energyOfMass 7 = .ok (.aload_n 0, 1) := by decide +kernel
theorem dX0_energyOfMass_8 : decode cX0_energyOfMass 8 = .ok (.iload_n 1, 1) := by decide +kernel
theorem dX0_energyOfMass_9 : decode cX0_energyOfMass 9 = .ok (.invokevirtual 106, 3) := by decide +kernel
theorem dX0_energyOfMass_12 : decode cX0_energyOfMass 12 = .ok (.i2l, 1) := by decide +kernel
theorem dX0_energyOfMass_13 : decode cX0_energyOfMass 13 = .ok (.lstore 4, 2) := by decide +kernel
theorem dX0_energyOfMass_15 : decode cX0_energyOfMass 15 = .ok (.lload_n 2, 1) := by decide +kernel
theorem dX0_energyOfMass_16 : decode cX0_energyOfMass 16 = .ok (.lconst 0, 1) := by decide +kernel
theorem dX0_energyOfMass_17 : decode cX0_energyOfMass 17 = .ok (.lcmp, 1) := by decide +kernel
theorem dX0_energyOfMass_18 : decode cX0_energyOfMass 18 = .ok (.ifCond .ne 7, 3) := by decide +kernel
theorem dX0_energyOfMass_21 : decode cX0_energyOfMass 21 = .ok (.lconst 0, 1) := by decide +kernel
theorem dX0_energyOfMass_22 : decode cX0_energyOfMass 22 = .ok (.goto 14, 3) := by decide +kernel
theorem dX0_energyOfMass_25 : decode cX0_energyOfMass 25 = .ok (.lload 4, 2) := by decide +kernel
theorem dX0_energyOfMass_27 : decode cX0_energyOfMass 27 = .ok (.lload 4, 2) := by decide +kernel
theorem dX0_energyOfMass_29 : decode cX0_energyOfMass 29 = .ok (.lmul, 1) := by decide +kernel
theorem dX0_energyOfMass_30 : decode cX0_energyOfMass 30 = .ok (.ldc2_w 126, 3) := by decide +kernel
theorem dX0_energyOfMass_33 : decode cX0_energyOfMass 33 = .ok (.lload_n 2, 1) := by decide +kernel
theorem dX0_energyOfMass_34 : decode cX0_energyOfMass 34 = .ok (.lmul, 1) := by decide +kernel
theorem dX0_energyOfMass_35 : decode cX0_energyOfMass 35 = .ok (.ldiv, 1) := by decide +kernel
theorem dX0_energyOfMass_36 : decode cX0_energyOfMass 36 = .ok (.lreturn, 1) := by decide +kernel
theorem dX0_energyOfSpring_0 : decode cX0_energyOfSpring 0 = .ok (.aload_n 0, 1) := by decide +kernel
theorem dX0_energyOfSpring_1 : decode cX0_energyOfSpring 1 = .ok (.iload_n 1, 1) := by decide +kernel
theorem dX0_energyOfSpring_2 : decode cX0_energyOfSpring 2 = .ok (.invokevirtual 121, 3) := by decide +kernel
theorem dX0_energyOfSpring_5 : decode cX0_energyOfSpring 5 = .ok (.i2l, 1) := by decide +kernel
theorem dX0_energyOfSpring_6 : decode cX0_energyOfSpring 6 = .ok (.lstore_n 2, 1) := by decide +kernel
theorem dX0_energyOfSpring_7 : decode cX0_energyOfSpring 7 = .ok (.aload_n 0, 1) := by decide +kernel
theorem dX0_energyOfSpring_8 : decode cX0_energyOfSpring 8 = .ok (.iload_n 1, 1) := by decide +kernel
theorem dX0_energyOfSpring_9 : decode cX0_energyOfSpring 9 = .ok (.invokevirtual 115, 3) := by decide +kernel
theorem dX0_energyOfSpring_12 : decode cX0_energyOfSpring 12 = .ok (.ifCond .eq 7, 3) := by decide +kernel
theorem dX0_energyOfSpring_15 : decode cX0_energyOfSpring 15 = .ok (.lconst 0, 1) := by decide +kernel
theorem dX0_energyOfSpring_16 : decode cX0_energyOfSpring 16 = .ok (.goto 17, 3) := by decide +kernel
theorem dX0_energyOfSpring_19 : decode cX0_energyOfSpring 19 = .ok (.aload_n 0, 1) := by decide +kernel
theorem dX0_energyOfSpring_20 : decode cX0_energyOfSpring 20 = .ok (.iload_n 1, 1) := by decide +kernel
theorem dX0_energyOfSpring_21 : decode cX0_energyOfSpring 21 = .ok (.invokevirtual 118, 3) := by decide +kernel
theorem dX0_energyOfSpring_24 : decode cX0_energyOfSpring 24 = .ok (.i2l, 1) := by decide +kernel
theorem dX0_energyOfSpring_25 : decode cX0_energyOfSpring 25 = .ok (.lload_n 2, 1) := by decide +kernel
theorem dX0_energyOfSpring_26 : decode cX0_energyOfSpring 26 = .ok (.lmul, 1) := by decide +kernel
theorem dX0_energyOfSpring_27 : decode cX0_energyOfSpring 27 = .ok (.lload_n 2, 1) := by decide +kernel
theorem dX0_energyOfSpring_28 : decode cX0_energyOfSpring 28 = .ok (.lmul, 1) := by decide +kernel
theorem dX0_energyOfSpring_29 : decode cX0_energyOfSpring 29 = .ok (.ldc2_w 128, 3) := by decide +kernel
theorem dX0_energyOfSpring_32 : decode cX0_energyOfSpring 32 = .ok (.ldiv, 1) := by decide +kernel
theorem dX0_energyOfSpring_33 : decode cX0_energyOfSpring 33 = .ok (.lreturn, 1) := by decide +kernel
theorem dX0_setWeight_0 : decode cX0_setWeight 0 = .ok (.aload_n 0, 1) := by decide +kernel
theorem dX0_setWeight_1 : decode cX0_setWeight 1 = .ok (.iload_n 1, 1) := by decide +kernel
theorem dX0_setWeight_2 : decode cX0_setWeight 2 = .ok (.invokevirtual 98, 3) := by decide +kernel
theorem dX0_setWeight_5 : decode cX0_setWeight 5 = .ok (.ifCond .eq 10, 3) := by decide +kernel
theorem dX0_setWeight_8 : decode cX0_setWeight 8 = .ok (.aload_n 0, 1) := by decide +kernel
theorem dX0_setWeight_9 : decode cX0_setWeight 9 = .ok (.getfield 9, 3) := by decide +kernel
theorem dX0_setWeight_12 : decode cX0_setWeight 12 = .ok (.iload_n 1, 1) := by decide +kernel
theorem dX0_setWeight_13 : decode cX0_setWeight 13 = .ok (.iload_n 2, 1) := by decide +kernel
theorem dX0_setWeight_14 : decode cX0_setWeight 14 = .ok (.iastore, 1) := by decide +kernel
theorem dX0_setWeight_15 : decode cX0_setWeight 15 = .ok (.return_, 1) := by decide +kernel
theorem dX0_setAllWeights_0 : decode cX0_setAllWeights 0 = .ok (.iconst 0, 1) := by decide +kernel
theorem dX0_setAllWeights_1 : decode cX0_setAllWeights 1 = .ok (.istore_n 2, 1) := by decide +kernel
theorem dX0_setAllWeights_2 : decode cX0_setAllWeights 2 = .ok (.iload_n 2, 1) := by decide +kernel
theorem dX0_setAllWeights_3 : decode cX0_setAllWeights 3 = .ok (.bipush 12, 2) := by decide +kernel
theorem dX0_setAllWeights_5 : decode cX0_setAllWeights 5 = .ok (.if_icmp .ge 16, 3) := by decide +kernel
theorem dX0_setAllWeights_8 : decode cX0_setAllWeights 8 = .ok (.aload_n 0, 1) := by decide +kernel
theorem dX0_setAllWeights_9 : decode cX0_setAllWeights 9 = .ok (.getfield 9, 3) := by decide +kernel
theorem dX0_setAllWeights_12 : decode cX0_setAllWeights 12 = .ok (.iload_n 2, 1) := by decide +kernel
theorem dX0_setAllWeights_13 : decode cX0_setAllWeights 13 = .ok (.iload_n 1, 1) := by decide +kernel
theorem dX0_setAllWeights_14 : decode cX0_setAllWeights 14 = .ok (.iastore, 1) := by decide +kernel
theorem dX0_setAllWeights_15 : decode cX0_setAllWeights 15 = .ok (.iinc 2 1, 3) := by decide +kernel
theorem dX0_setAllWeights_18 : decode cX0_setAllWeights 18 = .ok (.goto (-16), 3) := by decide +kernel
theorem dX0_setAllWeights_21 : decode cX0_setAllWeights 21 = .ok (.return_, 1) := by decide +kernel
theorem dX0_setStiffness_0 : decode cX0_setStiffness 0 = .ok (.aload_n 0, 1) := by decide +kernel
theorem dX0_setStiffness_1 : decode cX0_setStiffness 1 = .ok (.iload_n 1, 1) := by decide +kernel
theorem dX0_setStiffness_2 : decode cX0_setStiffness 2 = .ok (.invokevirtual 109, 3) := by decide +kernel
theorem dX0_setStiffness_5 : decode cX0_setStiffness 5 = .ok (.ifCond .eq 10, 3) := by decide +kernel
theorem dX0_setStiffness_8 : decode cX0_setStiffness 8 = .ok (.aload_n 0, 1) := by decide +kernel
theorem dX0_setStiffness_9 : decode cX0_setStiffness 9 = .ok (.getfield 21, 3) := by decide +kernel
theorem dX0_setStiffness_12 : decode cX0_setStiffness 12 = .ok (.iload_n 1, 1) := by decide +kernel
theorem dX0_setStiffness_13 : decode cX0_setStiffness 13 = .ok (.iload_n 2, 1) := by decide +kernel
theorem dX0_setStiffness_14 : decode cX0_setStiffness 14 = .ok (.iastore, 1) := by decide +kernel
theorem dX0_setStiffness_15 : decode cX0_setStiffness 15 = .ok (.return_, 1) := by decide +kernel
theorem dX0_setAllStiffnesses_0 : decode cX0_setAllStiffnesses 0 = .ok (.iconst 0, 1) := by decide +kernel
theorem dX0_setAllStiffnesses_1 : decode cX0_setAllStiffnesses 1 = .ok (.istore_n 2, 1) := by decide +kernel
theorem dX0_setAllStiffnesses_2 : decode cX0_setAllStiffnesses 2 = .ok (.iload_n 2, 1) := by decide +kernel
theorem dX0_setAllStiffnesses_3 : decode cX0_setAllStiffnesses 3 = .ok (.bipush 13, 2) := by decide +kernel
theorem dX0_setAllStiffnesses_5 : decode cX0_setAllStiffnesses 5 = .ok (.if_icmp .ge 16, 3) := by decide +kernel
theorem dX0_setAllStiffnesses_8 : decode cX0_setAllStiffnesses 8 = .ok (.aload_n 0, 1) := by decide +kernel
theorem dX0_setAllStiffnesses_9 : decode cX0_setAllStiffnesses 9 = .ok (.getfield 21, 3) := by decide +kernel
theorem dX0_setAllStiffnesses_12 : decode cX0_setAllStiffnesses 12 = .ok (.iload_n 2, 1) := by decide +kernel
theorem dX0_setAllStiffnesses_13 : decode cX0_setAllStiffnesses 13 = .ok (.iload_n 1, 1) := by decide +kernel
theorem dX0_setAllStiffnesses_14 : decode cX0_setAllStiffnesses 14 = .ok (.iastore, 1) := by decide +kernel
theorem dX0_setAllStiffnesses_15 : decode cX0_setAllStiffnesses 15 = .ok (.iinc 2 1, 3) := by decide +kernel
theorem dX0_setAllStiffnesses_18 : decode cX0_setAllStiffnesses 18 = .ok (.goto (-16), 3) := by decide +kernel
theorem dX0_setAllStiffnesses_21 : decode cX0_setAllStiffnesses 21 = .ok (.return_, 1) := by decide +kernel
theorem dX0_setLimit_0 : decode cX0_setLimit 0 = .ok (.aload_n 0, 1) := by decide +kernel
theorem dX0_setLimit_1 : decode cX0_setLimit 1 = .ok (.iload_n 1, 1) := by decide +kernel
theorem dX0_setLimit_2 : decode cX0_setLimit 2 = .ok (.invokevirtual 109, 3) := by decide +kernel
theorem dX0_setLimit_5 : decode cX0_setLimit 5 = .ok (.ifCond .eq 10, 3) := by decide +kernel
theorem dX0_setLimit_8 : decode cX0_setLimit 8 = .ok (.aload_n 0, 1) := by decide +kernel
theorem dX0_setLimit_9 : decode cX0_setLimit 9 = .ok (.getfield 24, 3) := by decide +kernel
theorem dX0_setLimit_12 : decode cX0_setLimit 12 = .ok (.iload_n 1, 1) := by decide +kernel
theorem dX0_setLimit_13 : decode cX0_setLimit 13 = .ok (.iload_n 2, 1) := by decide +kernel
theorem dX0_setLimit_14 : decode cX0_setLimit 14 = .ok (.iastore, 1) := by decide +kernel
theorem dX0_setLimit_15 : decode cX0_setLimit 15 = .ok (.return_, 1) := by decide +kernel
theorem dX0_setBroken_0 : decode cX0_setBroken 0 = .ok (.aload_n 0, 1) := by decide +kernel
theorem dX0_setBroken_1 : decode cX0_setBroken 1 = .ok (.iload_n 1, 1) := by decide +kernel
theorem dX0_setBroken_2 : decode cX0_setBroken 2 = .ok (.invokevirtual 109, 3) := by decide +kernel
theorem dX0_setBroken_5 : decode cX0_setBroken 5 = .ok (.ifCond .eq 10, 3) := by decide +kernel
theorem dX0_setBroken_8 : decode cX0_setBroken 8 = .ok (.aload_n 0, 1) := by decide +kernel
theorem dX0_setBroken_9 : decode cX0_setBroken 9 = .ok (.getfield 27, 3) := by decide +kernel
theorem dX0_setBroken_12 : decode cX0_setBroken 12 = .ok (.iload_n 1, 1) := by decide +kernel
theorem dX0_setBroken_13 : decode cX0_setBroken 13 = .ok (.iload_n 2, 1) := by decide +kernel
theorem dX0_setBroken_14 : decode cX0_setBroken 14 = .ok (.bastore, 1) := by decide +kernel
theorem dX0_setBroken_15 : decode cX0_setBroken 15 = .ok (.return_, 1) := by decide +kernel
theorem dX0_setEnd_0 : decode cX0_setEnd 0 = .ok (.iload_n 1, 1) := by decide +kernel
theorem dX0_setEnd_1 : decode cX0_setEnd 1 = .ok (.ifCond .eq 11, 3) := by decide +kernel
theorem dX0_setEnd_4 : decode cX0_setEnd 4 = .ok (.aload_n 0, 1) := by decide +kernel
theorem dX0_setEnd_5 : decode cX0_setEnd 5 = .ok (.iload_n 2, 1) := by decide +kernel
theorem dX0_setEnd_6 : decode cX0_setEnd 6 = .ok (.putfield 78, 3) := by decide +kernel
theorem dX0_setEnd_9 : decode cX0_setEnd 9 = .ok (.goto 8, 3) := by decide +kernel
theorem dX0_setEnd_12 : decode cX0_setEnd 12 = .ok (.aload_n 0, 1) := by decide +kernel
theorem dX0_setEnd_13 : decode cX0_setEnd 13 = .ok (.iload_n 2, 1) := by decide +kernel
theorem dX0_setEnd_14 : decode cX0_setEnd 14 = .ok (.putfield 75, 3) := by decide +kernel
theorem dX0_setEnd_17 : decode cX0_setEnd 17 = .ok (.return_, 1) := by decide +kernel
theorem dX0_displace_0 : decode cX0_displace 0 = .ok (.aload_n 0, 1) := by decide +kernel
theorem dX0_displace_1 : decode cX0_displace 1 = .ok (.iload_n 1, 1) := by decide +kernel
theorem dX0_displace_2 : decode cX0_displace 2 = .ok (.invokevirtual 98, 3) := by decide +kernel
theorem dX0_displace_5 : decode cX0_displace 5 = .ok (.ifCond .eq 10, 3) := by decide +kernel
theorem dX0_displace_8 : decode cX0_displace 8 = .ok (.aload_n 0, 1) := by decide +kernel
theorem dX0_displace_9 : decode cX0_displace 9 = .ok (.getfield 15, 3) := by decide +kernel
theorem dX0_displace_12 : decode cX0_displace 12 = .ok (.iload_n 1, 1) := by decide +kernel
theorem dX0_displace_13 : decode cX0_displace 13 = .ok (.iload_n 2, 1) := by decide +kernel
theorem dX0_displace_14 : decode cX0_displace 14 = .ok (.iastore, 1) := by decide +kernel
theorem dX0_displace_15 : decode cX0_displace 15 = .ok (.return_, 1) := by decide +kernel
theorem dX0_putMomentum_0 : decode cX0_putMomentum 0 = .ok (.aload_n 0, 1) := by decide +kernel
theorem dX0_putMomentum_1 : decode cX0_putMomentum 1 = .ok (.iload_n 1, 1) := by decide +kernel
theorem dX0_putMomentum_2 : decode cX0_putMomentum 2 = .ok (.invokevirtual 98, 3) := by decide +kernel
theorem dX0_putMomentum_5 : decode cX0_putMomentum 5 = .ok (.ifCond .eq 10, 3) := by decide +kernel
theorem dX0_putMomentum_8 : decode cX0_putMomentum 8 = .ok (.aload_n 0, 1) := by decide +kernel
theorem dX0_putMomentum_9 : decode cX0_putMomentum 9 = .ok (.getfield 18, 3) := by decide +kernel
theorem dX0_putMomentum_12 : decode cX0_putMomentum 12 = .ok (.iload_n 1, 1) := by decide +kernel
theorem dX0_putMomentum_13 : decode cX0_putMomentum 13 = .ok (.iload_n 2, 1) := by decide +kernel
theorem dX0_putMomentum_14 : decode cX0_putMomentum 14 = .ok (.iastore, 1) := by decide +kernel
theorem dX0_putMomentum_15 : decode cX0_putMomentum 15 = .ok (.return_, 1) := by decide +kernel
theorem dX0_hit_0 : decode cX0_hit 0 = .ok (.aload_n 0, 1) := by decide +kernel
theorem dX0_hit_1 : decode cX0_hit 1 = .ok (.iload_n 1, 1) := by decide +kernel
theorem dX0_hit_2 : decode cX0_hit 2 = .ok (.invokevirtual 106, 3) := by decide +kernel
theorem dX0_hit_5 : decode cX0_hit 5 = .ok (.istore_n 3, 1) := by decide +kernel
theorem dX0_hit_6 : decode cX0_hit 6 = .ok (.aload_n 0, 1) := by decide +kernel
theorem dX0_hit_7 : decode cX0_hit 7 = .ok (.iload_n 1, 1) := by decide +kernel
theorem dX0_hit_8 : decode cX0_hit 8 = .ok (.iload_n 3, 1) := by decide +kernel
theorem dX0_hit_9 : decode cX0_hit 9 = .ok (.i2l, 1) := by decide +kernel
theorem dX0_hit_10 : decode cX0_hit 10 = .ok (.iload_n 2, 1) := by decide +kernel
theorem dX0_hit_11 : decode cX0_hit 11 = .ok (.i2l, 1) := by decide +kernel
theorem dX0_hit_12 : decode cX0_hit 12 = .ok (.ladd, 1) := by decide +kernel
theorem dX0_hit_13 : decode cX0_hit 13 = .ok (.ldc 130, 2) := by decide +kernel
theorem dX0_hit_15 : decode cX0_hit 15 = .ok (.invokestatic 131, 3) := by decide +kernel
theorem dX0_hit_18 : decode cX0_hit 18 = .ok (.invokevirtual 135, 3) := by decide +kernel
theorem dX0_hit_21 : decode cX0_hit 21 = .ok (.aload_n 0, 1) := by decide +kernel
theorem dX0_hit_22 : decode cX0_hit 22 = .ok (.getfield 34, 3) := by decide +kernel
theorem dX0_hit_25 : decode cX0_hit 25 = .ok (.dup, 1) := by decide +kernel
theorem dX0_hit_26 : decode cX0_hit 26 = .ok (.getfield 139, 3) := by decide +kernel
theorem dX0_hit_29 : decode cX0_hit 29 = .ok (.aload_n 0, 1) := by decide +kernel
theorem dX0_hit_30 : decode cX0_hit 30 = .ok (.iload_n 1, 1) := by decide +kernel
theorem dX0_hit_31 : decode cX0_hit 31 = .ok (.invokevirtual 106, 3) := by decide +kernel
theorem dX0_hit_34 : decode cX0_hit 34 = .ok (.iload_n 3, 1) := by decide +kernel
theorem dX0_hit_35 : decode cX0_hit 35 = .ok (.isub, 1) := by decide +kernel
theorem dX0_hit_36 : decode cX0_hit 36 = .ok (.i2l, 1) := by decide +kernel
theorem dX0_hit_37 : decode cX0_hit 37 = .ok (.ladd, 1) := by decide +kernel
theorem dX0_hit_38 : decode cX0_hit 38 = .ok (.putfield 139, 3) := by decide +kernel
theorem dX0_hit_41 : decode cX0_hit 41 = .ok (.return_, 1) := by decide +kernel
theorem dX0_tick_0 : decode cX0_tick 0 = .ok (.aload_n 0, 1) := by decide +kernel
theorem dX0_tick_1 : decode cX0_tick 1 = .ok (.invokevirtual 143, 3) := by decide +kernel
theorem dX0_tick_4 : decode cX0_tick 4 = .ok (.aload_n 0, 1) := by decide +kernel
theorem dX0_tick_5 : decode cX0_tick 5 = .ok (.invokevirtual 146, 3) := by decide +kernel
theorem dX0_tick_8 : decode cX0_tick 8 = .ok (.aload_n 0, 1) := by decide +kernel
theorem dX0_tick_9 : decode cX0_tick 9 = .ok (.invokevirtual 149, 3) := by decide +kernel
theorem dX0_tick_12 : decode cX0_tick 12 = .ok (.aload_n 0, 1) := by decide +kernel
theorem dX0_tick_13 : decode cX0_tick 13 = .ok (.invokevirtual 152, 3) := by decide +kernel
theorem dX0_tick_16 : decode cX0_tick 16 = .ok (.aload_n 0, 1) := by decide +kernel
theorem dX0_tick_17 : decode cX0_tick 17 = .ok (.invokevirtual 155, 3) := by decide +kernel
theorem dX0_tick_20 : decode cX0_tick 20 = .ok (.aload_n 0, 1) := by decide +kernel
theorem dX0_tick_21 : decode cX0_tick 21 = .ok (.invokevirtual 158, 3) := by decide +kernel
theorem dX0_tick_24 : decode cX0_tick 24 = .ok (.istore_n 1, 1) := by decide +kernel
theorem dX0_tick_25 : decode cX0_tick 25 = .ok (.aload_n 0, 1) := by decide +kernel
theorem dX0_tick_26 : decode cX0_tick 26 = .ok (.getfield 48, 3) := by decide +kernel
theorem dX0_tick_29 : decode cX0_tick 29 = .ok (.aload_n 0, 1) := by decide +kernel
theorem dX0_tick_30 : decode cX0_tick 30 = .ok (.invokevirtual 162, 3) := by decide +kernel
theorem dX0_tick_33 : decode cX0_tick 33 = .ok (.invokevirtual 165, 3) := by decide +kernel
theorem dX0_tick_36 : decode cX0_tick 36 = .ok (.aload_n 0, 1) := by decide +kernel
theorem dX0_tick_37 : decode cX0_tick 37 = .ok (.dup, 1) := by decide +kernel
theorem dX0_tick_38 : decode cX0_tick 38 = .ok (.getfield 69, 3) := by decide +kernel
theorem dX0_tick_41 : decode cX0_tick 41 = .ok (.iconst 1, 1) := by decide +kernel
theorem dX0_tick_42 : decode cX0_tick 42 = .ok (.iadd, 1) := by decide +kernel
theorem dX0_tick_43 : decode cX0_tick 43 = .ok (.putfield 69, 3) := by decide +kernel
theorem dX0_tick_46 : decode cX0_tick 46 = .ok (.iload_n 1, 1) := by decide +kernel
theorem dX0_tick_47 : decode cX0_tick 47 = .ok (.ireturn, 1) := by decide +kernel
theorem dX0_takePulls_0 : decode cX0_takePulls 0 = .ok (.iconst 0, 1) := by decide +kernel
theorem dX0_takePulls_1 : decode cX0_takePulls 1 = .ok (.istore_n 1, 1) := by decide +kernel
theorem dX0_takePulls_2 : decode cX0_takePulls 2 = .ok (.iload_n 1, 1) := by decide +kernel
theorem dX0_takePulls_3 : decode cX0_takePulls 3 = .ok (.aload_n 0, 1) := by decide +kernel
theorem dX0_takePulls_4 : decode cX0_takePulls 4 = .ok (.getfield 65, 3) := by decide +kernel
theorem dX0_takePulls_7 : decode cX0_takePulls 7 = .ok (.if_icmp .ge 33, 3) := by decide +kernel
theorem dX0_takePulls_10 : decode cX0_takePulls 10 = .ok (.aload_n 0, 1) := by decide +kernel
theorem dX0_takePulls_11 : decode cX0_takePulls 11 = .ok (.iload_n 1, 1) := by decide +kernel
theorem dX0_takePulls_12 : decode cX0_takePulls 12 = .ok (.aload_n 0, 1) := by decide +kernel
theorem dX0_takePulls_13 : decode cX0_takePulls 13 = .ok (.iload_n 1, 1) := by decide +kernel
theorem dX0_takePulls_14 : decode cX0_takePulls 14 = .ok (.invokevirtual 106, 3) := by decide +kernel
theorem dX0_takePulls_17 : decode cX0_takePulls 17 = .ok (.aload_n 0, 1) := by decide +kernel
theorem dX0_takePulls_18 : decode cX0_takePulls 18 = .ok (.iload_n 1, 1) := by decide +kernel
theorem dX0_takePulls_19 : decode cX0_takePulls 19 = .ok (.iconst 1, 1) := by decide +kernel
theorem dX0_takePulls_20 : decode cX0_takePulls 20 = .ok (.iadd, 1) := by decide +kernel
theorem dX0_takePulls_21 : decode cX0_takePulls 21 = .ok (.invokevirtual 168, 3) := by decide +kernel
theorem dX0_takePulls_24 : decode cX0_takePulls 24 = .ok (.iadd, 1) := by decide +kernel
theorem dX0_takePulls_25 : decode cX0_takePulls 25 = .ok (.aload_n 0, 1) := by decide +kernel
theorem dX0_takePulls_26 : decode cX0_takePulls 26 = .ok (.iload_n 1, 1) := by decide +kernel
theorem dX0_takePulls_27 : decode cX0_takePulls 27 = .ok (.invokevirtual 168, 3) := by decide +kernel
theorem dX0_takePulls_30 : decode cX0_takePulls 30 = .ok (.isub, 1) := by decide +kernel
theorem dX0_takePulls_31 : decode cX0_takePulls 31 = .ok (.invokevirtual 135, 3) := by decide +kernel
theorem dX0_takePulls_34 : decode cX0_takePulls 34 = .ok (.iinc 1 1, 3) := by decide +kernel
theorem dX0_takePulls_37 : decode cX0_takePulls 37 = .ok (.goto (-35), 3) := by decide +kernel
theorem dX0_takePulls_40 : decode cX0_takePulls 40 = .ok (.aload_n 0, 1) := by decide +kernel
theorem dX0_takePulls_41 : decode cX0_takePulls 41 = .ok (.getfield 34, 3) := by decide +kernel
theorem dX0_takePulls_44 : decode cX0_takePulls 44 = .ok (.dup, 1) := by decide +kernel
theorem dX0_takePulls_45 : decode cX0_takePulls 45 = .ok (.getfield 171, 3) := by decide +kernel
theorem dX0_takePulls_48 : decode cX0_takePulls 48 = .ok (.aload_n 0, 1) := by decide +kernel
theorem dX0_takePulls_49 : decode cX0_takePulls 49 = .ok (.iconst 0, 1) := by decide +kernel
theorem dX0_takePulls_50 : decode cX0_takePulls 50 = .ok (.invokevirtual 168, 3) := by decide +kernel
theorem dX0_takePulls_53 : decode cX0_takePulls 53 = .ok (.i2l, 1) := by decide +kernel
theorem dX0_takePulls_54 : decode cX0_takePulls 54 = .ok (.lsub, 1) := by decide +kernel
theorem dX0_takePulls_55 : decode cX0_takePulls 55 = .ok (.putfield 171, 3) := by decide +kernel
theorem dX0_takePulls_58 : decode cX0_takePulls 58 = .ok (.aload_n 0, 1) := by decide +kernel
theorem dX0_takePulls_59 : decode cX0_takePulls 59 = .ok (.getfield 34, 3) := by decide +kernel
theorem dX0_takePulls_62 : decode cX0_takePulls 62 = .ok (.dup, 1) := by decide +kernel
theorem dX0_takePulls_63 : decode cX0_takePulls 63 = .ok (.getfield 174, 3) := by decide +kernel
theorem dX0_takePulls_66 : decode cX0_takePulls 66 = .ok (.aload_n 0, 1) := by decide +kernel
theorem dX0_takePulls_67 : decode cX0_takePulls 67 = .ok (.aload_n 0, 1) := by decide +kernel
theorem dX0_takePulls_68 : decode cX0_takePulls 68 = .ok (.getfield 65, 3) := by decide +kernel
theorem dX0_takePulls_71 : decode cX0_takePulls 71 = .ok (.invokevirtual 168, 3) := by decide +kernel
theorem dX0_takePulls_74 : decode cX0_takePulls 74 = .ok (.i2l, 1) := by decide +kernel
theorem dX0_takePulls_75 : decode cX0_takePulls 75 = .ok (.ladd, 1) := by decide +kernel
theorem dX0_takePulls_76 : decode cX0_takePulls 76 = .ok (.putfield 174, 3) := by decide +kernel
theorem dX0_takePulls_79 : decode cX0_takePulls 79 = .ok (.return_, 1) := by decide +kernel
theorem dX0_giveImpulses_0 : decode cX0_giveImpulses 0 = .ok (.aload_n 0, 1) := by decide +kernel
theorem dX0_giveImpulses_1 : decode cX0_giveImpulses 1 = .ok (.getfield 41, 3) := by decide +kernel
theorem dX0_giveImpulses_4 : decode cX0_giveImpulses 4 = .ok (.aload_n 0, 1) := by decide +kernel
theorem dX0_giveImpulses_5 : decode cX0_giveImpulses 5 = .ok (.getfield 69, 3) := by decide +kernel
theorem dX0_giveImpulses_8 : decode cX0_giveImpulses 8 = .ok (.invokevirtual 177, 3) := by decide +kernel
theorem dX0_giveImpulses_11 : decode cX0_giveImpulses 11 = .ok (.istore_n 1, 1) := by decide +kernel
theorem dX0_giveImpulses_12 : decode cX0_giveImpulses 12 = .ok (.iconst 0, 1) := by decide +kernel
theorem dX0_giveImpulses_13 : decode cX0_giveImpulses 13 = .ok (.istore_n 2, 1) := by decide +kernel
theorem dX0_giveImpulses_14 : decode cX0_giveImpulses 14 = .ok (.iload_n 2, 1) := by decide +kernel
theorem dX0_giveImpulses_15 : decode cX0_giveImpulses 15 = .ok (.iload_n 1, 1) := by decide +kernel
theorem dX0_giveImpulses_16 : decode cX0_giveImpulses 16 = .ok (.if_icmp .ge 58, 3) := by decide +kernel
theorem dX0_giveImpulses_19 : decode cX0_giveImpulses 19 = .ok (.aload_n 0, 1) := by decide +kernel
theorem dX0_giveImpulses_20 : decode cX0_giveImpulses 20 = .ok (.getfield 41, 3) := by decide +kernel
theorem dX0_giveImpulses_23 : decode cX0_giveImpulses 23 = .ok (.iload_n 2, 1) := by decide +kernel
theorem dX0_giveImpulses_24 : decode cX0_giveImpulses 24 = .ok (.invokevirtual 180, 3) := by decide +kernel
theorem dX0_giveImpulses_27 : decode cX0_giveImpulses 27 = .ok (.istore_n 3, 1) := by decide +kernel
theorem dX0_giveImpulses_28 : decode cX0_giveImpulses 28 = .ok (.aload_n 0, 1) := by decide +kernel
theorem dX0_giveImpulses_29 : decode cX0_giveImpulses 29 = .ok (.iload_n 3, 1) := by decide +kernel
theorem dX0_giveImpulses_30 : decode cX0_giveImpulses 30 = .ok (.aload_n 0, 1) := by decide +kernel
theorem dX0_giveImpulses_31 : decode cX0_giveImpulses 31 = .ok (.iload_n 3, 1) := by decide +kernel
theorem dX0_giveImpulses_32 : decode cX0_giveImpulses 32 = .ok (.invokevirtual 106, 3) := by decide +kernel
theorem dX0_giveImpulses_35 : decode cX0_giveImpulses 35 = .ok (.aload_n 0, 1) := by decide +kernel
theorem dX0_giveImpulses_36 : decode cX0_giveImpulses 36 = .ok (.getfield 41, 3) := by decide +kernel
theorem dX0_giveImpulses_39 : decode cX0_giveImpulses 39 = .ok (.iload_n 2, 1) := by decide +kernel
theorem dX0_giveImpulses_40 : decode cX0_giveImpulses 40 = .ok (.invokevirtual 183, 3) := by decide +kernel
theorem dX0_giveImpulses_43 : decode cX0_giveImpulses 43 = .ok (.iadd, 1) := by decide +kernel
theorem dX0_giveImpulses_44 : decode cX0_giveImpulses 44 = .ok (.invokevirtual 135, 3) := by decide +kernel
theorem dX0_giveImpulses_47 : decode cX0_giveImpulses 47 = .ok (.aload_n 0, 1) := by decide +kernel
theorem dX0_giveImpulses_48 : decode cX0_giveImpulses 48 = .ok (.getfield 34, 3) := by decide +kernel
theorem dX0_giveImpulses_51 : decode cX0_giveImpulses 51 = .ok (.dup, 1) := by decide +kernel
theorem dX0_giveImpulses_52 : decode cX0_giveImpulses 52 = .ok (.getfield 139, 3) := by decide +kernel
theorem dX0_giveImpulses_55 : decode cX0_giveImpulses 55 = .ok (.aload_n 0, 1) := by decide +kernel
theorem dX0_giveImpulses_56 : decode cX0_giveImpulses 56 = .ok (.getfield 41, 3) := by decide +kernel
theorem dX0_giveImpulses_59 : decode cX0_giveImpulses 59 = .ok (.iload_n 2, 1) := by decide +kernel
theorem dX0_giveImpulses_60 : decode cX0_giveImpulses 60 = .ok (.invokevirtual 183, 3) := by decide +kernel
theorem dX0_giveImpulses_63 : decode cX0_giveImpulses 63 = .ok (.i2l, 1) := by decide +kernel
theorem dX0_giveImpulses_64 : decode cX0_giveImpulses 64 = .ok (.ladd, 1) := by decide +kernel
theorem dX0_giveImpulses_65 : decode cX0_giveImpulses 65 = .ok (.putfield 139, 3) := by decide +kernel
theorem dX0_giveImpulses_68 : decode cX0_giveImpulses 68 = .ok (.iinc 2 1, 3) := by decide +kernel
theorem dX0_giveImpulses_71 : decode cX0_giveImpulses 71 = .ok (.goto (-57), 3) := by decide +kernel
theorem dX0_giveImpulses_74 : decode cX0_giveImpulses 74 = .ok (.aload_n 0, 1) := by decide +kernel
theorem dX0_giveImpulses_75 : decode cX0_giveImpulses 75 = .ok (.getfield 41, 3) := by decide +kernel
theorem dX0_giveImpulses_78 : decode cX0_giveImpulses 78 = .ok (.iload_n 1, 1) := by decide +kernel
theorem dX0_giveImpulses_79 : decode cX0_giveImpulses 79 = .ok (.invokevirtual 186, 3) := by decide +kernel
theorem dX0_giveImpulses_82 : decode cX0_giveImpulses 82 = .ok (.return_, 1) := by decide +kernel
theorem dX0_dampMomenta_0 : decode cX0_dampMomenta 0 = .ok (.iconst 0, 1) := by decide +kernel
theorem dX0_dampMomenta_1 : decode cX0_dampMomenta 1 = .ok (.istore_n 1, 1) := by decide +kernel
theorem dX0_dampMomenta_2 : decode cX0_dampMomenta 2 = .ok (.iload_n 1, 1) := by decide +kernel
theorem dX0_dampMomenta_3 : decode cX0_dampMomenta 3 = .ok (.aload_n 0, 1) := by decide +kernel
theorem dX0_dampMomenta_4 : decode cX0_dampMomenta 4 = .ok (.getfield 65, 3) := by decide +kernel
theorem dX0_dampMomenta_7 : decode cX0_dampMomenta 7 = .ok (.if_icmp .ge 53, 3) := by decide +kernel
theorem dX0_dampMomenta_10 : decode cX0_dampMomenta 10 = .ok (.aload_n 0, 1) := by decide +kernel
theorem dX0_dampMomenta_11 : decode cX0_dampMomenta 11 = .ok (.iload_n 1, 1) := by decide +kernel
theorem dX0_dampMomenta_12 : decode cX0_dampMomenta 12 = .ok (.invokevirtual 106, 3) := by decide +kernel
theorem dX0_dampMomenta_15 : decode cX0_dampMomenta 15 = .ok (.i2l, 1) := by decide +kernel
theorem dX0_dampMomenta_16 : decode cX0_dampMomenta 16 = .ok (.aload_n 0, 1) := by decide +kernel
theorem dX0_dampMomenta_17 : decode cX0_dampMomenta 17 = .ok (.getfield 72, 3) := by decide +kernel
theorem dX0_dampMomenta_20 : decode cX0_dampMomenta 20 = .ok (.i2l, 1) := by decide +kernel
theorem dX0_dampMomenta_21 : decode cX0_dampMomenta 21 = .ok (.lmul, 1) := by decide +kernel
theorem dX0_dampMomenta_22 : decode cX0_dampMomenta 22 = .ok (.ldc2_w 189, 3) := by decide +kernel
theorem dX0_dampMomenta_25 : decode cX0_dampMomenta 25 = .ok (.ldiv, 1) := by decide +kernel
theorem dX0_dampMomenta_26 : decode cX0_dampMomenta 26 = .ok (.l2i, 1) := by decide +kernel
theorem dX0_dampMomenta_27 : decode cX0_dampMomenta 27 = .ok (.istore_n 2, 1) := by decide +kernel
theorem dX0_dampMomenta_28 : decode cX0_dampMomenta 28 = .ok (.aload_n 0, 1) := by decide +kernel
theorem dX0_dampMomenta_29 : decode cX0_dampMomenta 29 = .ok (.iload_n 1, 1) := by decide +kernel
theorem dX0_dampMomenta_30 : decode cX0_dampMomenta 30 = .ok (.aload_n 0, 1) := by decide +kernel
theorem dX0_dampMomenta_31 : decode cX0_dampMomenta 31 = .ok (.iload_n 1, 1) := by decide +kernel
theorem dX0_dampMomenta_32 : decode cX0_dampMomenta 32 = .ok (.invokevirtual 106, 3) := by decide +kernel
theorem dX0_dampMomenta_35 : decode cX0_dampMomenta 35 = .ok (.iload_n 2, 1) := by decide +kernel
theorem dX0_dampMomenta_36 : decode cX0_dampMomenta 36 = .ok (.isub, 1) := by decide +kernel
theorem dX0_dampMomenta_37 : decode cX0_dampMomenta 37 = .ok (.invokevirtual 135, 3) := by decide +kernel
theorem dX0_dampMomenta_40 : decode cX0_dampMomenta 40 = .ok (.aload_n 0, 1) := by decide +kernel
theorem dX0_dampMomenta_41 : decode cX0_dampMomenta 41 = .ok (.getfield 34, 3) := by decide +kernel
theorem dX0_dampMomenta_44 : decode cX0_dampMomenta 44 = .ok (.dup, 1) := by decide +kernel
theorem dX0_dampMomenta_45 : decode cX0_dampMomenta 45 = .ok (.getfield 191, 3) := by decide +kernel
theorem dX0_dampMomenta_48 : decode cX0_dampMomenta 48 = .ok (.iload_n 2, 1) := by decide +kernel
theorem dX0_dampMomenta_49 : decode cX0_dampMomenta 49 = .ok (.i2l, 1) := by decide +kernel
theorem dX0_dampMomenta_50 : decode cX0_dampMomenta 50 = .ok (.ladd, 1) := by decide +kernel
theorem dX0_dampMomenta_51 : decode cX0_dampMomenta 51 = .ok (.putfield 191, 3) := by decide +kernel
theorem dX0_dampMomenta_54 : decode cX0_dampMomenta 54 = .ok (.iinc 1 1, 3) := by decide +kernel
theorem dX0_dampMomenta_57 : decode cX0_dampMomenta 57 = .ok (.goto (-55), 3) := by decide +kernel
theorem dX0_dampMomenta_60 : decode cX0_dampMomenta 60 = .ok (.return_, 1) := by decide +kernel
theorem dX0_limitMomenta_0 : decode cX0_limitMomenta 0 = .ok (.iconst 0, 1) := by decide +kernel
theorem dX0_limitMomenta_1 : decode cX0_limitMomenta 1 = .ok (.istore_n 1, 1) := by decide +kernel
theorem dX0_limitMomenta_2 : decode cX0_limitMomenta 2 = .ok (.iload_n 1, 1) := by decide +kernel
theorem dX0_limitMomenta_3 : decode cX0_limitMomenta 3 = .ok (.aload_n 0, 1) := by decide +kernel
theorem dX0_limitMomenta_4 : decode cX0_limitMomenta 4 = .ok (.getfield 65, 3) := by decide +kernel
theorem dX0_limitMomenta_7 : decode cX0_limitMomenta 7 = .ok (.if_icmp .ge 47, 3) := by decide +kernel
theorem dX0_limitMomenta_10 : decode cX0_limitMomenta 10 = .ok (.aload_n 0, 1) := by decide +kernel
theorem dX0_limitMomenta_11 : decode cX0_limitMomenta 11 = .ok (.iload_n 1, 1) := by decide +kernel
theorem dX0_limitMomenta_12 : decode cX0_limitMomenta 12 = .ok (.invokevirtual 106, 3) := by decide +kernel
theorem dX0_limitMomenta_15 : decode cX0_limitMomenta 15 = .ok (.istore_n 2, 1) := by decide +kernel
theorem dX0_limitMomenta_16 : decode cX0_limitMomenta 16 = .ok (.aload_n 0, 1) := by decide +kernel
theorem dX0_limitMomenta_17 : decode cX0_limitMomenta 17 = .ok (.iload_n 1, 1) := by decide +kernel
theorem dX0_limitMomenta_18 : decode cX0_limitMomenta 18 = .ok (.iload_n 2, 1) := by decide +kernel
theorem dX0_limitMomenta_19 : decode cX0_limitMomenta 19 = .ok (.i2l, 1) := by decide +kernel
theorem dX0_limitMomenta_20 : decode cX0_limitMomenta 20 = .ok (.ldc 130, 2) := by decide +kernel
theorem dX0_limitMomenta_22 : decode cX0_limitMomenta 22 = .ok (.invokestatic 131, 3) := by decide +kernel
theorem dX0_limitMomenta_25 : decode cX0_limitMomenta 25 = .ok (.invokevirtual 135, 3) := by decide +kernel
theorem dX0_limitMomenta_28 : decode cX0_limitMomenta 28 = .ok (.aload_n 0, 1) := by decide +kernel
theorem dX0_limitMomenta_29 : decode cX0_limitMomenta 29 = .ok (.getfield 34, 3) := by decide +kernel
theorem dX0_limitMomenta_32 : decode cX0_limitMomenta 32 = .ok (.dup, 1) := by decide +kernel
theorem dX0_limitMomenta_33 : decode cX0_limitMomenta 33 = .ok (.getfield 194, 3) := by decide +kernel
theorem dX0_limitMomenta_36 : decode cX0_limitMomenta 36 = .ok (.iload_n 2, 1) := by decide +kernel
theorem dX0_limitMomenta_37 : decode cX0_limitMomenta 37 = .ok (.aload_n 0, 1) := by decide +kernel
theorem dX0_limitMomenta_38 : decode cX0_limitMomenta 38 = .ok (.iload_n 1, 1) := by decide +kernel
theorem dX0_limitMomenta_39 : decode cX0_limitMomenta 39 = .ok (.invokevirtual 106, 3) := by decide +kernel
theorem dX0_limitMomenta_42 : decode cX0_limitMomenta 42 = .ok (.isub, 1) := by decide +kernel
theorem dX0_limitMomenta_43 : decode cX0_limitMomenta 43 = .ok (.i2l, 1) := by decide +kernel
theorem dX0_limitMomenta_44 : decode cX0_limitMomenta 44 = .ok (.ladd, 1) := by decide +kernel
theorem dX0_limitMomenta_45 : decode cX0_limitMomenta 45 = .ok (.putfield 194, 3) := by decide +kernel
theorem dX0_limitMomenta_48 : decode cX0_limitMomenta 48 = .ok (.iinc 1 1, 3) := by decide +kernel
theorem dX0_limitMomenta_51 : decode cX0_limitMomenta 51 = .ok (.goto (-49), 3) := by decide +kernel
theorem dX0_limitMomenta_54 : decode cX0_limitMomenta 54 = .ok (.return_, 1) := by decide +kernel
theorem dX0_shiftMasses_0 : decode cX0_shiftMasses 0 = .ok (.iconst 0, 1) := by decide +kernel
theorem dX0_shiftMasses_1 : decode cX0_shiftMasses 1 = .ok (.istore_n 1, 1) := by decide +kernel
theorem dX0_shiftMasses_2 : decode cX0_shiftMasses 2 = .ok (.iload_n 1, 1) := by decide +kernel
theorem dX0_shiftMasses_3 : decode cX0_shiftMasses 3 = .ok (.aload_n 0, 1) := by decide +kernel
theorem dX0_shiftMasses_4 : decode cX0_shiftMasses 4 = .ok (.getfield 65, 3) := by decide +kernel
theorem dX0_shiftMasses_7 : decode cX0_shiftMasses 7 = .ok (.if_icmp .ge 32, 3) := by decide +kernel
theorem dX0_shiftMasses_10 : decode cX0_shiftMasses 10 = .ok (.aload_n 0, 1) := by decide +kernel
theorem dX0_shiftMasses_11 : decode cX0_shiftMasses 11 = .ok (.iload_n 1, 1) := by decide +kernel
theorem dX0_shiftMasses_12 : decode cX0_shiftMasses 12 = .ok (.aload_n 0, 1) := by decide +kernel
theorem dX0_shiftMasses_13 : decode cX0_shiftMasses 13 = .ok (.iload_n 1, 1) := by decide +kernel
theorem dX0_shiftMasses_14 : decode cX0_shiftMasses 14 = .ok (.invokevirtual 112, 3) := by decide +kernel
theorem dX0_shiftMasses_17 : decode cX0_shiftMasses 17 = .ok (.i2l, 1) := by decide +kernel
theorem dX0_shiftMasses_18 : decode cX0_shiftMasses 18 = .ok (.aload_n 0, 1) := by decide +kernel
theorem dX0_shiftMasses_19 : decode cX0_shiftMasses 19 = .ok (.iload_n 1, 1) := by decide +kernel
theorem dX0_shiftMasses_20 : decode cX0_shiftMasses 20 = .ok (.invokevirtual 197, 3) := by decide +kernel
theorem dX0_shiftMasses_23 : decode cX0_shiftMasses 23 = .ok (.i2l, 1) := by decide +kernel
theorem dX0_shiftMasses_24 : decode cX0_shiftMasses 24 = .ok (.ladd, 1) := by decide +kernel
theorem dX0_shiftMasses_25 : decode cX0_shiftMasses 25 = .ok (.ldc 200, 2) := by decide +kernel
theorem dX0_shiftMasses_27 : decode cX0_shiftMasses 27 = .ok (.invokestatic 131, 3) := by decide +kernel
theorem dX0_shiftMasses_30 : decode cX0_shiftMasses 30 = .ok (.invokevirtual 201, 3) := by decide +kernel
theorem dX0_shiftMasses_33 : decode cX0_shiftMasses 33 = .ok (.iinc 1 1, 3) := by decide +kernel
theorem dX0_shiftMasses_36 : decode cX0_shiftMasses 36 = .ok (.goto (-34), 3) := by decide +kernel
theorem dX0_shiftMasses_39 : decode cX0_shiftMasses 39 = .ok (.return_, 1) := by decide +kernel
theorem dX0_breakSprings_0 : decode cX0_breakSprings 0 = .ok (.iconst 0, 1) := by decide +kernel
theorem dX0_breakSprings_1 : decode cX0_breakSprings 1 = .ok (.istore_n 1, 1) := by decide +kernel
theorem dX0_breakSprings_2 : decode cX0_breakSprings 2 = .ok (.iconst 0, 1) := by decide +kernel
theorem dX0_breakSprings_3 : decode cX0_breakSprings 3 = .ok (.istore_n 2, 1) := by decide +kernel
theorem dX0_breakSprings_4 : decode cX0_breakSprings 4 = .ok (.iload_n 2, 1) := by decide +kernel
theorem dX0_breakSprings_5 : decode cX0_breakSprings 5 = .ok (.aload_n 0, 1) := by decide +kernel
theorem dX0_breakSprings_6 : decode cX0_breakSprings 6 = .ok (.getfield 65, 3) := by decide +kernel
theorem dX0_breakSprings_9 : decode cX0_breakSprings 9 = .ok (.if_icmp .gt 34, 3) := by decide +kernel
theorem dX0_breakSprings_12 : decode cX0_breakSprings 12 = .ok (.aload_n 0, 1) := by decide +kernel
theorem dX0_breakSprings_13 : decode cX0_breakSprings 13 = .ok (.iload_n 2, 1) := by decide +kernel
theorem dX0_breakSprings_14 : decode cX0_breakSprings 14 = .ok (.invokevirtual 115, 3) := by decide +kernel
theorem dX0_breakSprings_17 : decode cX0_breakSprings 17 = .ok (.ifCond .ne 20, 3) := by decide +kernel
theorem dX0_breakSprings_20 : decode cX0_breakSprings 20 = .ok (.aload_n 0, 1) := by decide +kernel
theorem dX0_breakSprings_21 : decode cX0_breakSprings 21 = .ok (.iload_n 2, 1) := by decide +kernel
theorem dX0_breakSprings_22 : decode cX0_breakSprings 22 = .ok (.invokevirtual 204, 3) := by decide +kernel
theorem dX0_breakSprings_25 : decode cX0_breakSprings 25 = .ok (.ifCond .eq 12, 3) := by decide +kernel
theorem dX0_breakSprings_28 : decode cX0_breakSprings 28 = .ok (.aload_n 0, 1) := by decide +kernel
theorem dX0_breakSprings_29 : decode cX0_breakSprings 29 = .ok (.iload_n 2, 1) := by decide +kernel
theorem dX0_breakSprings_30 : decode cX0_breakSprings 30 = .ok (.iconst 1, 1) := by decide +kernel
theorem dX0_breakSprings_31 : decode cX0_breakSprings 31 = .ok (.invokevirtual 207, 3) := by decide +kernel
theorem dX0_breakSprings_34 : decode cX0_breakSprings 34 = .ok (.iinc 1 1, 3) := by decide +kernel
theorem dX0_breakSprings_37 : decode cX0_breakSprings 37 = .ok (.iinc 2 1, 3) := by decide +kernel
theorem dX0_breakSprings_40 : decode cX0_breakSprings 40 = .ok (.goto (-36), 3) := by decide +kernel
theorem dX0_breakSprings_43 : decode cX0_breakSprings 43 = .ok (.iload_n 1, 1) := by decide +kernel
theorem dX0_breakSprings_44 : decode cX0_breakSprings 44 = .ok (.ireturn, 1) := by decide +kernel
theorem dX0_isOverstretched_0 : decode cX0_isOverstretched 0 = .ok (.aload_n 0, 1) := by decide +kernel
theorem dX0_isOverstretched_1 : decode cX0_isOverstretched 1 = .ok (.iload_n 1, 1) := by decide +kernel
theorem dX0_isOverstretched_2 : decode cX0_isOverstretched 2 = .ok (.invokevirtual 211, 3) := by decide +kernel
theorem dX0_isOverstretched_5 : decode cX0_isOverstretched 5 = .ok (.istore_n 2, 1) := by decide +kernel
theorem dX0_isOverstretched_6 : decode cX0_isOverstretched 6 = .ok (.iload_n 2, 1) := by decide +kernel
theorem dX0_isOverstretched_7 : decode cX0_isOverstretched 7 = .ok (.ifCond .eq 19, 3) := by decide +kernel
theorem dX0_isOverstretched_10 : decode cX0_isOverstretched 10 = .ok (.aload_n 0, 1) := by decide +kernel
theorem dX0_isOverstretched_11 : decode cX0_isOverstretched 11 = .ok (.iload_n 1, 1) := by decide +kernel
theorem dX0_isOverstretched_12 : decode cX0_isOverstretched 12 = .ok (.invokevirtual 121, 3) := by decide +kernel
theorem dX0_isOverstretched_15 : decode cX0_isOverstretched 15 = .ok (.invokestatic 214, 3) := by decide +kernel
theorem dX0_isOverstretched_18 : decode cX0_isOverstretched 18 = .ok (.iload_n 2, 1) := by decide +kernel
theorem dX0_isOverstretched_19 : decode cX0_isOverstretched 19 = .ok (.if_icmp .le 7, 3) := by decide +kernel
theorem dX0_isOverstretched_22 : decode cX0_isOverstretched 22 = .ok (.iconst 1, 1) := by decide +kernel
theorem dX0_isOverstretched_23 : decode cX0_isOverstretched 23 = .ok (.goto 4, 3) := by decide +kernel
theorem dX0_isOverstretched_26 : decode cX0_isOverstretched 26 = .ok (.iconst 0, 1) := by decide +kernel
theorem dX0_isOverstretched_27 : decode cX0_isOverstretched 27 = .ok (.ireturn, 1) := by decide +kernel
theorem dX0_tellState_0 : decode cX0_tellState 0 = .ok (.iload_n 1, 1) := by decide +kernel
theorem dX0_tellState_1 : decode cX0_tellState 1 = .ok (.tableswitch 120 0 10 #[59, 64, 69, 74, 79, 84, 89, 97, 102, 107, 115], 59) := by decide +kernel
theorem dX0_tellState_60 : decode cX0_tellState 60 = .ok (.aload_n 0, 1) := by decide +kernel
theorem dX0_tellState_61 : decode cX0_tellState 61 = .ok (.getfield 69, 3) := by decide +kernel
theorem dX0_tellState_64 : decode cX0_tellState 64 = .ok (.ireturn, 1) := by decide +kernel
theorem dX0_tellState_65 : decode cX0_tellState 65 = .ok (.aload_n 0, 1) := by decide +kernel
theorem dX0_tellState_66 : decode cX0_tellState 66 = .ok (.getfield 65, 3) := by decide +kernel
theorem dX0_tellState_69 : decode cX0_tellState 69 = .ok (.ireturn, 1) := by decide +kernel
theorem dX0_tellState_70 : decode cX0_tellState 70 = .ok (.aload_n 0, 1) := by decide +kernel
theorem dX0_tellState_71 : decode cX0_tellState 71 = .ok (.invokevirtual 217, 3) := by decide +kernel
theorem dX0_tellState_74 : decode cX0_tellState 74 = .ok (.ireturn, 1) := by decide +kernel
theorem dX0_tellState_75 : decode cX0_tellState 75 = .ok (.aload_n 0, 1) := by decide +kernel
theorem dX0_tellState_76 : decode cX0_tellState 76 = .ok (.getfield 75, 3) := by decide +kernel
theorem dX0_tellState_79 : decode cX0_tellState 79 = .ok (.ireturn, 1) := by decide +kernel
theorem dX0_tellState_80 : decode cX0_tellState 80 = .ok (.aload_n 0, 1) := by decide +kernel
theorem dX0_tellState_81 : decode cX0_tellState 81 = .ok (.getfield 78, 3) := by decide +kernel
theorem dX0_tellState_84 : decode cX0_tellState 84 = .ok (.ireturn, 1) := by decide +kernel
theorem dX0_tellState_85 : decode cX0_tellState 85 = .ok (.aload_n 0, 1) := by decide +kernel
theorem dX0_tellState_86 : decode cX0_tellState 86 = .ok (.getfield 72, 3) := by decide +kernel
theorem dX0_tellState_89 : decode cX0_tellState 89 = .ok (.ireturn, 1) := by decide +kernel
theorem dX0_tellState_90 : decode cX0_tellState 90 = .ok (.aload_n 0, 1) := by decide +kernel
theorem dX0_tellState_91 : decode cX0_tellState 91 = .ok (.getfield 41, 3) := by decide +kernel
theorem dX0_tellState_94 : decode cX0_tellState 94 = .ok (.getfield 84, 3) := by decide +kernel
theorem dX0_tellState_97 : decode cX0_tellState 97 = .ok (.ireturn, 1) := by decide +kernel
theorem dX0_tellState_98 : decode cX0_tellState 98 = .ok (.aload_n 0, 1) := by decide +kernel
theorem dX0_tellState_99 : decode cX0_tellState 99 = .ok (.invokevirtual 162, 3) := by decide +kernel
theorem dX0_tellState_102 : decode cX0_tellState 102 = .ok (.ireturn, 1) := by decide +kernel
theorem dX0_tellState_103 : decode cX0_tellState 103 = .ok (.aload_n 0, 1) := by decide +kernel
theorem dX0_tellState_104 : decode cX0_tellState 104 = .ok (.invokevirtual 220, 3) := by decide +kernel
theorem dX0_tellState_107 : decode cX0_tellState 107 = .ok (.ireturn, 1) := by decide +kernel
theorem dX0_tellState_108 : decode cX0_tellState 108 = .ok (.aload_n 0, 1) := by decide +kernel
theorem dX0_tellState_109 : decode cX0_tellState 109 = .ok (.getfield 48, 3) := by decide +kernel
theorem dX0_tellState_112 : decode cX0_tellState 112 = .ok (.getfield 87, 3) := by decide +kernel
theorem dX0_tellState_115 : decode cX0_tellState 115 = .ok (.ireturn, 1) := by decide +kernel
theorem dX0_tellState_116 : decode cX0_tellState 116 = .ok (.aload_n 0, 1) := by decide +kernel
theorem dX0_tellState_117 : decode cX0_tellState 117 = .ok (.invokevirtual 223, 3) := by decide +kernel
theorem dX0_tellState_120 : decode cX0_tellState 120 = .ok (.ireturn, 1) := by decide +kernel
theorem dX0_tellState_121 : decode cX0_tellState 121 = .ok (.aload_n 0, 1) := by decide +kernel
theorem dX0_tellState_122 : decode cX0_tellState 122 = .ok (.invokevirtual 226, 3) := by decide +kernel
theorem dX0_tellState_125 : decode cX0_tellState 125 = .ok (.ireturn, 1) := by decide +kernel
theorem dX0_tellAccount_0 : decode cX0_tellAccount 0 = .ok (.iload_n 1, 1) := by decide +kernel
theorem dX0_tellAccount_1 : decode cX0_tellAccount 1 = .ok (.tableswitch 93 0 6 #[43, 48, 56, 64, 72, 80, 88], 43) := by decide +kernel
theorem dX0_tellAccount_44 : decode cX0_tellAccount 44 = .ok (.aload_n 0, 1) := by decide +kernel
theorem dX0_tellAccount_45 : decode cX0_tellAccount 45 = .ok (.invokevirtual 229, 3) := by decide +kernel
theorem dX0_tellAccount_48 : decode cX0_tellAccount 48 = .ok (.lreturn, 1) := by decide +kernel
theorem dX0_tellAccount_49 : decode cX0_tellAccount 49 = .ok (.aload_n 0, 1) := by decide +kernel
theorem dX0_tellAccount_50 : decode cX0_tellAccount 50 = .ok (.getfield 34, 3) := by decide +kernel
theorem dX0_tellAccount_53 : decode cX0_tellAccount 53 = .ok (.getfield 171, 3) := by decide +kernel
theorem dX0_tellAccount_56 : decode cX0_tellAccount 56 = .ok (.lreturn, 1) := by decide +kernel
theorem dX0_tellAccount_57 : decode cX0_tellAccount 57 = .ok (.aload_n 0, 1) := by decide +kernel
theorem dX0_tellAccount_58 : decode cX0_tellAccount 58 = .ok (.getfield 34, 3) := by decide +kernel
theorem dX0_tellAccount_61 : decode cX0_tellAccount 61 = .ok (.getfield 174, 3) := by decide +kernel
theorem dX0_tellAccount_64 : decode cX0_tellAccount 64 = .ok (.lreturn, 1) := by decide +kernel
theorem dX0_tellAccount_65 : decode cX0_tellAccount 65 = .ok (.aload_n 0, 1) := by decide +kernel
theorem dX0_tellAccount_66 : decode cX0_tellAccount 66 = .ok (.getfield 34, 3) := by decide +kernel
theorem dX0_tellAccount_69 : decode cX0_tellAccount 69 = .ok (.getfield 139, 3) := by decide +kernel
theorem dX0_tellAccount_72 : decode cX0_tellAccount 72 = .ok (.lreturn, 1) := by decide +kernel
theorem dX0_tellAccount_73 : decode cX0_tellAccount 73 = .ok (.aload_n 0, 1) := by decide +kernel
theorem dX0_tellAccount_74 : decode cX0_tellAccount 74 = .ok (.getfield 34, 3) := by decide +kernel
theorem dX0_tellAccount_77 : decode cX0_tellAccount 77 = .ok (.getfield 191, 3) := by decide +kernel
theorem dX0_tellAccount_80 : decode cX0_tellAccount 80 = .ok (.lreturn, 1) := by decide +kernel
theorem dX0_tellAccount_81 : decode cX0_tellAccount 81 = .ok (.aload_n 0, 1) := by decide +kernel
theorem dX0_tellAccount_82 : decode cX0_tellAccount 82 = .ok (.getfield 34, 3) := by decide +kernel
theorem dX0_tellAccount_85 : decode cX0_tellAccount 85 = .ok (.getfield 194, 3) := by decide +kernel
theorem dX0_tellAccount_88 : decode cX0_tellAccount 88 = .ok (.lreturn, 1) := by decide +kernel
theorem dX0_tellAccount_89 : decode cX0_tellAccount 89 = .ok (.aload_n 0, 1) := by decide +kernel
theorem dX0_tellAccount_90 : decode cX0_tellAccount 90 = .ok (.invokevirtual 233, 3) := by decide +kernel
theorem dX0_tellAccount_93 : decode cX0_tellAccount 93 = .ok (.lreturn, 1) := by decide +kernel
theorem dX0_tellAccount_94 : decode cX0_tellAccount 94 = .ok (.aload_n 0, 1) := by decide +kernel
theorem dX0_tellAccount_95 : decode cX0_tellAccount 95 = .ok (.invokevirtual 236, 3) := by decide +kernel
theorem dX0_tellAccount_98 : decode cX0_tellAccount 98 = .ok (.lreturn, 1) := by decide +kernel
theorem dX0_tellMass_0 : decode cX0_tellMass 0 = .ok (.iload_n 2, 1) := by decide +kernel
theorem dX0_tellMass_1 : decode cX0_tellMass 1 = .ok (.tableswitch 45 0 2 #[27, 33, 39], 27) := by decide +kernel
theorem dX0_tellMass_28 : decode cX0_tellMass 28 = .ok (.aload_n 0, 1) := by decide +kernel
theorem dX0_tellMass_29 : decode cX0_tellMass 29 = .ok (.iload_n 1, 1) := by decide +kernel
theorem dX0_tellMass_30 : decode cX0_tellMass 30 = .ok (.invokevirtual 102, 3) := by decide +kernel
theorem dX0_tellMass_33 : decode cX0_tellMass 33 = .ok (.ireturn, 1) := by decide +kernel
theorem dX0_tellMass_34 : decode cX0_tellMass 34 = .ok (.aload_n 0, 1) := by decide +kernel
theorem dX0_tellMass_35 : decode cX0_tellMass 35 = .ok (.iload_n 1, 1) := by decide +kernel
theorem dX0_tellMass_36 : decode cX0_tellMass 36 = .ok (.invokevirtual 112, 3) := by decide +kernel
theorem dX0_tellMass_39 : decode cX0_tellMass 39 = .ok (.ireturn, 1) := by decide +kernel
theorem dX0_tellMass_40 : decode cX0_tellMass 40 = .ok (.aload_n 0, 1) := by decide +kernel
theorem dX0_tellMass_41 : decode cX0_tellMass 41 = .ok (.iload_n 1, 1) := by decide +kernel
theorem dX0_tellMass_42 : decode cX0_tellMass 42 = .ok (.invokevirtual 106, 3) := by decide +kernel
theorem dX0_tellMass_45 : decode cX0_tellMass 45 = .ok (.ireturn, 1) := by decide +kernel
theorem dX0_tellMass_46 : decode cX0_tellMass 46 = .ok (.aload_n 0, 1) := by decide +kernel
theorem dX0_tellMass_47 : decode cX0_tellMass 47 = .ok (.iload_n 1, 1) := by decide +kernel
theorem dX0_tellMass_48 : decode cX0_tellMass 48 = .ok (.invokevirtual 197, 3) := by decide +kernel
theorem dX0_tellMass_51 : decode cX0_tellMass 51 = .ok (.ireturn, 1) := by decide +kernel
theorem dX0_tellSpring_0 : decode cX0_tellSpring 0 = .ok (.iload_n 2, 1) := by decide +kernel
theorem dX0_tellSpring_1 : decode cX0_tellSpring 1 = .ok (.tableswitch 63 0 3 #[31, 37, 43, 57], 31) := by decide +kernel
theorem dX0_tellSpring_32 : decode cX0_tellSpring 32 = .ok (.aload_n 0, 1) := by decide +kernel
theorem dX0_tellSpring_33 : decode cX0_tellSpring 33 = .ok (.iload_n 1, 1) := by decide +kernel
theorem dX0_tellSpring_34 : decode cX0_tellSpring 34 = .ok (.invokevirtual 118, 3) := by decide +kernel
theorem dX0_tellSpring_37 : decode cX0_tellSpring 37 = .ok (.ireturn, 1) := by decide +kernel
theorem dX0_tellSpring_38 : decode cX0_tellSpring 38 = .ok (.aload_n 0, 1) := by decide +kernel
theorem dX0_tellSpring_39 : decode cX0_tellSpring 39 = .ok (.iload_n 1, 1) := by decide +kernel
theorem dX0_tellSpring_40 : decode cX0_tellSpring 40 = .ok (.invokevirtual 211, 3) := by decide +kernel
theorem dX0_tellSpring_43 : decode cX0_tellSpring 43 = .ok (.ireturn, 1) := by decide +kernel
theorem dX0_tellSpring_44 : decode cX0_tellSpring 44 = .ok (.aload_n 0, 1) := by decide +kernel
theorem dX0_tellSpring_45 : decode cX0_tellSpring 45 = .ok (.iload_n 1, 1) := by decide +kernel
theorem dX0_tellSpring_46 : decode cX0_tellSpring 46 = .ok (.invokevirtual 115, 3) := by decide +kernel
theorem dX0_tellSpring_49 : decode cX0_tellSpring 49 = .ok (.ifCond .eq 7, 3) := by decide +kernel
theorem dX0_tellSpring_52 : decode cX0_tellSpring 52 = .ok (.iconst 1, 1) := by decide +kernel
theorem dX0_tellSpring_53 : decode cX0_tellSpring 53 = .ok (.goto 4, 3) := by decide +kernel
theorem dX0_tellSpring_56 : decode cX0_tellSpring 56 = .ok (.iconst 0, 1) := by decide +kernel
theorem dX0_tellSpring_57 : decode cX0_tellSpring 57 = .ok (.ireturn, 1) := by decide +kernel
theorem dX0_tellSpring_58 : decode cX0_tellSpring 58 = .ok (.aload_n 0, 1) := by decide +kernel
theorem dX0_tellSpring_59 : decode cX0_tellSpring 59 = .ok (.iload_n 1, 1) := by decide +kernel
theorem dX0_tellSpring_60 : decode cX0_tellSpring 60 = .ok (.invokevirtual 121, 3) := by decide +kernel
theorem dX0_tellSpring_63 : decode cX0_tellSpring 63 = .ok (.ireturn, 1) := by decide +kernel
theorem dX0_tellSpring_64 : decode cX0_tellSpring 64 = .ok (.aload_n 0, 1) := by decide +kernel
theorem dX0_tellSpring_65 : decode cX0_tellSpring 65 = .ok (.iload_n 1, 1) := by decide +kernel
theorem dX0_tellSpring_66 : decode cX0_tellSpring 66 = .ok (.invokevirtual 168, 3) := by decide +kernel
theorem dX0_tellSpring_69 : decode cX0_tellSpring 69 = .ok (.ireturn, 1) := by decide +kernel
theorem dX0_countBroken_0 : decode cX0_countBroken 0 = .ok (.iconst 0, 1) := by decide +kernel
theorem dX0_countBroken_1 : decode cX0_countBroken 1 = .ok (.istore_n 1, 1) := by decide +kernel
theorem dX0_countBroken_2 : decode cX0_countBroken 2 = .ok (.iconst 0, 1) := by decide +kernel
theorem dX0_countBroken_3 : decode cX0_countBroken 3 = .ok (.istore_n 2, 1) := by decide +kernel
theorem dX0_countBroken_4 : decode cX0_countBroken 4 = .ok (.iload_n 2, 1) := by decide +kernel
theorem dX0_countBroken_5 : decode cX0_countBroken 5 = .ok (.aload_n 0, 1) := by decide +kernel
theorem dX0_countBroken_6 : decode cX0_countBroken 6 = .ok (.getfield 65, 3) := by decide +kernel
theorem dX0_countBroken_9 : decode cX0_countBroken 9 = .ok (.if_icmp .gt 25, 3) := by decide +kernel
theorem dX0_countBroken_12 : decode cX0_countBroken 12 = .ok (.iload_n 1, 1) := by decide +kernel
theorem dX0_countBroken_13 : decode cX0_countBroken 13 = .ok (.aload_n 0, 1) := by decide +kernel
theorem dX0_countBroken_14 : decode cX0_countBroken 14 = .ok (.iload_n 2, 1) := by decide +kernel
theorem dX0_countBroken_15 : decode cX0_countBroken 15 = .ok (.invokevirtual 115, 3) := by decide +kernel
theorem dX0_countBroken_18 : decode cX0_countBroken 18 = .ok (.ifCond .eq 7, 3) := by decide +kernel
theorem dX0_countBroken_21 : decode cX0_countBroken 21 = .ok (.iconst 1, 1) := by decide +kernel
theorem dX0_countBroken_22 : decode cX0_countBroken 22 = .ok (.goto 4, 3) := by decide +kernel
theorem dX0_countBroken_25 : decode cX0_countBroken 25 = .ok (.iconst 0, 1) := by decide +kernel
theorem dX0_countBroken_26 : decode cX0_countBroken 26 = .ok (.iadd, 1) := by decide +kernel
theorem dX0_countBroken_27 : decode cX0_countBroken 27 = .ok (.istore_n 1, 1) := by decide +kernel
theorem dX0_countBroken_28 : decode cX0_countBroken 28 = .ok (.iinc 2 1, 3) := by decide +kernel
theorem dX0_countBroken_31 : decode cX0_countBroken 31 = .ok (.goto (-27), 3) := by decide +kernel
theorem dX0_countBroken_34 : decode cX0_countBroken 34 = .ok (.iload_n 1, 1) := by decide +kernel
theorem dX0_countBroken_35 : decode cX0_countBroken 35 = .ok (.ireturn, 1) := by decide +kernel
theorem dX0_signOf_0 : decode cX0_signOf 0 = .ok (.aload_n 0, 1) := by decide +kernel
theorem dX0_signOf_1 : decode cX0_signOf 1 = .ok (.iload_n 1, 1) := by decide +kernel
theorem dX0_signOf_2 : decode cX0_signOf 2 = .ok (.invokevirtual 112, 3) := by decide +kernel
theorem dX0_signOf_5 : decode cX0_signOf 5 = .ok (.istore_n 2, 1) := by decide +kernel
theorem dX0_signOf_6 : decode cX0_signOf 6 = .ok (.iload_n 2, 1) := by decide +kernel
theorem dX0_signOf_7 : decode cX0_signOf 7 = .ok (.ifCond .le 7, 3) := by decide +kernel
theorem dX0_signOf_10 : decode cX0_signOf 10 = .ok (.iconst 1, 1) := by decide +kernel
theorem dX0_signOf_11 : decode cX0_signOf 11 = .ok (.goto 12, 3) := by decide +kernel
theorem dX0_signOf_14 : decode cX0_signOf 14 = .ok (.iload_n 2, 1) := by decide +kernel
theorem dX0_signOf_15 : decode cX0_signOf 15 = .ok (.ifCond .ge 7, 3) := by decide +kernel
theorem dX0_signOf_18 : decode cX0_signOf 18 = .ok (.iconst (-1), 1) := by decide +kernel
theorem dX0_signOf_19 : decode cX0_signOf 19 = .ok (.goto 4, 3) := by decide +kernel
theorem dX0_signOf_22 : decode cX0_signOf 22 = .ok (.iconst 0, 1) := by decide +kernel
theorem dX0_signOf_23 : decode cX0_signOf 23 = .ok (.ireturn, 1) := by decide +kernel
theorem dX0_patternNumber_0 : decode cX0_patternNumber 0 = .ok (.iconst 0, 1) := by decide +kernel
theorem dX0_patternNumber_1 : decode cX0_patternNumber 1 = .ok (.istore_n 1, 1) := by decide +kernel
theorem dX0_patternNumber_2 : decode cX0_patternNumber 2 = .ok (.aload_n 0, 1) := by decide +kernel
theorem dX0_patternNumber_3 : decode cX0_patternNumber 3 = .ok (.getfield 65, 3) := by decide +kernel
theorem dX0_patternNumber_6 : decode cX0_patternNumber 6 = .ok (.iconst 1, 1) := by decide +kernel
theorem dX0_patternNumber_7 : decode cX0_patternNumber 7 = .ok (.isub, 1) := by decide +kernel
theorem dX0_patternNumber_8 : decode cX0_patternNumber 8 = .ok (.istore_n 2, 1) := by decide +kernel
theorem dX0_patternNumber_9 : decode cX0_patternNumber 9 = .ok (.iload_n 2, 1) := by decide +kernel
theorem dX0_patternNumber_10 : decode cX0_patternNumber 10 = .ok (.ifCond .lt 29, 3) := by decide +kernel
theorem dX0_patternNumber_13 : decode cX0_patternNumber 13 = .ok (.aload_n 0, 1) := by decide +kernel
theorem dX0_patternNumber_14 : decode cX0_patternNumber 14 = .ok (.iload_n 2, 1) := by decide +kernel
theorem dX0_patternNumber_15 : decode cX0_patternNumber 15 = .ok (.invokevirtual 239, 3) := by decide +kernel
theorem dX0_patternNumber_18 : decode cX0_patternNumber 18 = .ok (.istore_n 3, 1) := by decide +kernel
theorem dX0_patternNumber_19 : decode cX0_patternNumber 19 = .ok (.iconst 3, 1) := by decide +kernel
theorem dX0_patternNumber_20 : decode cX0_patternNumber 20 = .ok (.iload_n 1, 1) := by decide +kernel
theorem dX0_patternNumber_21 : decode cX0_patternNumber 21 = .ok (.imul, 1) := by decide +kernel
theorem dX0_patternNumber_22 : decode cX0_patternNumber 22 = .ok (.iload_n 3, 1) := by decide +kernel
theorem dX0_patternNumber_23 : decode cX0_patternNumber 23 = .ok (.ifCond .ge 7, 3) := by decide +kernel
theorem dX0_patternNumber_26 : decode cX0_patternNumber 26 = .ok (.iconst 2, 1) := by decide +kernel
theorem dX0_patternNumber_27 : decode cX0_patternNumber 27 = .ok (.goto 4, 3) := by decide +kernel
theorem dX0_patternNumber_30 : decode cX0_patternNumber 30 = .ok (.iload_n 3, 1) := by decide +kernel
theorem dX0_patternNumber_31 : decode cX0_patternNumber 31 = .ok (.iadd, 1) := by decide +kernel
theorem dX0_patternNumber_32 : decode cX0_patternNumber 32 = .ok (.istore_n 1, 1) := by decide +kernel
theorem dX0_patternNumber_33 : decode cX0_patternNumber 33 = .ok (.iinc 2 (-1), 3) := by decide +kernel
theorem dX0_patternNumber_36 : decode cX0_patternNumber 36 = .ok (.goto (-27), 3) := by decide +kernel
theorem dX0_patternNumber_39 : decode cX0_patternNumber 39 = .ok (.iload_n 1, 1) := by decide +kernel
theorem dX0_patternNumber_40 : decode cX0_patternNumber 40 = .ok (.ireturn, 1) := by decide +kernel
theorem dX0_countNodes_0 : decode cX0_countNodes 0 = .ok (.iconst 0, 1) := by decide +kernel
theorem dX0_countNodes_1 : decode cX0_countNodes 1 = .ok (.istore_n 1, 1) := by decide +kernel
theorem dX0_countNodes_2 : decode cX0_countNodes 2 = .ok (.iconst 0, 1) := by decide +kernel
theorem dX0_countNodes_3 : decode cX0_countNodes 3 = .ok (.istore_n 2, 1) := by decide +kernel
theorem dX0_countNodes_4 : decode cX0_countNodes 4 = .ok (.iconst 0, 1) := by decide +kernel
theorem dX0_countNodes_5 : decode cX0_countNodes 5 = .ok (.istore_n 3, 1) := by decide +kernel
theorem dX0_countNodes_6 : decode cX0_countNodes 6 = .ok (.iload_n 3, 1) := by decide +kernel
theorem dX0_countNodes_7 : decode cX0_countNodes 7 = .ok (.aload_n 0, 1) := by decide +kernel
theorem dX0_countNodes_8 : decode cX0_countNodes 8 = .ok (.getfield 65, 3) := by decide +kernel
theorem dX0_countNodes_11 : decode cX0_countNodes 11 = .ok (.if_icmp .ge 39, 3) := by decide +kernel
theorem dX0_countNodes_14 : decode cX0_countNodes 14 = .ok (.aload_n 0, 1) := by decide +kernel
theorem dX0_countNodes_15 : decode cX0_countNodes 15 = .ok (.iload_n 3, 1) := by decide +kernel
theorem dX0_countNodes_16 : decode cX0_countNodes 16 = .ok (.invokevirtual 239, 3) := by decide +kernel
theorem dX0_countNodes_19 : decode cX0_countNodes 19 = .ok (.istore 4, 2) := by decide +kernel
theorem dX0_countNodes_21 : decode cX0_countNodes 21 = .ok (.iload 4, 2) := by decide +kernel
theorem dX0_countNodes_23 : decode cX0_countNodes 23 = .ok (.ifCond .eq 21, 3) := by decide +kernel
theorem dX0_countNodes_26 : decode cX0_countNodes 26 = .ok (.iload_n 1, 1) := by decide +kernel
theorem dX0_countNodes_27 : decode cX0_countNodes 27 = .ok (.iload_n 2, 1) := by decide +kernel
theorem dX0_countNodes_28 : decode cX0_countNodes 28 = .ok (.iload 4, 2) := by decide +kernel
theorem dX0_countNodes_30 : decode cX0_countNodes 30 = .ok (.ineg, 1) := by decide +kernel
theorem dX0_countNodes_31 : decode cX0_countNodes 31 = .ok (.if_icmp .ne 7, 3) := by decide +kernel
theorem dX0_countNodes_34 : decode cX0_countNodes 34 = .ok (.iconst 1, 1) := by decide +kernel
theorem dX0_countNodes_35 : decode cX0_countNodes 35 = .ok (.goto 4, 3) := by decide +kernel
theorem dX0_countNodes_38 : decode cX0_countNodes 38 = .ok (.iconst 0, 1) := by decide +kernel
theorem dX0_countNodes_39 : decode cX0_countNodes 39 = .ok (.iadd, 1) := by decide +kernel
theorem dX0_countNodes_40 : decode cX0_countNodes 40 = .ok (.istore_n 1, 1) := by decide +kernel
theorem dX0_countNodes_41 : decode cX0_countNodes 41 = .ok (.iload 4, 2) := by decide +kernel
theorem dX0_countNodes_43 : decode cX0_countNodes 43 = .ok (.istore_n 2, 1) := by decide +kernel
theorem dX0_countNodes_44 : decode cX0_countNodes 44 = .ok (.iinc 3 1, 3) := by decide +kernel
theorem dX0_countNodes_47 : decode cX0_countNodes 47 = .ok (.goto (-41), 3) := by decide +kernel
theorem dX0_countNodes_50 : decode cX0_countNodes 50 = .ok (.iload_n 1, 1) := by decide +kernel
theorem dX0_countNodes_51 : decode cX0_countNodes 51 = .ok (.ireturn, 1) := by decide +kernel
theorem dX0_countResting_0 : decode cX0_countResting 0 = .ok (.iconst 0, 1) := by decide +kernel
theorem dX0_countResting_1 : decode cX0_countResting 1 = .ok (.istore_n 1, 1) := by decide +kernel
theorem dX0_countResting_2 : decode cX0_countResting 2 = .ok (.iconst 0, 1) := by decide +kernel
theorem dX0_countResting_3 : decode cX0_countResting 3 = .ok (.istore_n 2, 1) := by decide +kernel
theorem dX0_countResting_4 : decode cX0_countResting 4 = .ok (.iload_n 2, 1) := by decide +kernel
theorem dX0_countResting_5 : decode cX0_countResting 5 = .ok (.aload_n 0, 1) := by decide +kernel
theorem dX0_countResting_6 : decode cX0_countResting 6 = .ok (.getfield 65, 3) := by decide +kernel
theorem dX0_countResting_9 : decode cX0_countResting 9 = .ok (.if_icmp .ge 25, 3) := by decide +kernel
theorem dX0_countResting_12 : decode cX0_countResting 12 = .ok (.iload_n 1, 1) := by decide +kernel
theorem dX0_countResting_13 : decode cX0_countResting 13 = .ok (.aload_n 0, 1) := by decide +kernel
theorem dX0_countResting_14 : decode cX0_countResting 14 = .ok (.iload_n 2, 1) := by decide +kernel
theorem dX0_countResting_15 : decode cX0_countResting 15 = .ok (.invokevirtual 106, 3) := by decide +kernel
theorem dX0_countResting_18 : decode cX0_countResting 18 = .ok (.ifCond .ne 7, 3) := by decide +kernel
theorem dX0_countResting_21 : decode cX0_countResting 21 = .ok (.iconst 1, 1) := by decide +kernel
theorem dX0_countResting_22 : decode cX0_countResting 22 = .ok (.goto 4, 3) := by decide +kernel
theorem dX0_countResting_25 : decode cX0_countResting 25 = .ok (.iconst 0, 1) := by decide +kernel
theorem dX0_countResting_26 : decode cX0_countResting 26 = .ok (.iadd, 1) := by decide +kernel
theorem dX0_countResting_27 : decode cX0_countResting 27 = .ok (.istore_n 1, 1) := by decide +kernel
theorem dX0_countResting_28 : decode cX0_countResting 28 = .ok (.iinc 2 1, 3) := by decide +kernel
theorem dX0_countResting_31 : decode cX0_countResting 31 = .ok (.goto (-27), 3) := by decide +kernel
theorem dX0_countResting_34 : decode cX0_countResting 34 = .ok (.iload_n 1, 1) := by decide +kernel
theorem dX0_countResting_35 : decode cX0_countResting 35 = .ok (.ireturn, 1) := by decide +kernel
theorem dX0_farthestMass_0 : decode cX0_farthestMass 0 = .ok (.iconst 0, 1) := by decide +kernel
theorem dX0_farthestMass_1 : decode cX0_farthestMass 1 = .ok (.istore_n 1, 1) := by decide +kernel
theorem dX0_farthestMass_2 : decode cX0_farthestMass 2 = .ok (.iconst 1, 1) := by decide +kernel
theorem dX0_farthestMass_3 : decode cX0_farthestMass 3 = .ok (.istore_n 2, 1) := by decide +kernel
theorem dX0_farthestMass_4 : decode cX0_farthestMass 4 = .ok (.iload_n 2, 1) := by decide +kernel
theorem dX0_farthestMass_5 : decode cX0_farthestMass 5 = .ok (.aload_n 0, 1) := by decide +kernel
theorem dX0_farthestMass_6 : decode cX0_farthestMass 6 = .ok (.getfield 65, 3) := by decide +kernel
theorem dX0_farthestMass_9 : decode cX0_farthestMass 9 = .ok (.if_icmp .ge 30, 3) := by decide +kernel
theorem dX0_farthestMass_12 : decode cX0_farthestMass 12 = .ok (.aload_n 0, 1) := by decide +kernel
theorem dX0_farthestMass_13 : decode cX0_farthestMass 13 = .ok (.iload_n 2, 1) := by decide +kernel
theorem dX0_farthestMass_14 : decode cX0_farthestMass 14 = .ok (.invokevirtual 112, 3) := by decide +kernel
theorem dX0_farthestMass_17 : decode cX0_farthestMass 17 = .ok (.invokestatic 214, 3) := by decide +kernel
theorem dX0_farthestMass_20 : decode cX0_farthestMass 20 = .ok (.aload_n 0, 1) := by decide +kernel
theorem dX0_farthestMass_21 : decode cX0_farthestMass 21 = .ok (.iload_n 1, 1) := by decide +kernel
theorem dX0_farthestMass_22 : decode cX0_farthestMass 22 = .ok (.invokevirtual 112, 3) := by decide +kernel
theorem dX0_farthestMass_25 : decode cX0_farthestMass 25 = .ok (.invokestatic 214, 3) := by decide +kernel
theorem dX0_farthestMass_28 : decode cX0_farthestMass 28 = .ok (.if_icmp .le 5, 3) := by decide +kernel
theorem dX0_farthestMass_31 : decode cX0_farthestMass 31 = .ok (.iload_n 2, 1) := by decide +kernel
theorem dX0_farthestMass_32 : decode cX0_farthestMass 32 = .ok (.istore_n 1, 1) := by decide +kernel
theorem dX0_farthestMass_33 : decode cX0_farthestMass 33 = .ok (.iinc 2 1, 3) := by decide +kernel
theorem dX0_farthestMass_36 : decode cX0_farthestMass 36 = .ok (.goto (-32), 3) := by decide +kernel
theorem dX0_farthestMass_39 : decode cX0_farthestMass 39 = .ok (.iload_n 1, 1) := by decide +kernel
theorem dX0_farthestMass_40 : decode cX0_farthestMass 40 = .ok (.ireturn, 1) := by decide +kernel
theorem dX0_sumOfMomenta_0 : decode cX0_sumOfMomenta 0 = .ok (.lconst 0, 1) := by decide +kernel
theorem dX0_sumOfMomenta_1 : decode cX0_sumOfMomenta 1 = .ok (.lstore_n 1, 1) := by decide +kernel
theorem dX0_sumOfMomenta_2 : decode cX0_sumOfMomenta 2 = .ok (.iconst 0, 1) := by decide +kernel
theorem dX0_sumOfMomenta_3 : decode cX0_sumOfMomenta 3 = .ok (.istore_n 3, 1) := by decide +kernel
theorem dX0_sumOfMomenta_4 : decode cX0_sumOfMomenta 4 = .ok (.iload_n 3, 1) := by decide +kernel
theorem dX0_sumOfMomenta_5 : decode cX0_sumOfMomenta 5 = .ok (.aload_n 0, 1) := by decide +kernel
theorem dX0_sumOfMomenta_6 : decode cX0_sumOfMomenta 6 = .ok (.getfield 65, 3) := by decide +kernel
theorem dX0_sumOfMomenta_9 : decode cX0_sumOfMomenta 9 = .ok (.if_icmp .ge 18, 3) := by decide +kernel
theorem dX0_sumOfMomenta_12 : decode cX0_sumOfMomenta 12 = .ok (.lload_n 1, 1) := by decide +kernel
theorem dX0_sumOfMomenta_13 : decode cX0_sumOfMomenta 13 = .ok (.aload_n 0, 1) := by decide +kernel
theorem dX0_sumOfMomenta_14 : decode cX0_sumOfMomenta 14 = .ok (.iload_n 3, 1) := by decide +kernel
theorem dX0_sumOfMomenta_15 : decode cX0_sumOfMomenta 15 = .ok (.invokevirtual 106, 3) := by decide +kernel
theorem dX0_sumOfMomenta_18 : decode cX0_sumOfMomenta 18 = .ok (.i2l, 1) := by decide +kernel
theorem dX0_sumOfMomenta_19 : decode cX0_sumOfMomenta 19 = .ok (.ladd, 1) := by decide +kernel
theorem dX0_sumOfMomenta_20 : decode cX0_sumOfMomenta 20 = .ok (.lstore_n 1, 1) := by decide +kernel
theorem dX0_sumOfMomenta_21 : decode cX0_sumOfMomenta 21 = .ok (.iinc 3 1, 3) := by decide +kernel
theorem dX0_sumOfMomenta_24 : decode cX0_sumOfMomenta 24 = .ok (.goto (-20), 3) := by decide +kernel
theorem dX0_sumOfMomenta_27 : decode cX0_sumOfMomenta 27 = .ok (.lload_n 1, 1) := by decide +kernel
theorem dX0_sumOfMomenta_28 : decode cX0_sumOfMomenta 28 = .ok (.lreturn, 1) := by decide +kernel
theorem dX0_energyOfMasses_0 : decode cX0_energyOfMasses 0 = .ok (.lconst 0, 1) := by decide +kernel
theorem dX0_energyOfMasses_1 : decode cX0_energyOfMasses 1 = .ok (.lstore_n 1, 1) := by decide +kernel
theorem dX0_energyOfMasses_2 : decode cX0_energyOfMasses 2 = .ok (.iconst 0, 1) := by decide +kernel
theorem dX0_energyOfMasses_3 : decode cX0_energyOfMasses 3 = .ok (.istore_n 3, 1) := by decide +kernel
theorem dX0_energyOfMasses_4 : decode cX0_energyOfMasses 4 = .ok (.iload_n 3, 1) := by decide +kernel
theorem dX0_energyOfMasses_5 : decode cX0_energyOfMasses 5 = .ok (.aload_n 0, 1) := by decide +kernel
theorem dX0_energyOfMasses_6 : decode cX0_energyOfMasses 6 = .ok (.getfield 65, 3) := by decide +kernel
theorem dX0_energyOfMasses_9 : decode cX0_energyOfMasses 9 = .ok (.if_icmp .ge 17, 3) := by decide +kernel
theorem dX0_energyOfMasses_12 : decode cX0_energyOfMasses 12 = .ok (.lload_n 1, 1) := by decide +kernel
theorem dX0_energyOfMasses_13 : decode cX0_energyOfMasses 13 = .ok (.aload_n 0, 1) := by decide +kernel
theorem dX0_energyOfMasses_14 : decode cX0_energyOfMasses 14 = .ok (.iload_n 3, 1) := by decide +kernel
theorem dX0_energyOfMasses_15 : decode cX0_energyOfMasses 15 = .ok (.invokevirtual 242, 3) := by decide +kernel
theorem dX0_energyOfMasses_18 : decode cX0_energyOfMasses 18 = .ok (.ladd, 1) := by decide +kernel
theorem dX0_energyOfMasses_19 : decode cX0_energyOfMasses 19 = .ok (.lstore_n 1, 1) := by decide +kernel
theorem dX0_energyOfMasses_20 : decode cX0_energyOfMasses 20 = .ok (.iinc 3 1, 3) := by decide +kernel
theorem dX0_energyOfMasses_23 : decode cX0_energyOfMasses 23 = .ok (.goto (-19), 3) := by decide +kernel
theorem dX0_energyOfMasses_26 : decode cX0_energyOfMasses 26 = .ok (.lload_n 1, 1) := by decide +kernel
theorem dX0_energyOfMasses_27 : decode cX0_energyOfMasses 27 = .ok (.lreturn, 1) := by decide +kernel
theorem dX0_energyOfSprings_0 : decode cX0_energyOfSprings 0 = .ok (.lconst 0, 1) := by decide +kernel
theorem dX0_energyOfSprings_1 : decode cX0_energyOfSprings 1 = .ok (.lstore_n 1, 1) := by decide +kernel
theorem dX0_energyOfSprings_2 : decode cX0_energyOfSprings 2 = .ok (.iconst 0, 1) := by decide +kernel
theorem dX0_energyOfSprings_3 : decode cX0_energyOfSprings 3 = .ok (.istore_n 3, 1) := by decide +kernel
theorem dX0_energyOfSprings_4 : decode cX0_energyOfSprings 4 = .ok (.iload_n 3, 1) := by decide +kernel
theorem dX0_energyOfSprings_5 : decode cX0_energyOfSprings 5 = .ok (.aload_n 0, 1) := by decide +kernel
theorem dX0_energyOfSprings_6 : decode cX0_energyOfSprings 6 = .ok (.getfield 65, 3) := by decide +kernel
theorem dX0_energyOfSprings_9 : decode cX0_energyOfSprings 9 = .ok (.if_icmp .gt 17, 3) := by decide +kernel
theorem dX0_energyOfSprings_12 : decode cX0_energyOfSprings 12 = .ok (.lload_n 1, 1) := by decide +kernel
theorem dX0_energyOfSprings_13 : decode cX0_energyOfSprings 13 = .ok (.aload_n 0, 1) := by decide +kernel
theorem dX0_energyOfSprings_14 : decode cX0_energyOfSprings 14 = .ok (.iload_n 3, 1) := by decide +kernel
theorem dX0_energyOfSprings_15 : decode cX0_energyOfSprings 15 = .ok (.invokevirtual 246, 3) := by decide +kernel
theorem dX0_energyOfSprings_18 : decode cX0_energyOfSprings 18 = .ok (.ladd, 1) := by decide +kernel
theorem dX0_energyOfSprings_19 : decode cX0_energyOfSprings 19 = .ok (.lstore_n 1, 1) := by decide +kernel
theorem dX0_energyOfSprings_20 : decode cX0_energyOfSprings 20 = .ok (.iinc 3 1, 3) := by decide +kernel
theorem dX0_energyOfSprings_23 : decode cX0_energyOfSprings 23 = .ok (.goto (-19), 3) := by decide +kernel
theorem dX0_energyOfSprings_26 : decode cX0_energyOfSprings 26 = .ok (.lload_n 1, 1) := by decide +kernel
theorem dX0_energyOfSprings_27 : decode cX0_energyOfSprings 27 = .ok (.lreturn, 1) := by decide +kernel
theorem dX1_init_0 : decode cX1_init 0 = .ok (.aload_n 0, 1) := by decide +kernel
theorem dX1_init_1 : decode cX1_init 1 = .ok (.invokespecial 3, 3) := by decide +kernel
theorem dX1_init_4 : decode cX1_init 4 = .ok (.aload_n 0, 1) := by decide +kernel
theorem dX1_init_5 : decode cX1_init 5 = .ok (.bipush 8, 2) := by decide +kernel
theorem dX1_init_7 : decode cX1_init 7 = .ok (.anewarray 9, 3) := by decide +kernel
theorem dX1_init_10 : decode cX1_init 10 = .ok (.putfield 11, 3) := by decide +kernel
theorem dX1_init_13 : decode cX1_init 13 = .ok (.iconst 0, 1) := by decide +kernel
theorem dX1_init_14 : decode cX1_init 14 = .ok (.istore_n 1, 1) := by decide +kernel
theorem dX1_init_15 : decode cX1_init 15 = .ok (.iload_n 1, 1) := by decide +kernel
theorem dX1_init_16 : decode cX1_init 16 = .ok (.bipush 8, 2) := by decide +kernel
theorem dX1_init_18 : decode cX1_init 18 = .ok (.if_icmp .ge 22, 3) := by decide +kernel
theorem dX1_init_21 : decode cX1_init 21 = .ok (.aload_n 0, 1) := by decide +kernel
theorem dX1_init_22 : decode cX1_init 22 = .ok (.getfield 11, 3) := by decide +kernel
theorem dX1_init_25 : decode cX1_init 25 = .ok (.iload_n 1, 1) := by decide +kernel
theorem dX1_init_26 : decode cX1_init 26 = .ok (.new 9, 3) := by decide +kernel
theorem dX1_init_29 : decode cX1_init 29 = .ok (.dup, 1) := by decide +kernel
theorem dX1_init_30 : decode cX1_init 30 = .ok (.invokespecial 17, 3) := by decide +kernel
theorem dX1_init_33 : decode cX1_init 33 = .ok (.aastore, 1) := by decide +kernel
theorem dX1_init_34 : decode cX1_init 34 = .ok (.iinc 1 1, 3) := by decide +kernel
theorem dX1_init_37 : decode cX1_init 37 = .ok (.goto (-22), 3) := by decide +kernel
theorem dX1_init_40 : decode cX1_init 40 = .ok (.aload_n 0, 1) := by decide +kernel
theorem dX1_init_41 : decode cX1_init 41 = .ok (.iconst 0, 1) := by decide +kernel
theorem dX1_init_42 : decode cX1_init 42 = .ok (.putfield 18, 3) := by decide +kernel
theorem dX1_init_45 : decode cX1_init 45 = .ok (.aload_n 0, 1) := by decide +kernel
theorem dX1_init_46 : decode cX1_init 46 = .ok (.iconst 0, 1) := by decide +kernel
theorem dX1_init_47 : decode cX1_init 47 = .ok (.putfield 22, 3) := by decide +kernel
theorem dX1_init_50 : decode cX1_init 50 = .ok (.return_, 1) := by decide +kernel
theorem dX1_keep_0 : decode cX1_keep 0 = .ok (.aload_n 0, 1) := by decide +kernel
theorem dX1_keep_1 : decode cX1_keep 1 = .ok (.aload_n 0, 1) := by decide +kernel
theorem dX1_keep_2 : decode cX1_keep 2 = .ok (.getfield 22, 3) := by decide +kernel
theorem dX1_keep_5 : decode cX1_keep 5 = .ok (.invokevirtual 25, 3) := by decide +kernel
theorem dX1_keep_8 : decode cX1_keep 8 = .ok (.astore_n 2, 1) := by decide +kernel
theorem dX1_keep_9 : decode cX1_keep 9 = .ok (.aload_n 2, 1) := by decide +kernel
theorem dX1_keep_10 : decode cX1_keep 10 = .ok (.ifnull 48, 3) := by decide +kernel
theorem dX1_keep_13 : decode cX1_keep 13 = .ok (.aload_n 2, 1) := by decide +kernel
theorem dX1_keep_14 : decode cX1_keep 14 = .ok (.aload_n 1, 1) := by decide +kernel
theorem dX1_keep_15 : decode cX1_keep 15 = .ok (.invokevirtual 29, 3) := by decide +kernel
theorem dX1_keep_18 : decode cX1_keep 18 = .ok (.aload_n 0, 1) := by decide +kernel
theorem dX1_keep_19 : decode cX1_keep 19 = .ok (.aload_n 0, 1) := by decide +kernel
theorem dX1_keep_20 : decode cX1_keep 20 = .ok (.getfield 22, 3) := by decide +kernel
theorem dX1_keep_23 : decode cX1_keep 23 = .ok (.iconst 1, 1) := by decide +kernel
theorem dX1_keep_24 : decode cX1_keep 24 = .ok (.iadd, 1) := by decide +kernel
theorem dX1_keep_25 : decode cX1_keep 25 = .ok (.bipush 8, 2) := by decide +kernel
theorem dX1_keep_27 : decode cX1_keep 27 = .ok (.if_icmp .ge 12, 3) := by decide +kernel
theorem dX1_keep_30 : decode cX1_keep 30 = .ok (.aload_n 0, 1) := by decide +kernel
theorem dX1_keep_31 : decode cX1_keep 31 = .ok (.getfield 22, 3) := by decide +kernel
theorem dX1_keep_34 : decode cX1_keep 34 = .ok (.iconst 1, 1) := by decide +kernel
theorem dX1_keep_35 : decode cX1_keep 35 = .ok (.iadd, 1) := by decide +kernel
theorem dX1_keep_36 : decode cX1_keep 36 = .ok (.goto 4, 3) := by decide +kernel
theorem dX1_keep_39 : decode cX1_keep 39 = .ok (.iconst 0, 1) := by decide +kernel
theorem dX1_keep_40 : decode cX1_keep 40 = .ok (.putfield 22, 3) := by decide +kernel
theorem dX1_keep_43 : decode cX1_keep 43 = .ok (.aload_n 0, 1) := by decide +kernel
theorem dX1_keep_44 : decode cX1_keep 44 = .ok (.bipush 8, 2) := by decide +kernel
theorem dX1_keep_46 : decode cX1_keep 46 = .ok (.aload_n 0, 1) := by decide +kernel
theorem dX1_keep_47 : decode cX1_keep 47 = .ok (.getfield 18, 3) := by decide +kernel
theorem dX1_keep_50 : decode cX1_keep 50 = .ok (.iconst 1, 1) := by decide +kernel
theorem dX1_keep_51 : decode cX1_keep 51 = .ok (.iadd, 1) := by decide +kernel
theorem dX1_keep_52 : decode cX1_keep 52 = .ok (.invokestatic 33, 3) := by decide +kernel
theorem dX1_keep_55 : decode cX1_keep 55 = .ok (.putfield 18, 3) := by decide +kernel
theorem dX1_keep_58 : decode cX1_keep 58 = .ok (.return_, 1) := by decide +kernel
theorem dX1_takeBack_0 : decode cX1_takeBack 0 = .ok (.aload_n 0, 1) := by decide +kernel
theorem dX1_takeBack_1 : decode cX1_takeBack 1 = .ok (.getfield 22, 3) := by decide +kernel
theorem dX1_takeBack_4 : decode cX1_takeBack 4 = .ok (.ifCond .le 12, 3) := by decide +kernel
theorem dX1_takeBack_7 : decode cX1_takeBack 7 = .ok (.aload_n 0, 1) := by decide +kernel
theorem dX1_takeBack_8 : decode cX1_takeBack 8 = .ok (.getfield 22, 3) := by decide +kernel
theorem dX1_takeBack_11 : decode cX1_takeBack 11 = .ok (.iconst 1, 1) := by decide +kernel
theorem dX1_takeBack_12 : decode cX1_takeBack 12 = .ok (.isub, 1) := by decide +kernel
theorem dX1_takeBack_13 : decode cX1_takeBack 13 = .ok (.goto 5, 3) := by decide +kernel
theorem dX1_takeBack_16 : decode cX1_takeBack 16 = .ok (.bipush 7, 2) := by decide +kernel
theorem dX1_takeBack_18 : decode cX1_takeBack 18 = .ok (.istore_n 2, 1) := by decide +kernel
theorem dX1_takeBack_19 : decode cX1_takeBack 19 = .ok (.aload_n 0, 1) := by decide +kernel
theorem dX1_takeBack_20 : decode cX1_takeBack 20 = .ok (.iload_n 2, 1) := by decide +kernel
theorem dX1_takeBack_21 : decode cX1_takeBack 21 = .ok (.invokevirtual 25, 3) := by decide +kernel
theorem dX1_takeBack_24 : decode cX1_takeBack 24 = .ok (.astore_n 3, 1) := by decide +kernel
theorem dX1_takeBack_25 : decode cX1_takeBack 25 = .ok (.aload_n 3, 1) := by decide +kernel
theorem dX1_takeBack_26 : decode cX1_takeBack 26 = .ok (.ifnull 30, 3) := by decide +kernel
theorem dX1_takeBack_29 : decode cX1_takeBack 29 = .ok (.aload_n 0, 1) := by decide +kernel
theorem dX1_takeBack_30 : decode cX1_takeBack 30 = .ok (.getfield 18, 3) := by decide +kernel
theorem dX1_takeBack_33 : decode cX1_takeBack 33 = .ok (.ifCond .le 23, 3) := by decide +kernel
theorem dX1_takeBack_36 : decode cX1_takeBack 36 = .ok (.aload_n 1, 1) := by decide +kernel
theorem dX1_takeBack_37 : decode cX1_takeBack 37 = .ok (.aload_n 3, 1) := by decide +kernel
theorem dX1_takeBack_38 : decode cX1_takeBack 38 = .ok (.invokevirtual 29, 3) := by decide +kernel
theorem dX1_takeBack_41 : decode cX1_takeBack 41 = .ok (.aload_n 0, 1) := by decide +kernel
theorem dX1_takeBack_42 : decode cX1_takeBack 42 = .ok (.iload_n 2, 1) := by decide +kernel
theorem dX1_takeBack_43 : decode cX1_takeBack 43 = .ok (.putfield 22, 3) := by decide +kernel
theorem dX1_takeBack_46 : decode cX1_takeBack 46 = .ok (.aload_n 0, 1) := by decide +kernel
theorem dX1_takeBack_47 : decode cX1_takeBack 47 = .ok (.dup, 1) := by decide +kernel
theorem dX1_takeBack_48 : decode cX1_takeBack 48 = .ok (.getfield 18, 3) := by decide +kernel
theorem dX1_takeBack_51 : decode cX1_takeBack 51 = .ok (.iconst 1, 1) := by decide +kernel
theorem dX1_takeBack_52 : decode cX1_takeBack 52 = .ok (.isub, 1) := by decide +kernel
theorem dX1_takeBack_53 : decode cX1_takeBack 53 = .ok (.putfield 18, 3) := by decide +kernel
theorem dX1_takeBack_56 : decode cX1_takeBack 56 = .ok (.return_, 1) := by decide +kernel
theorem dX1_placeAt_0 : decode cX1_placeAt 0 = .ok (.iload_n 1, 1) := by decide +kernel
theorem dX1_placeAt_1 : decode cX1_placeAt 1 = .ok (.ifCond .lt 21, 3) := by decide +kernel
theorem dX1_placeAt_4 : decode cX1_placeAt 4 = .ok (.iload_n 1, 1) := by decide +kernel
theorem dX1_placeAt_5 : decode cX1_placeAt 5 = .ok (.aload_n 0, 1) := by decide +kernel
theorem dX1_placeAt_6 : decode cX1_placeAt 6 = .ok (.getfield 11, 3) := by decide +kernel
theorem dX1_placeAt_9 : decode cX1_placeAt 9 = .ok (.arraylength, 1) := by decide +kernel
theorem dX1_placeAt_10 : decode cX1_placeAt 10 = .ok (.if_icmp .ge 12, 3) := by decide +kernel
theorem dX1_placeAt_13 : decode cX1_placeAt 13 = .ok (.aload_n 0, 1) := by decide +kernel
theorem dX1_placeAt_14 : decode cX1_placeAt 14 = .ok (.getfield 11, 3) := by decide +kernel
theorem dX1_placeAt_17 : decode cX1_placeAt 17 = .ok (.iload_n 1, 1) := by decide +kernel
theorem dX1_placeAt_18 : decode cX1_placeAt 18 = .ok (.aaload, 1) := by decide +kernel
theorem dX1_placeAt_19 : decode cX1_placeAt 19 = .ok (.goto 4, 3) := by decide +kernel
theorem dX1_placeAt_22 : decode cX1_placeAt 22 = .ok (.aconst_null, 1) := by decide +kernel
theorem dX1_placeAt_23 : decode cX1_placeAt 23 = .ok (.areturn, 1) := by decide +kernel
theorem dX2_init_0 : decode cX2_init 0 = .ok (.aload_n 0, 1) := by decide +kernel
theorem dX2_init_1 : decode cX2_init 1 = .ok (.invokespecial 3, 3) := by decide +kernel
theorem dX2_init_4 : decode cX2_init 4 = .ok (.aload_n 0, 1) := by decide +kernel
theorem dX2_init_5 : decode cX2_init 5 = .ok (.bipush 16, 2) := by decide +kernel
theorem dX2_init_7 : decode cX2_init 7 = .ok (.newarray .int, 2) := by decide +kernel
theorem dX2_init_9 : decode cX2_init 9 = .ok (.putfield 9, 3) := by decide +kernel
theorem dX2_init_12 : decode cX2_init 12 = .ok (.aload_n 0, 1) := by decide +kernel
theorem dX2_init_13 : decode cX2_init 13 = .ok (.bipush 16, 2) := by decide +kernel
theorem dX2_init_15 : decode cX2_init 15 = .ok (.newarray .int, 2) := by decide +kernel
theorem dX2_init_17 : decode cX2_init 17 = .ok (.putfield 15, 3) := by decide +kernel
theorem dX2_init_20 : decode cX2_init 20 = .ok (.aload_n 0, 1) := by decide +kernel
theorem dX2_init_21 : decode cX2_init 21 = .ok (.bipush 16, 2) := by decide +kernel
theorem dX2_init_23 : decode cX2_init 23 = .ok (.newarray .int, 2) := by decide +kernel
theorem dX2_init_25 : decode cX2_init 25 = .ok (.putfield 18, 3) := by decide +kernel
theorem dX2_init_28 : decode cX2_init 28 = .ok (.aload_n 0, 1) := by decide +kernel
theorem dX2_init_29 : decode cX2_init 29 = .ok (.iconst 0, 1) := by decide +kernel
theorem dX2_init_30 : decode cX2_init 30 = .ok (.putfield 21, 3) := by decide +kernel
theorem dX2_init_33 : decode cX2_init 33 = .ok (.return_, 1) := by decide +kernel
theorem dX2_become_0 : decode cX2_become 0 = .ok (.aload_n 0, 1) := by decide +kernel
theorem dX2_become_1 : decode cX2_become 1 = .ok (.aload_n 1, 1) := by decide +kernel
theorem dX2_become_2 : decode cX2_become 2 = .ok (.getfield 21, 3) := by decide +kernel
theorem dX2_become_5 : decode cX2_become 5 = .ok (.putfield 21, 3) := by decide +kernel
theorem dX2_become_8 : decode cX2_become 8 = .ok (.iconst 0, 1) := by decide +kernel
theorem dX2_become_9 : decode cX2_become 9 = .ok (.istore_n 2, 1) := by decide +kernel
theorem dX2_become_10 : decode cX2_become 10 = .ok (.iload_n 2, 1) := by decide +kernel
theorem dX2_become_11 : decode cX2_become 11 = .ok (.bipush 16, 2) := by decide +kernel
theorem dX2_become_13 : decode cX2_become 13 = .ok (.if_icmp .ge 32, 3) := by decide +kernel
theorem dX2_become_16 : decode cX2_become 16 = .ok (.aload_n 0, 1) := by decide +kernel
theorem dX2_become_17 : decode cX2_become 17 = .ok (.iload_n 2, 1) := by decide +kernel
theorem dX2_become_18 : decode cX2_become 18 = .ok (.aload_n 1, 1) := by decide +kernel
theorem dX2_become_19 : decode cX2_become 19 = .ok (.getfield 9, 3) := by decide +kernel
theorem dX2_become_22 : decode cX2_become 22 = .ok (.iload_n 2, 1) := by decide +kernel
theorem dX2_become_23 : decode cX2_become 23 = .ok (.iaload, 1) := by decide +kernel
theorem dX2_become_24 : decode cX2_become 24 = .ok (.aload_n 1, 1) := by decide +kernel
theorem dX2_become_25 : decode cX2_become 25 = .ok (.getfield 15, 3) := by decide +kernel
theorem dX2_become_28 : decode cX2_become 28 = .ok (.iload_n 2, 1) := by decide +kernel
theorem dX2_become_29 : decode cX2_become 29 = .ok (.iaload, 1) := by decide +kernel
theorem dX2_become_30 : decode cX2_become 30 = .ok (.aload_n 1, 1) := by decide +kernel
theorem dX2_become_31 : decode cX2_become 31 = .ok (.getfield 18, 3) := by decide +kernel
theorem dX2_become_34 : decode cX2_become 34 = .ok (.iload_n 2, 1) := by decide +kernel
theorem dX2_become_35 : decode cX2_become 35 = .ok (.iaload, 1) := by decide +kernel
theorem dX2_become_36 : decode cX2_become 36 = .ok (.invokevirtual 25, 3) := by decide +kernel
theorem dX2_become_39 : decode cX2_become 39 = .ok (.iinc 2 1, 3) := by decide +kernel
theorem dX2_become_42 : decode cX2_become 42 = .ok (.goto (-32), 3) := by decide +kernel
theorem dX2_become_45 : decode cX2_become 45 = .ok (.return_, 1) := by decide +kernel
theorem dX2_put_0 : decode cX2_put 0 = .ok (.iload_n 1, 1) := by decide +kernel
theorem dX2_put_1 : decode cX2_put 1 = .ok (.ifCond .lt 31, 3) := by decide +kernel
theorem dX2_put_4 : decode cX2_put 4 = .ok (.iload_n 1, 1) := by decide +kernel
theorem dX2_put_5 : decode cX2_put 5 = .ok (.bipush 16, 2) := by decide +kernel
theorem dX2_put_7 : decode cX2_put 7 = .ok (.if_icmp .ge 25, 3) := by decide +kernel
theorem dX2_put_10 : decode cX2_put 10 = .ok (.aload_n 0, 1) := by decide +kernel
theorem dX2_put_11 : decode cX2_put 11 = .ok (.getfield 9, 3) := by decide +kernel
theorem dX2_put_14 : decode cX2_put 14 = .ok (.iload_n 1, 1) := by decide +kernel
theorem dX2_put_15 : decode cX2_put 15 = .ok (.iload_n 2, 1) := by decide +kernel
theorem dX2_put_16 : decode cX2_put 16 = .ok (.iastore, 1) := by decide +kernel
theorem dX2_put_17 : decode cX2_put 17 = .ok (.aload_n 0, 1) := by decide +kernel
theorem dX2_put_18 : decode cX2_put 18 = .ok (.getfield 15, 3) := by decide +kernel
theorem dX2_put_21 : decode cX2_put 21 = .ok (.iload_n 1, 1) := by decide +kernel
theorem dX2_put_22 : decode cX2_put 22 = .ok (.iload_n 3, 1) := by decide +kernel
theorem dX2_put_23 : decode cX2_put 23 = .ok (.iastore, 1) := by decide +kernel
theorem dX2_put_24 : decode cX2_put 24 = .ok (.aload_n 0, 1) := by decide +kernel
theorem dX2_put_25 : decode cX2_put 25 = .ok (.getfield 18, 3) := by decide +kernel
theorem dX2_put_28 : decode cX2_put 28 = .ok (.iload_n 1, 1) := by decide +kernel
theorem dX2_put_29 : decode cX2_put 29 = .ok (.iload 4, 2) := by decide +kernel
theorem dX2_put_31 : decode cX2_put 31 = .ok (.iastore, 1) := by decide +kernel
theorem dX2_put_32 : decode cX2_put 32 = .ok (.return_, 1) := by decide +kernel
theorem dX2_tickOf_0 : decode cX2_tickOf 0 = .ok (.iload_n 1, 1) := by decide +kernel
theorem dX2_tickOf_1 : decode cX2_tickOf 1 = .ok (.ifCond .lt 18, 3) := by decide +kernel
theorem dX2_tickOf_4 : decode cX2_tickOf 4 = .ok (.iload_n 1, 1) := by decide +kernel
theorem dX2_tickOf_5 : decode cX2_tickOf 5 = .ok (.bipush 16, 2) := by decide +kernel
theorem dX2_tickOf_7 : decode cX2_tickOf 7 = .ok (.if_icmp .ge 12, 3) := by decide +kernel
theorem dX2_tickOf_10 : decode cX2_tickOf 10 = .ok (.aload_n 0, 1) := by decide +kernel
theorem dX2_tickOf_11 : decode cX2_tickOf 11 = .ok (.getfield 9, 3) := by decide +kernel
theorem dX2_tickOf_14 : decode cX2_tickOf 14 = .ok (.iload_n 1, 1) := by decide +kernel
theorem dX2_tickOf_15 : decode cX2_tickOf 15 = .ok (.iaload, 1) := by decide +kernel
theorem dX2_tickOf_16 : decode cX2_tickOf 16 = .ok (.goto 4, 3) := by decide +kernel
theorem dX2_tickOf_19 : decode cX2_tickOf 19 = .ok (.iconst 0, 1) := by decide +kernel
theorem dX2_tickOf_20 : decode cX2_tickOf 20 = .ok (.ireturn, 1) := by decide +kernel
theorem dX2_massOf_0 : decode cX2_massOf 0 = .ok (.iload_n 1, 1) := by decide +kernel
theorem dX2_massOf_1 : decode cX2_massOf 1 = .ok (.ifCond .lt 18, 3) := by decide +kernel
theorem dX2_massOf_4 : decode cX2_massOf 4 = .ok (.iload_n 1, 1) := by decide +kernel
theorem dX2_massOf_5 : decode cX2_massOf 5 = .ok (.bipush 16, 2) := by decide +kernel
theorem dX2_massOf_7 : decode cX2_massOf 7 = .ok (.if_icmp .ge 12, 3) := by decide +kernel
theorem dX2_massOf_10 : decode cX2_massOf 10 = .ok (.aload_n 0, 1) := by decide +kernel
theorem dX2_massOf_11 : decode cX2_massOf 11 = .ok (.getfield 15, 3) := by decide +kernel
theorem dX2_massOf_14 : decode cX2_massOf 14 = .ok (.iload_n 1, 1) := by decide +kernel
theorem dX2_massOf_15 : decode cX2_massOf 15 = .ok (.iaload, 1) := by decide +kernel
theorem dX2_massOf_16 : decode cX2_massOf 16 = .ok (.goto 4, 3) := by decide +kernel
theorem dX2_massOf_19 : decode cX2_massOf 19 = .ok (.iconst 0, 1) := by decide +kernel
theorem dX2_massOf_20 : decode cX2_massOf 20 = .ok (.ireturn, 1) := by decide +kernel
theorem dX2_strengthOf_0 : decode cX2_strengthOf 0 = .ok (.iload_n 1, 1) := by decide +kernel
theorem dX2_strengthOf_1 : decode cX2_strengthOf 1 = .ok (.ifCond .lt 18, 3) := by decide +kernel
theorem dX2_strengthOf_4 : decode cX2_strengthOf 4 = .ok (.iload_n 1, 1) := by decide +kernel
theorem dX2_strengthOf_5 : decode cX2_strengthOf 5 = .ok (.bipush 16, 2) := by decide +kernel
theorem dX2_strengthOf_7 : decode cX2_strengthOf 7 = .ok (.if_icmp .ge 12, 3) := by decide +kernel
theorem dX2_strengthOf_10 : decode cX2_strengthOf 10 = .ok (.aload_n 0, 1) := by decide +kernel
theorem dX2_strengthOf_11 : decode cX2_strengthOf 11 = .ok (.getfield 18, 3) := by decide +kernel
theorem dX2_strengthOf_14 : decode cX2_strengthOf 14 = .ok (.iload_n 1, 1) := by decide +kernel
theorem dX2_strengthOf_15 : decode cX2_strengthOf 15 = .ok (.iaload, 1) := by decide +kernel
theorem dX2_strengthOf_16 : decode cX2_strengthOf 16 = .ok (.goto 4, 3) := by decide +kernel
theorem dX2_strengthOf_19 : decode cX2_strengthOf 19 = .ok (.iconst 0, 1) := by decide +kernel
theorem dX2_strengthOf_20 : decode cX2_strengthOf 20 = .ok (.ireturn, 1) := by decide +kernel
theorem dX2_tell_0 : decode cX2_tell 0 = .ok (.iload_n 2, 1) := by decide +kernel
theorem dX2_tell_1 : decode cX2_tell 1 = .ok (.lookupswitch 39 #[(0, 27), (1, 33)], 27) := by decide +kernel
theorem dX2_tell_28 : decode cX2_tell 28 = .ok (.aload_n 0, 1) := by decide +kernel
theorem dX2_tell_29 : decode cX2_tell 29 = .ok (.iload_n 1, 1) := by decide +kernel
theorem dX2_tell_30 : decode cX2_tell 30 = .ok (.invokevirtual 29, 3) := by decide +kernel
theorem dX2_tell_33 : decode cX2_tell 33 = .ok (.ireturn, 1) := by decide +kernel
theorem dX2_tell_34 : decode cX2_tell 34 = .ok (.aload_n 0, 1) := by decide +kernel
theorem dX2_tell_35 : decode cX2_tell 35 = .ok (.iload_n 1, 1) := by decide +kernel
theorem dX2_tell_36 : decode cX2_tell 36 = .ok (.invokevirtual 33, 3) := by decide +kernel
theorem dX2_tell_39 : decode cX2_tell 39 = .ok (.ireturn, 1) := by decide +kernel
theorem dX2_tell_40 : decode cX2_tell 40 = .ok (.aload_n 0, 1) := by decide +kernel
theorem dX2_tell_41 : decode cX2_tell 41 = .ok (.iload_n 1, 1) := by decide +kernel
theorem dX2_tell_42 : decode cX2_tell 42 = .ok (.invokevirtual 36, 3) := by decide +kernel
theorem dX2_tell_45 : decode cX2_tell 45 = .ok (.ireturn, 1) := by decide +kernel
theorem dX2_insert_0 : decode cX2_insert 0 = .ok (.aload_n 0, 1) := by decide +kernel
theorem dX2_insert_1 : decode cX2_insert 1 = .ok (.getfield 21, 3) := by decide +kernel
theorem dX2_insert_4 : decode cX2_insert 4 = .ok (.bipush 16, 2) := by decide +kernel
theorem dX2_insert_6 : decode cX2_insert 6 = .ok (.if_icmp .lt 4, 3) := by decide +kernel
theorem dX2_insert_9 : decode cX2_insert 9 = .ok (.return_, 1) := by decide +kernel
theorem dX2_insert_10 : decode cX2_insert 10 = .ok (.aload_n 0, 1) := by decide +kernel
theorem dX2_insert_11 : decode cX2_insert 11 = .ok (.getfield 21, 3) := by decide +kernel
theorem dX2_insert_14 : decode cX2_insert 14 = .ok (.istore 4, 2) := by decide +kernel
theorem dX2_insert_16 : decode cX2_insert 16 = .ok (.iload 4, 2) := by decide +kernel
theorem dX2_insert_18 : decode cX2_insert 18 = .ok (.ifCond .le 52, 3) := by decide +kernel
theorem dX2_insert_21 : decode cX2_insert 21 = .ok (.aload_n 0, 1) := by decide +kernel
theorem dX2_insert_22 : decode cX2_insert 22 = .ok (.iload 4, 2) := by decide +kernel
theorem dX2_insert_24 : decode cX2_insert 24 = .ok (.iconst 1, 1) := by decide +kernel
theorem dX2_insert_25 : decode cX2_insert 25 = .ok (.isub, 1) := by decide +kernel
theorem dX2_insert_26 : decode cX2_insert 26 = .ok (.iload_n 1, 1) := by decide +kernel
theorem dX2_insert_27 : decode cX2_insert 27 = .ok (.iload_n 2, 1) := by decide +kernel
theorem dX2_insert_28 : decode cX2_insert 28 = .ok (.invokevirtual 39, 3) := by decide +kernel
theorem dX2_insert_31 : decode cX2_insert 31 = .ok (.ifCond .eq 39, 3) := by decide +kernel
theorem dX2_insert_34 : decode cX2_insert 34 = .ok (.aload_n 0, 1) := by decide +kernel
theorem dX2_insert_35 : decode cX2_insert 35 = .ok (.iload 4, 2) := by decide +kernel
theorem dX2_insert_37 : decode cX2_insert 37 = .ok (.aload_n 0, 1) := by decide +kernel
theorem dX2_insert_38 : decode cX2_insert 38 = .ok (.iload 4, 2) := by decide +kernel
theorem dX2_insert_40 : decode cX2_insert 40 = .ok (.iconst 1, 1) := by decide +kernel
theorem dX2_insert_41 : decode cX2_insert 41 = .ok (.isub, 1) := by decide +kernel
theorem dX2_insert_42 : decode cX2_insert 42 = .ok (.invokevirtual 29, 3) := by decide +kernel
theorem dX2_insert_45 : decode cX2_insert 45 = .ok (.aload_n 0, 1) := by decide +kernel
theorem dX2_insert_46 : decode cX2_insert 46 = .ok (.iload 4, 2) := by decide +kernel
theorem dX2_insert_48 : decode cX2_insert 48 = .ok (.iconst 1, 1) := by decide +kernel
theorem dX2_insert_49 : decode cX2_insert 49 = .ok (.isub, 1) := by decide +kernel
theorem dX2_insert_50 : decode cX2_insert 50 = .ok (.invokevirtual 33, 3) := by decide +kernel
theorem dX2_insert_53 : decode cX2_insert 53 = .ok (.aload_n 0, 1) := by decide +kernel
theorem dX2_insert_54 : decode cX2_insert 54 = .ok (.iload 4, 2) := by decide +kernel
theorem dX2_insert_56 : decode cX2_insert 56 = .ok (.iconst 1, 1) := by decide +kernel
theorem dX2_insert_57 : decode cX2_insert 57 = .ok (.isub, 1) := by decide +kernel
theorem dX2_insert_58 : decode cX2_insert 58 = .ok (.invokevirtual 36, 3) := by decide +kernel
theorem dX2_insert_61 : decode cX2_insert 61 = .ok (.invokevirtual 25, 3) := by decide +kernel
theorem dX2_insert_64 : decode cX2_insert 64 = .ok (.iinc 4 (-1), 3) := by decide +kernel
theorem dX2_insert_67 : decode cX2_insert 67 = .ok (.goto (-51), 3) := by decide +kernel
theorem dX2_insert_70 : decode cX2_insert 70 = .ok (.aload_n 0, 1) := by decide +kernel
theorem dX2_insert_71 : decode cX2_insert 71 = .ok (.iload 4, 2) := by decide +kernel
theorem dX2_insert_73 : decode cX2_insert 73 = .ok (.iload_n 1, 1) := by decide +kernel
theorem dX2_insert_74 : decode cX2_insert 74 = .ok (.iload_n 2, 1) := by decide +kernel
theorem dX2_insert_75 : decode cX2_insert 75 = .ok (.iload_n 3, 1) := by decide +kernel
theorem dX2_insert_76 : decode cX2_insert 76 = .ok (.invokevirtual 25, 3) := by decide +kernel
theorem dX2_insert_79 : decode cX2_insert 79 = .ok (.aload_n 0, 1) := by decide +kernel
theorem dX2_insert_80 : decode cX2_insert 80 = .ok (.dup, 1) := by decide +kernel
theorem dX2_insert_81 : decode cX2_insert 81 = .ok (.getfield 21, 3) := by decide +kernel
theorem dX2_insert_84 : decode cX2_insert 84 = .ok (.iconst 1, 1) := by decide +kernel
theorem dX2_insert_85 : decode cX2_insert 85 = .ok (.iadd, 1) := by decide +kernel
theorem dX2_insert_86 : decode cX2_insert 86 = .ok (.putfield 21, 3) := by decide +kernel
theorem dX2_insert_89 : decode cX2_insert 89 = .ok (.return_, 1) := by decide +kernel
theorem dX2_isLater_0 : decode cX2_isLater 0 = .ok (.aload_n 0, 1) := by decide +kernel
theorem dX2_isLater_1 : decode cX2_isLater 1 = .ok (.iload_n 1, 1) := by decide +kernel
theorem dX2_isLater_2 : decode cX2_isLater 2 = .ok (.invokevirtual 29, 3) := by decide +kernel
theorem dX2_isLater_5 : decode cX2_isLater 5 = .ok (.iload_n 2, 1) := by decide +kernel
theorem dX2_isLater_6 : decode cX2_isLater 6 = .ok (.if_icmp .gt 21, 3) := by decide +kernel
theorem dX2_isLater_9 : decode cX2_isLater 9 = .ok (.aload_n 0, 1) := by decide +kernel
theorem dX2_isLater_10 : decode cX2_isLater 10 = .ok (.iload_n 1, 1) := by decide +kernel
theorem dX2_isLater_11 : decode cX2_isLater 11 = .ok (.invokevirtual 29, 3) := by decide +kernel
theorem dX2_isLater_14 : decode cX2_isLater 14 = .ok (.iload_n 2, 1) := by decide +kernel
theorem dX2_isLater_15 : decode cX2_isLater 15 = .ok (.if_icmp .ne 16, 3) := by decide +kernel
theorem dX2_isLater_18 : decode cX2_isLater 18 = .ok (.aload_n 0, 1) := by decide +kernel
theorem dX2_isLater_19 : decode cX2_isLater 19 = .ok (.iload_n 1, 1) := by decide +kernel
theorem dX2_isLater_20 : decode cX2_isLater 20 = .ok (.invokevirtual 33, 3) := by decide +kernel
theorem dX2_isLater_23 : decode cX2_isLater 23 = .ok (.iload_n 3, 1) := by decide +kernel
theorem dX2_isLater_24 : decode cX2_isLater 24 = .ok (.if_icmp .le 7, 3) := by decide +kernel
theorem dX2_isLater_27 : decode cX2_isLater 27 = .ok (.iconst 1, 1) := by decide +kernel
theorem dX2_isLater_28 : decode cX2_isLater 28 = .ok (.goto 4, 3) := by decide +kernel
theorem dX2_isLater_31 : decode cX2_isLater 31 = .ok (.iconst 0, 1) := by decide +kernel
theorem dX2_isLater_32 : decode cX2_isLater 32 = .ok (.ireturn, 1) := by decide +kernel
theorem dX2_countOfTick_0 : decode cX2_countOfTick 0 = .ok (.iconst 0, 1) := by decide +kernel
theorem dX2_countOfTick_1 : decode cX2_countOfTick 1 = .ok (.istore_n 2, 1) := by decide +kernel
theorem dX2_countOfTick_2 : decode cX2_countOfTick 2 = .ok (.iload_n 2, 1) := by decide +kernel
theorem dX2_countOfTick_3 : decode cX2_countOfTick 3 = .ok (.aload_n 0, 1) := by decide +kernel
theorem dX2_countOfTick_4 : decode cX2_countOfTick 4 = .ok (.getfield 21, 3) := by decide +kernel
theorem dX2_countOfTick_7 : decode cX2_countOfTick 7 = .ok (.if_icmp .ge 18, 3) := by decide +kernel
theorem dX2_countOfTick_10 : decode cX2_countOfTick 10 = .ok (.aload_n 0, 1) := by decide +kernel
theorem dX2_countOfTick_11 : decode cX2_countOfTick 11 = .ok (.iload_n 2, 1) := by decide +kernel
theorem dX2_countOfTick_12 : decode cX2_countOfTick 12 = .ok (.invokevirtual 29, 3) := by decide +kernel
theorem dX2_countOfTick_15 : decode cX2_countOfTick 15 = .ok (.iload_n 1, 1) := by decide +kernel
theorem dX2_countOfTick_16 : decode cX2_countOfTick 16 = .ok (.if_icmp .ne 9, 3) := by decide +kernel
theorem dX2_countOfTick_19 : decode cX2_countOfTick 19 = .ok (.iinc 2 1, 3) := by decide +kernel
theorem dX2_countOfTick_22 : decode cX2_countOfTick 22 = .ok (.goto (-20), 3) := by decide +kernel
theorem dX2_countOfTick_25 : decode cX2_countOfTick 25 = .ok (.iload_n 2, 1) := by decide +kernel
theorem dX2_countOfTick_26 : decode cX2_countOfTick 26 = .ok (.ireturn, 1) := by decide +kernel
theorem dX2_dropFirst_0 : decode cX2_dropFirst 0 = .ok (.iload_n 1, 1) := by decide +kernel
theorem dX2_dropFirst_1 : decode cX2_dropFirst 1 = .ok (.istore_n 2, 1) := by decide +kernel
theorem dX2_dropFirst_2 : decode cX2_dropFirst 2 = .ok (.iload_n 2, 1) := by decide +kernel
theorem dX2_dropFirst_3 : decode cX2_dropFirst 3 = .ok (.aload_n 0, 1) := by decide +kernel
theorem dX2_dropFirst_4 : decode cX2_dropFirst 4 = .ok (.getfield 21, 3) := by decide +kernel
theorem dX2_dropFirst_7 : decode cX2_dropFirst 7 = .ok (.if_icmp .ge 31, 3) := by decide +kernel
theorem dX2_dropFirst_10 : decode cX2_dropFirst 10 = .ok (.aload_n 0, 1) := by decide +kernel
theorem dX2_dropFirst_11 : decode cX2_dropFirst 11 = .ok (.iload_n 2, 1) := by decide +kernel
theorem dX2_dropFirst_12 : decode cX2_dropFirst 12 = .ok (.iload_n 1, 1) := by decide +kernel
theorem dX2_dropFirst_13 : decode cX2_dropFirst 13 = .ok (.isub, 1) := by decide +kernel
theorem dX2_dropFirst_14 : decode cX2_dropFirst 14 = .ok (.aload_n 0, 1) := by decide +kernel
theorem dX2_dropFirst_15 : decode cX2_dropFirst 15 = .ok (.iload_n 2, 1) := by decide +kernel
theorem dX2_dropFirst_16 : decode cX2_dropFirst 16 = .ok (.invokevirtual 29, 3) := by decide +kernel
theorem dX2_dropFirst_19 : decode cX2_dropFirst 19 = .ok (.aload_n 0, 1) := by decide +kernel
theorem dX2_dropFirst_20 : decode cX2_dropFirst 20 = .ok (.iload_n 2, 1) := by decide +kernel
theorem dX2_dropFirst_21 : decode cX2_dropFirst 21 = .ok (.invokevirtual 33, 3) := by decide +kernel
theorem dX2_dropFirst_24 : decode cX2_dropFirst 24 = .ok (.aload_n 0, 1) := by decide +kernel
theorem dX2_dropFirst_25 : decode cX2_dropFirst 25 = .ok (.iload_n 2, 1) := by decide +kernel
theorem dX2_dropFirst_26 : decode cX2_dropFirst 26 = .ok (.invokevirtual 36, 3) := by decide +kernel
theorem dX2_dropFirst_29 : decode cX2_dropFirst 29 = .ok (.invokevirtual 25, 3) := by decide +kernel
theorem dX2_dropFirst_32 : decode cX2_dropFirst 32 = .ok (.iinc 2 1, 3) := by decide +kernel
theorem dX2_dropFirst_35 : decode cX2_dropFirst 35 = .ok (.goto (-33), 3) := by decide +kernel
theorem dX2_dropFirst_38 : decode cX2_dropFirst 38 = .ok (.aload_n 0, 1) := by decide +kernel
theorem dX2_dropFirst_39 : decode cX2_dropFirst 39 = .ok (.dup, 1) := by decide +kernel
theorem dX2_dropFirst_40 : decode cX2_dropFirst 40 = .ok (.getfield 21, 3) := by decide +kernel
theorem dX2_dropFirst_43 : decode cX2_dropFirst 43 = .ok (.iload_n 1, 1) := by decide +kernel
theorem dX2_dropFirst_44 : decode cX2_dropFirst 44 = .ok (.isub, 1) := by decide +kernel
theorem dX2_dropFirst_45 : decode cX2_dropFirst 45 = .ok (.putfield 21, 3) := by decide +kernel
theorem dX2_dropFirst_48 : decode cX2_dropFirst 48 = .ok (.return_, 1) := by decide +kernel
theorem dX3_init_0 : decode cX3_init 0 = .ok (.aload_n 0, 1) := by decide +kernel
theorem dX3_init_1 : decode cX3_init 1 = .ok (.invokespecial 1, 3) := by decide +kernel
theorem dX3_init_4 : decode cX3_init 4 = .ok (.return_, 1) := by decide +kernel
theorem dX3_clear_0 : decode cX3_clear 0 = .ok (.aload_n 0, 1) := by decide +kernel
theorem dX3_clear_1 : decode cX3_clear 1 = .ok (.lconst 0, 1) := by decide +kernel
theorem dX3_clear_2 : decode cX3_clear 2 = .ok (.putfield 7, 3) := by decide +kernel
theorem dX3_clear_5 : decode cX3_clear 5 = .ok (.aload_n 0, 1) := by decide +kernel
theorem dX3_clear_6 : decode cX3_clear 6 = .ok (.lconst 0, 1) := by decide +kernel
theorem dX3_clear_7 : decode cX3_clear 7 = .ok (.putfield 13, 3) := by decide +kernel
theorem dX3_clear_10 : decode cX3_clear 10 = .ok (.aload_n 0, 1) := by decide +kernel
theorem dX3_clear_11 : decode cX3_clear 11 = .ok (.lconst 0, 1) := by decide +kernel
theorem dX3_clear_12 : decode cX3_clear 12 = .ok (.putfield 16, 3) := by decide +kernel
theorem dX3_clear_15 : decode cX3_clear 15 = .ok (.aload_n 0, 1) := by decide +kernel
theorem dX3_clear_16 : decode cX3_clear 16 = .ok (.lconst 0, 1) := by decide +kernel
theorem dX3_clear_17 : decode cX3_clear 17 = .ok (.putfield 19, 3) := by decide +kernel
theorem dX3_clear_20 : decode cX3_clear 20 = .ok (.aload_n 0, 1) := by decide +kernel
theorem dX3_clear_21 : decode cX3_clear 21 = .ok (.lconst 0, 1) := by decide +kernel
theorem dX3_clear_22 : decode cX3_clear 22 = .ok (.putfield 22, 3) := by decide +kernel
theorem dX3_clear_25 : decode cX3_clear 25 = .ok (.return_, 1) := by decide +kernel
theorem dX3_become_0 : decode cX3_become 0 = .ok (.aload_n 0, 1) := by decide +kernel
theorem dX3_become_1 : decode cX3_become 1 = .ok (.aload_n 1, 1) := by decide +kernel
theorem dX3_become_2 : decode cX3_become 2 = .ok (.getfield 7, 3) := by decide +kernel
theorem dX3_become_5 : decode cX3_become 5 = .ok (.putfield 7, 3) := by decide +kernel
theorem dX3_become_8 : decode cX3_become 8 = .ok (.aload_n 0, 1) := by decide +kernel
theorem dX3_become_9 : decode cX3_become 9 = .ok (.aload_n 1, 1) := by decide +kernel
theorem dX3_become_10 : decode cX3_become 10 = .ok (.getfield 13, 3) := by decide +kernel
theorem dX3_become_13 : decode cX3_become 13 = .ok (.putfield 13, 3) := by decide +kernel
theorem dX3_become_16 : decode cX3_become 16 = .ok (.aload_n 0, 1) := by decide +kernel
theorem dX3_become_17 : decode cX3_become 17 = .ok (.aload_n 1, 1) := by decide +kernel
theorem dX3_become_18 : decode cX3_become 18 = .ok (.getfield 16, 3) := by decide +kernel
theorem dX3_become_21 : decode cX3_become 21 = .ok (.putfield 16, 3) := by decide +kernel
theorem dX3_become_24 : decode cX3_become 24 = .ok (.aload_n 0, 1) := by decide +kernel
theorem dX3_become_25 : decode cX3_become 25 = .ok (.aload_n 1, 1) := by decide +kernel
theorem dX3_become_26 : decode cX3_become 26 = .ok (.getfield 19, 3) := by decide +kernel
theorem dX3_become_29 : decode cX3_become 29 = .ok (.putfield 19, 3) := by decide +kernel
theorem dX3_become_32 : decode cX3_become 32 = .ok (.aload_n 0, 1) := by decide +kernel
theorem dX3_become_33 : decode cX3_become 33 = .ok (.aload_n 1, 1) := by decide +kernel
theorem dX3_become_34 : decode cX3_become 34 = .ok (.getfield 22, 3) := by decide +kernel
theorem dX3_become_37 : decode cX3_become 37 = .ok (.putfield 22, 3) := by decide +kernel
theorem dX3_become_40 : decode cX3_become 40 = .ok (.return_, 1) := by decide +kernel
theorem dX4_init_0 : decode cX4_init 0 = .ok (.aload_n 0, 1) := by decide +kernel
theorem dX4_init_1 : decode cX4_init 1 = .ok (.invokespecial 3, 3) := by decide +kernel
theorem dX4_init_4 : decode cX4_init 4 = .ok (.aload_n 0, 1) := by decide +kernel
theorem dX4_init_5 : decode cX4_init 5 = .ok (.bipush 32, 2) := by decide +kernel
theorem dX4_init_7 : decode cX4_init 7 = .ok (.newarray .int, 2) := by decide +kernel
theorem dX4_init_9 : decode cX4_init 9 = .ok (.putfield 9, 3) := by decide +kernel
theorem dX4_init_12 : decode cX4_init 12 = .ok (.aload_n 0, 1) := by decide +kernel
theorem dX4_init_13 : decode cX4_init 13 = .ok (.bipush 32, 2) := by decide +kernel
theorem dX4_init_15 : decode cX4_init 15 = .ok (.newarray .int, 2) := by decide +kernel
theorem dX4_init_17 : decode cX4_init 17 = .ok (.putfield 15, 3) := by decide +kernel
theorem dX4_init_20 : decode cX4_init 20 = .ok (.aload_n 0, 1) := by decide +kernel
theorem dX4_init_21 : decode cX4_init 21 = .ok (.iconst 0, 1) := by decide +kernel
theorem dX4_init_22 : decode cX4_init 22 = .ok (.putfield 18, 3) := by decide +kernel
theorem dX4_init_25 : decode cX4_init 25 = .ok (.return_, 1) := by decide +kernel
theorem dX4_become_0 : decode cX4_become 0 = .ok (.aload_n 0, 1) := by decide +kernel
theorem dX4_become_1 : decode cX4_become 1 = .ok (.aload_n 1, 1) := by decide +kernel
theorem dX4_become_2 : decode cX4_become 2 = .ok (.getfield 18, 3) := by decide +kernel
theorem dX4_become_5 : decode cX4_become 5 = .ok (.putfield 18, 3) := by decide +kernel
theorem dX4_become_8 : decode cX4_become 8 = .ok (.iconst 0, 1) := by decide +kernel
theorem dX4_become_9 : decode cX4_become 9 = .ok (.istore_n 2, 1) := by decide +kernel
theorem dX4_become_10 : decode cX4_become 10 = .ok (.iload_n 2, 1) := by decide +kernel
theorem dX4_become_11 : decode cX4_become 11 = .ok (.bipush 32, 2) := by decide +kernel
theorem dX4_become_13 : decode cX4_become 13 = .ok (.if_icmp .ge 33, 3) := by decide +kernel
theorem dX4_become_16 : decode cX4_become 16 = .ok (.aload_n 0, 1) := by decide +kernel
theorem dX4_become_17 : decode cX4_become 17 = .ok (.getfield 9, 3) := by decide +kernel
theorem dX4_become_20 : decode cX4_become 20 = .ok (.iload_n 2, 1) := by decide +kernel
theorem dX4_become_21 : decode cX4_become 21 = .ok (.aload_n 1, 1) := by decide +kernel
theorem dX4_become_22 : decode cX4_become 22 = .ok (.getfield 9, 3) := by decide +kernel
theorem dX4_become_25 : decode cX4_become 25 = .ok (.iload_n 2, 1) := by decide +kernel
theorem dX4_become_26 : decode cX4_become 26 = .ok (.iaload, 1) := by decide +kernel
theorem dX4_become_27 : decode cX4_become 27 = .ok (.iastore, 1) := by decide +kernel
theorem dX4_become_28 : decode cX4_become 28 = .ok (.aload_n 0, 1) := by decide +kernel
theorem dX4_become_29 : decode cX4_become 29 = .ok (.getfield 15, 3) := by decide +kernel
theorem dX4_become_32 : decode cX4_become 32 = .ok (.iload_n 2, 1) := by decide +kernel
theorem dX4_become_33 : decode cX4_become 33 = .ok (.aload_n 1, 1) := by decide +kernel
theorem dX4_become_34 : decode cX4_become 34 = .ok (.getfield 15, 3) := by decide +kernel
theorem dX4_become_37 : decode cX4_become 37 = .ok (.iload_n 2, 1) := by decide +kernel
theorem dX4_become_38 : decode cX4_become 38 = .ok (.iaload, 1) := by decide +kernel
theorem dX4_become_39 : decode cX4_become 39 = .ok (.iastore, 1) := by decide +kernel
theorem dX4_become_40 : decode cX4_become 40 = .ok (.iinc 2 1, 3) := by decide +kernel
theorem dX4_become_43 : decode cX4_become 43 = .ok (.goto (-33), 3) := by decide +kernel
theorem dX4_become_46 : decode cX4_become 46 = .ok (.return_, 1) := by decide +kernel
theorem dX4_note_0 : decode cX4_note 0 = .ok (.iconst 0, 1) := by decide +kernel
theorem dX4_note_1 : decode cX4_note 1 = .ok (.istore_n 2, 1) := by decide +kernel
theorem dX4_note_2 : decode cX4_note 2 = .ok (.iload_n 2, 1) := by decide +kernel
theorem dX4_note_3 : decode cX4_note 3 = .ok (.bipush 32, 2) := by decide +kernel
theorem dX4_note_5 : decode cX4_note 5 = .ok (.if_icmp .ge 63, 3) := by decide +kernel
theorem dX4_note_8 : decode cX4_note 8 = .ok (.iload_n 2, 1) := by decide +kernel
theorem dX4_note_9 : decode cX4_note 9 = .ok (.aload_n 0, 1) := by decide +kernel
theorem dX4_note_10 : decode cX4_note 10 = .ok (.getfield 18, 3) := by decide +kernel
theorem dX4_note_13 : decode cX4_note 13 = .ok (.if_icmp .lt 28, 3) := by decide +kernel
theorem dX4_note_16 : decode cX4_note 16 = .ok (.aload_n 0, 1) := by decide +kernel
theorem dX4_note_17 : decode cX4_note 17 = .ok (.getfield 9, 3) := by decide +kernel
theorem dX4_note_20 : decode cX4_note 20 = .ok (.iload_n 2, 1) := by decide +kernel
theorem dX4_note_21 : decode cX4_note 21 = .ok (.iload_n 1, 1) := by decide +kernel
theorem dX4_note_22 : decode cX4_note 22 = .ok (.iastore, 1) := by decide +kernel
theorem dX4_note_23 : decode cX4_note 23 = .ok (.aload_n 0, 1) := by decide +kernel
theorem dX4_note_24 : decode cX4_note 24 = .ok (.getfield 15, 3) := by decide +kernel
theorem dX4_note_27 : decode cX4_note 27 = .ok (.iload_n 2, 1) := by decide +kernel
theorem dX4_note_28 : decode cX4_note 28 = .ok (.iconst 1, 1) := by decide +kernel
theorem dX4_note_29 : decode cX4_note 29 = .ok (.iastore, 1) := by decide +kernel
theorem dX4_note_30 : decode cX4_note 30 = .ok (.aload_n 0, 1) := by decide +kernel
theorem dX4_note_31 : decode cX4_note 31 = .ok (.dup, 1) := by decide +kernel
theorem dX4_note_32 : decode cX4_note 32 = .ok (.getfield 18, 3) := by decide +kernel
theorem dX4_note_35 : decode cX4_note 35 = .ok (.iconst 1, 1) := by decide +kernel
theorem dX4_note_36 : decode cX4_note 36 = .ok (.iadd, 1) := by decide +kernel
theorem dX4_note_37 : decode cX4_note 37 = .ok (.putfield 18, 3) := by decide +kernel
theorem dX4_note_40 : decode cX4_note 40 = .ok (.return_, 1) := by decide +kernel
theorem dX4_note_41 : decode cX4_note 41 = .ok (.aload_n 0, 1) := by decide +kernel
theorem dX4_note_42 : decode cX4_note 42 = .ok (.getfield 9, 3) := by decide +kernel
theorem dX4_note_45 : decode cX4_note 45 = .ok (.iload_n 2, 1) := by decide +kernel
theorem dX4_note_46 : decode cX4_note 46 = .ok (.iaload, 1) := by decide +kernel
theorem dX4_note_47 : decode cX4_note 47 = .ok (.iload_n 1, 1) := by decide +kernel
theorem dX4_note_48 : decode cX4_note 48 = .ok (.if_icmp .ne 14, 3) := by decide +kernel
theorem dX4_note_51 : decode cX4_note 51 = .ok (.aload_n 0, 1) := by decide +kernel
theorem dX4_note_52 : decode cX4_note 52 = .ok (.getfield 15, 3) := by decide +kernel
theorem dX4_note_55 : decode cX4_note 55 = .ok (.iload_n 2, 1) := by decide +kernel
theorem dX4_note_56 : decode cX4_note 56 = .ok (.dup2, 1) := by decide +kernel
theorem dX4_note_57 : decode cX4_note 57 = .ok (.iaload, 1) := by decide +kernel
theorem dX4_note_58 : decode cX4_note 58 = .ok (.iconst 1, 1) := by decide +kernel
theorem dX4_note_59 : decode cX4_note 59 = .ok (.iadd, 1) := by decide +kernel
theorem dX4_note_60 : decode cX4_note 60 = .ok (.iastore, 1) := by decide +kernel
theorem dX4_note_61 : decode cX4_note 61 = .ok (.return_, 1) := by decide +kernel
theorem dX4_note_62 : decode cX4_note 62 = .ok (.iinc 2 1, 3) := by decide +kernel
theorem dX4_note_65 : decode cX4_note 65 = .ok (.goto (-63), 3) := by decide +kernel
theorem dX4_note_68 : decode cX4_note 68 = .ok (.return_, 1) := by decide +kernel
theorem dX4_tell_0 : decode cX4_tell 0 = .ok (.iload_n 1, 1) := by decide +kernel
theorem dX4_tell_1 : decode cX4_tell 1 = .ok (.ifCond .lt 9, 3) := by decide +kernel
theorem dX4_tell_4 : decode cX4_tell 4 = .ok (.iload_n 1, 1) := by decide +kernel
theorem dX4_tell_5 : decode cX4_tell 5 = .ok (.bipush 32, 2) := by decide +kernel
theorem dX4_tell_7 : decode cX4_tell 7 = .ok (.if_icmp .lt 5, 3) := by decide +kernel
theorem dX4_tell_10 : decode cX4_tell 10 = .ok (.iconst 0, 1) := by decide +kernel
theorem dX4_tell_11 : decode cX4_tell 11 = .ok (.ireturn, 1) := by decide +kernel
theorem dX4_tell_12 : decode cX4_tell 12 = .ok (.iload_n 2, 1) := by decide +kernel
theorem dX4_tell_13 : decode cX4_tell 13 = .ok (.ifCond .ne 12, 3) := by decide +kernel
theorem dX4_tell_16 : decode cX4_tell 16 = .ok (.aload_n 0, 1) := by decide +kernel
theorem dX4_tell_17 : decode cX4_tell 17 = .ok (.getfield 9, 3) := by decide +kernel
theorem dX4_tell_20 : decode cX4_tell 20 = .ok (.iload_n 1, 1) := by decide +kernel
theorem dX4_tell_21 : decode cX4_tell 21 = .ok (.iaload, 1) := by decide +kernel
theorem dX4_tell_22 : decode cX4_tell 22 = .ok (.goto 9, 3) := by decide +kernel
theorem dX4_tell_25 : decode cX4_tell 25 = .ok (.aload_n 0, 1) := by decide +kernel
theorem dX4_tell_26 : decode cX4_tell 26 = .ok (.getfield 15, 3) := by decide +kernel
theorem dX4_tell_29 : decode cX4_tell 29 = .ok (.iload_n 1, 1) := by decide +kernel
theorem dX4_tell_30 : decode cX4_tell 30 = .ok (.iaload, 1) := by decide +kernel
theorem dX4_tell_31 : decode cX4_tell 31 = .ok (.ireturn, 1) := by decide +kernel
theorem dX5_init_0 : decode cX5_init 0 = .ok (.aload_n 0, 1) := by decide +kernel
theorem dX5_init_1 : decode cX5_init 1 = .ok (.invokespecial 3, 3) := by decide +kernel
theorem dX5_init_4 : decode cX5_init 4 = .ok (.aload_n 0, 1) := by decide +kernel
theorem dX5_init_5 : decode cX5_init 5 = .ok (.bipush 12, 2) := by decide +kernel
theorem dX5_init_7 : decode cX5_init 7 = .ok (.newarray .boolean, 2) := by decide +kernel
theorem dX5_init_9 : decode cX5_init 9 = .ok (.putfield 9, 3) := by decide +kernel
theorem dX5_init_12 : decode cX5_init 12 = .ok (.aload_n 0, 1) := by decide +kernel
theorem dX5_init_13 : decode cX5_init 13 = .ok (.bipush 12, 2) := by decide +kernel
theorem dX5_init_15 : decode cX5_init 15 = .ok (.newarray .boolean, 2) := by decide +kernel
theorem dX5_init_17 : decode cX5_init 17 = .ok (.putfield 15, 3) := by decide +kernel
theorem dX5_init_20 : decode cX5_init 20 = .ok (.aload_n 0, 1) := by decide +kernel
theorem dX5_init_21 : decode cX5_init 21 = .ok (.iconst (-1), 1) := by decide +kernel
theorem dX5_init_22 : decode cX5_init 22 = .ok (.putfield 18, 3) := by decide +kernel
theorem dX5_init_25 : decode cX5_init 25 = .ok (.return_, 1) := by decide +kernel
theorem dX5_readSetup_0 : decode cX5_readSetup 0 = .ok (.aload_n 0, 1) := by decide +kernel
theorem dX5_readSetup_1 : decode cX5_readSetup 1 = .ok (.aload_n 1, 1) := by decide +kernel
theorem dX5_readSetup_2 : decode cX5_readSetup 2 = .ok (.putfield 22, 3) := by decide +kernel
theorem dX5_readSetup_5 : decode cX5_readSetup 5 = .ok (.aload_n 0, 1) := by decide +kernel
theorem dX5_readSetup_6 : decode cX5_readSetup 6 = .ok (.aload_n 1, 1) := by decide +kernel
theorem dX5_readSetup_7 : decode cX5_readSetup 7 = .ok (.ifnonnull 7, 3) := by decide +kernel
theorem dX5_readSetup_10 : decode cX5_readSetup 10 = .ok (.iconst 0, 1) := by decide +kernel
theorem dX5_readSetup_11 : decode cX5_readSetup 11 = .ok (.goto 9, 3) := by decide +kernel
theorem dX5_readSetup_14 : decode cX5_readSetup 14 = .ok (.iload_n 2, 1) := by decide +kernel
theorem dX5_readSetup_15 : decode cX5_readSetup 15 = .ok (.aload_n 1, 1) := by decide +kernel
theorem dX5_readSetup_16 : decode cX5_readSetup 16 = .ok (.arraylength, 1) := by decide +kernel
theorem dX5_readSetup_17 : decode cX5_readSetup 17 = .ok (.invokestatic 26, 3) := by decide +kernel
theorem dX5_readSetup_20 : decode cX5_readSetup 20 = .ok (.putfield 32, 3) := by decide +kernel
theorem dX5_readSetup_23 : decode cX5_readSetup 23 = .ok (.aload_n 0, 1) := by decide +kernel
theorem dX5_readSetup_24 : decode cX5_readSetup 24 = .ok (.aload_n 3, 1) := by decide +kernel
theorem dX5_readSetup_25 : decode cX5_readSetup 25 = .ok (.putfield 35, 3) := by decide +kernel
theorem dX5_readSetup_28 : decode cX5_readSetup 28 = .ok (.aload_n 0, 1) := by decide +kernel
theorem dX5_readSetup_29 : decode cX5_readSetup 29 = .ok (.iconst 0, 1) := by decide +kernel
theorem dX5_readSetup_30 : decode cX5_readSetup 30 = .ok (.putfield 39, 3) := by decide +kernel
theorem dX5_readSetup_33 : decode cX5_readSetup 33 = .ok (.aload_n 0, 1) := by decide +kernel
theorem dX5_readSetup_34 : decode cX5_readSetup 34 = .ok (.iconst 0, 1) := by decide +kernel
theorem dX5_readSetup_35 : decode cX5_readSetup 35 = .ok (.putfield 42, 3) := by decide +kernel
theorem dX5_readSetup_38 : decode cX5_readSetup 38 = .ok (.aload_n 0, 1) := by decide +kernel
theorem dX5_readSetup_39 : decode cX5_readSetup 39 = .ok (.iconst (-1), 1) := by decide +kernel
theorem dX5_readSetup_40 : decode cX5_readSetup 40 = .ok (.putfield 18, 3) := by decide +kernel
theorem dX5_readSetup_43 : decode cX5_readSetup 43 = .ok (.aload_n 0, 1) := by decide +kernel
theorem dX5_readSetup_44 : decode cX5_readSetup 44 = .ok (.iconst 0, 1) := by decide +kernel
theorem dX5_readSetup_45 : decode cX5_readSetup 45 = .ok (.putfield 45, 3) := by decide +kernel
theorem dX5_readSetup_48 : decode cX5_readSetup 48 = .ok (.iconst 0, 1) := by decide +kernel
theorem dX5_readSetup_49 : decode cX5_readSetup 49 = .ok (.istore 4, 2) := by decide +kernel
theorem dX5_readSetup_51 : decode cX5_readSetup 51 = .ok (.iload 4, 2) := by decide +kernel
theorem dX5_readSetup_53 : decode cX5_readSetup 53 = .ok (.bipush 12, 2) := by decide +kernel
theorem dX5_readSetup_55 : decode cX5_readSetup 55 = .ok (.if_icmp .ge 25, 3) := by decide +kernel
theorem dX5_readSetup_58 : decode cX5_readSetup 58 = .ok (.aload_n 0, 1) := by decide +kernel
theorem dX5_readSetup_59 : decode cX5_readSetup 59 = .ok (.getfield 9, 3) := by decide +kernel
theorem dX5_readSetup_62 : decode cX5_readSetup 62 = .ok (.iload 4, 2) := by decide +kernel
theorem dX5_readSetup_64 : decode cX5_readSetup 64 = .ok (.iconst 0, 1) := by decide +kernel
theorem dX5_readSetup_65 : decode cX5_readSetup 65 = .ok (.bastore, 1) := by decide +kernel
theorem dX5_readSetup_66 : decode cX5_readSetup 66 = .ok (.aload_n 0, 1) := by decide +kernel
theorem dX5_readSetup_67 : decode cX5_readSetup 67 = .ok (.getfield 15, 3) := by decide +kernel
theorem dX5_readSetup_70 : decode cX5_readSetup 70 = .ok (.iload 4, 2) := by decide +kernel
theorem dX5_readSetup_72 : decode cX5_readSetup 72 = .ok (.iconst 0, 1) := by decide +kernel
theorem dX5_readSetup_73 : decode cX5_readSetup 73 = .ok (.bastore, 1) := by decide +kernel
theorem dX5_readSetup_74 : decode cX5_readSetup 74 = .ok (.iinc 4 1, 3) := by decide +kernel
theorem dX5_readSetup_77 : decode cX5_readSetup 77 = .ok (.goto (-26), 3) := by decide +kernel
theorem dX5_readSetup_80 : decode cX5_readSetup 80 = .ok (.aload_n 0, 1) := by decide +kernel
theorem dX5_readSetup_81 : decode cX5_readSetup 81 = .ok (.getfield 35, 3) := by decide +kernel
theorem dX5_readSetup_84 : decode cX5_readSetup 84 = .ok (.ifnull 10, 3) := by decide +kernel
theorem dX5_readSetup_87 : decode cX5_readSetup 87 = .ok (.aload_n 0, 1) := by decide +kernel
theorem dX5_readSetup_88 : decode cX5_readSetup 88 = .ok (.invokevirtual 49, 3) := by decide +kernel
theorem dX5_readSetup_91 : decode cX5_readSetup 91 = .ok (.ifCond .ne 5, 3) := by decide +kernel
theorem dX5_readSetup_94 : decode cX5_readSetup 94 = .ok (.iconst 0, 1) := by decide +kernel
theorem dX5_readSetup_95 : decode cX5_readSetup 95 = .ok (.ireturn, 1) := by decide +kernel
theorem dX5_readSetup_96 : decode cX5_readSetup 96 = .ok (.iconst 0, 1) := by decide +kernel
theorem dX5_readSetup_97 : decode cX5_readSetup 97 = .ok (.istore 4, 2) := by decide +kernel
theorem dX5_readSetup_99 : decode cX5_readSetup 99 = .ok (.iload 4, 2) := by decide +kernel
theorem dX5_readSetup_101 : decode cX5_readSetup 101 = .ok (.sipush 500, 3) := by decide +kernel
theorem dX5_readSetup_104 : decode cX5_readSetup 104 = .ok (.if_icmp .ge 34, 3) := by decide +kernel
theorem dX5_readSetup_107 : decode cX5_readSetup 107 = .ok (.aload_n 0, 1) := by decide +kernel
theorem dX5_readSetup_108 : decode cX5_readSetup 108 = .ok (.invokevirtual 53, 3) := by decide +kernel
theorem dX5_readSetup_111 : decode cX5_readSetup 111 = .ok (.ifCond .ne 27, 3) := by decide +kernel
theorem dX5_readSetup_114 : decode cX5_readSetup 114 = .ok (.aload_n 0, 1) := by decide +kernel
theorem dX5_readSetup_115 : decode cX5_readSetup 115 = .ok (.invokevirtual 56, 3) := by decide +kernel
theorem dX5_readSetup_118 : decode cX5_readSetup 118 = .ok (.ifCond .eq 12, 3) := by decide +kernel
theorem dX5_readSetup_121 : decode cX5_readSetup 121 = .ok (.aload_n 0, 1) := by decide +kernel
theorem dX5_readSetup_122 : decode cX5_readSetup 122 = .ok (.bipush 59, 2) := by decide +kernel
theorem dX5_readSetup_124 : decode cX5_readSetup 124 = .ok (.invokevirtual 59, 3) := by decide +kernel
theorem dX5_readSetup_127 : decode cX5_readSetup 127 = .ok (.ifCond .ne 5, 3) := by decide +kernel
theorem dX5_readSetup_130 : decode cX5_readSetup 130 = .ok (.iconst 0, 1) := by decide +kernel
theorem dX5_readSetup_131 : decode cX5_readSetup 131 = .ok (.ireturn, 1) := by decide +kernel
theorem dX5_readSetup_132 : decode cX5_readSetup 132 = .ok (.iinc 4 1, 3) := by decide +kernel
theorem dX5_readSetup_135 : decode cX5_readSetup 135 = .ok (.goto (-36), 3) := by decide +kernel
theorem dX5_readSetup_138 : decode cX5_readSetup 138 = .ok (.iconst 1, 1) := by decide +kernel
theorem dX5_readSetup_139 : decode cX5_readSetup 139 = .ok (.ireturn, 1) := by decide +kernel
theorem dX5_isAtEnd_0 : decode cX5_isAtEnd 0 = .ok (.aload_n 0, 1) := by decide +kernel
theorem dX5_isAtEnd_1 : decode cX5_isAtEnd 1 = .ok (.invokevirtual 63, 3) := by decide +kernel
theorem dX5_isAtEnd_4 : decode cX5_isAtEnd 4 = .ok (.aload_n 0, 1) := by decide +kernel
theorem dX5_isAtEnd_5 : decode cX5_isAtEnd 5 = .ok (.getfield 39, 3) := by decide +kernel
theorem dX5_isAtEnd_8 : decode cX5_isAtEnd 8 = .ok (.aload_n 0, 1) := by decide +kernel
theorem dX5_isAtEnd_9 : decode cX5_isAtEnd 9 = .ok (.getfield 32, 3) := by decide +kernel
theorem dX5_isAtEnd_12 : decode cX5_isAtEnd 12 = .ok (.if_icmp .lt 7, 3) := by decide +kernel
theorem dX5_isAtEnd_15 : decode cX5_isAtEnd 15 = .ok (.iconst 1, 1) := by decide +kernel
theorem dX5_isAtEnd_16 : decode cX5_isAtEnd 16 = .ok (.goto 4, 3) := by decide +kernel
theorem dX5_isAtEnd_19 : decode cX5_isAtEnd 19 = .ok (.iconst 0, 1) := by decide +kernel
theorem dX5_isAtEnd_20 : decode cX5_isAtEnd 20 = .ok (.ireturn, 1) := by decide +kernel
theorem dX5_readHead_0 : decode cX5_readHead 0 = .ok (.aload_n 0, 1) := by decide +kernel
theorem dX5_readHead_1 : decode cX5_readHead 1 = .ok (.ldc 66, 2) := by decide +kernel
theorem dX5_readHead_3 : decode cX5_readHead 3 = .ok (.invokevirtual 68, 3) := by decide +kernel
theorem dX5_readHead_6 : decode cX5_readHead 6 = .ok (.ifCond .ne 14, 3) := by decide +kernel
theorem dX5_readHead_9 : decode cX5_readHead 9 = .ok (.aload_n 0, 1) := by decide +kernel
theorem dX5_readHead_10 : decode cX5_readHead 10 = .ok (.bipush (-2), 2) := by decide +kernel
theorem dX5_readHead_12 : decode cX5_readHead 12 = .ok (.aload_n 0, 1) := by decide +kernel
theorem dX5_readHead_13 : decode cX5_readHead 13 = .ok (.getfield 39, 3) := by decide +kernel
theorem dX5_readHead_16 : decode cX5_readHead 16 = .ok (.invokevirtual 72, 3) := by decide +kernel
theorem dX5_readHead_19 : decode cX5_readHead 19 = .ok (.ireturn, 1) := by decide +kernel
theorem dX5_readHead_20 : decode cX5_readHead 20 = .ok (.aload_n 0, 1) := by decide +kernel
theorem dX5_readHead_21 : decode cX5_readHead 21 = .ok (.iconst 1, 1) := by decide +kernel
theorem dX5_readHead_22 : decode cX5_readHead 22 = .ok (.bipush 12, 2) := by decide +kernel
theorem dX5_readHead_24 : decode cX5_readHead 24 = .ok (.invokevirtual 76, 3) := by decide +kernel
theorem dX5_readHead_27 : decode cX5_readHead 27 = .ok (.ifCond .ne 5, 3) := by decide +kernel
theorem dX5_readHead_30 : decode cX5_readHead 30 = .ok (.iconst 0, 1) := by decide +kernel
theorem dX5_readHead_31 : decode cX5_readHead 31 = .ok (.ireturn, 1) := by decide +kernel
theorem dX5_readHead_32 : decode cX5_readHead 32 = .ok (.aload_n 0, 1) := by decide +kernel
theorem dX5_readHead_33 : decode cX5_readHead 33 = .ok (.getfield 35, 3) := by decide +kernel
theorem dX5_readHead_36 : decode cX5_readHead 36 = .ok (.aload_n 0, 1) := by decide +kernel
theorem dX5_readHead_37 : decode cX5_readHead 37 = .ok (.getfield 79, 3) := by decide +kernel
theorem dX5_readHead_40 : decode cX5_readHead 40 = .ok (.invokevirtual 82, 3) := by decide +kernel
theorem dX5_readHead_43 : decode cX5_readHead 43 = .ok (.aload_n 0, 1) := by decide +kernel
theorem dX5_readHead_44 : decode cX5_readHead 44 = .ok (.bipush 59, 2) := by decide +kernel
theorem dX5_readHead_46 : decode cX5_readHead 46 = .ok (.invokevirtual 59, 3) := by decide +kernel
theorem dX5_readHead_49 : decode cX5_readHead 49 = .ok (.ireturn, 1) := by decide +kernel
theorem dX5_readStatement_0 : decode cX5_readStatement 0 = .ok (.aload_n 0, 1) := by decide +kernel
theorem dX5_readStatement_1 : decode cX5_readStatement 1 = .ok (.getfield 39, 3) := by decide +kernel
theorem dX5_readStatement_4 : decode cX5_readStatement 4 = .ok (.istore_n 1, 1) := by decide +kernel
theorem dX5_readStatement_5 : decode cX5_readStatement 5 = .ok (.aload_n 0, 1) := by decide +kernel
theorem dX5_readStatement_6 : decode cX5_readStatement 6 = .ok (.ldc 88, 2) := by decide +kernel
theorem dX5_readStatement_8 : decode cX5_readStatement 8 = .ok (.invokevirtual 68, 3) := by decide +kernel
theorem dX5_readStatement_11 : decode cX5_readStatement 11 = .ok (.ifCond .eq 8, 3) := by decide +kernel
theorem dX5_readStatement_14 : decode cX5_readStatement 14 = .ok (.aload_n 0, 1) := by decide +kernel
theorem dX5_readStatement_15 : decode cX5_readStatement 15 = .ok (.invokevirtual 90, 3) := by decide +kernel
theorem dX5_readStatement_18 : decode cX5_readStatement 18 = .ok (.ireturn, 1) := by decide +kernel
theorem dX5_readStatement_19 : decode cX5_readStatement 19 = .ok (.aload_n 0, 1) := by decide +kernel
theorem dX5_readStatement_20 : decode cX5_readStatement 20 = .ok (.ldc 93, 2) := by decide +kernel
theorem dX5_readStatement_22 : decode cX5_readStatement 22 = .ok (.invokevirtual 68, 3) := by decide +kernel
theorem dX5_readStatement_25 : decode cX5_readStatement 25 = .ok (.ifCond .eq 8, 3) := by decide +kernel
theorem dX5_readStatement_28 : decode cX5_readStatement 28 = .ok (.aload_n 0, 1) := by decide +kernel
theorem dX5_readStatement_29 : decode cX5_readStatement 29 = .ok (.invokevirtual 95, 3) := by decide +kernel
theorem dX5_readStatement_32 : decode cX5_readStatement 32 = .ok (.ireturn, 1) := by decide +kernel
theorem dX5_readStatement_33 : decode cX5_readStatement 33 = .ok (.aload_n 0, 1) := by decide +kernel
theorem dX5_readStatement_34 : decode cX5_readStatement 34 = .ok (.ldc 98, 2) := by decide +kernel
theorem dX5_readStatement_36 : decode cX5_readStatement 36 = .ok (.invokevirtual 68, 3) := by decide +kernel
theorem dX5_readStatement_39 : decode cX5_readStatement 39 = .ok (.ifCond .eq 8, 3) := by decide +kernel
theorem dX5_readStatement_42 : decode cX5_readStatement 42 = .ok (.aload_n 0, 1) := by decide +kernel
theorem dX5_readStatement_43 : decode cX5_readStatement 43 = .ok (.invokevirtual 100, 3) := by decide +kernel
theorem dX5_readStatement_46 : decode cX5_readStatement 46 = .ok (.ireturn, 1) := by decide +kernel
theorem dX5_readStatement_47 : decode cX5_readStatement 47 = .ok (.aload_n 0, 1) := by decide +kernel
theorem dX5_readStatement_48 : decode cX5_readStatement 48 = .ok (.ldc 103, 2) := by decide +kernel
theorem dX5_readStatement_50 : decode cX5_readStatement 50 = .ok (.invokevirtual 68, 3) := by decide +kernel
theorem dX5_readStatement_53 : decode cX5_readStatement 53 = .ok (.ifCond .eq 8, 3) := by decide +kernel
theorem dX5_readStatement_56 : decode cX5_readStatement 56 = .ok (.aload_n 0, 1) := by decide +kernel
theorem dX5_readStatement_57 : decode cX5_readStatement 57 = .ok (.invokevirtual 105, 3) := by decide +kernel
theorem dX5_readStatement_60 : decode cX5_readStatement 60 = .ok (.ireturn, 1) := by decide +kernel
theorem dX5_readStatement_61 : decode cX5_readStatement 61 = .ok (.aload_n 0, 1) := by decide +kernel
theorem dX5_readStatement_62 : decode cX5_readStatement 62 = .ok (.ldc 108, 2) := by decide +kernel
theorem dX5_readStatement_64 : decode cX5_readStatement 64 = .ok (.invokevirtual 68, 3) := by decide +kernel
theorem dX5_readStatement_67 : decode cX5_readStatement 67 = .ok (.ifCond .eq 9, 3) := by decide +kernel
theorem dX5_readStatement_70 : decode cX5_readStatement 70 = .ok (.aload_n 0, 1) := by decide +kernel
theorem dX5_readStatement_71 : decode cX5_readStatement 71 = .ok (.iload_n 1, 1) := by decide +kernel
theorem dX5_readStatement_72 : decode cX5_readStatement 72 = .ok (.invokevirtual 110, 3) := by decide +kernel
theorem dX5_readStatement_75 : decode cX5_readStatement 75 = .ok (.ireturn, 1) := by decide +kernel
theorem dX5_readStatement_76 : decode cX5_readStatement 76 = .ok (.aload_n 0, 1) := by decide +kernel
theorem dX5_readStatement_77 : decode cX5_readStatement 77 = .ok (.ldc 114, 2) := by decide +kernel
theorem dX5_readStatement_79 : decode cX5_readStatement 79 = .ok (.invokevirtual 68, 3) := by decide +kernel
theorem dX5_readStatement_82 : decode cX5_readStatement 82 = .ok (.ifCond .eq 8, 3) := by decide +kernel
theorem dX5_readStatement_85 : decode cX5_readStatement 85 = .ok (.aload_n 0, 1) := by decide +kernel
theorem dX5_readStatement_86 : decode cX5_readStatement 86 = .ok (.invokevirtual 116, 3) := by decide +kernel
theorem dX5_readStatement_89 : decode cX5_readStatement 89 = .ok (.ireturn, 1) := by decide +kernel
theorem dX5_readStatement_90 : decode cX5_readStatement 90 = .ok (.aload_n 0, 1) := by decide +kernel
theorem dX5_readStatement_91 : decode cX5_readStatement 91 = .ok (.ldc 119, 2) := by decide +kernel
theorem dX5_readStatement_93 : decode cX5_readStatement 93 = .ok (.invokevirtual 68, 3) := by decide +kernel
theorem dX5_readStatement_96 : decode cX5_readStatement 96 = .ok (.ifCond .eq 8, 3) := by decide +kernel
theorem dX5_readStatement_99 : decode cX5_readStatement 99 = .ok (.aload_n 0, 1) := by decide +kernel
theorem dX5_readStatement_100 : decode cX5_readStatement 100 = .ok (.invokevirtual 121, 3) := by decide +kernel
theorem dX5_readStatement_103 : decode cX5_readStatement 103 = .ok (.ireturn, 1) := by decide +kernel
theorem dX5_readStatement_104 : decode cX5_readStatement 104 = .ok (.aload_n 0, 1) := by decide +kernel
theorem dX5_readStatement_105 : decode cX5_readStatement 105 = .ok (.ldc 124, 2) := by decide +kernel
theorem dX5_readStatement_107 : decode cX5_readStatement 107 = .ok (.invokevirtual 68, 3) := by decide +kernel
theorem dX5_readStatement_110 : decode cX5_readStatement 110 = .ok (.ifCond .eq 8, 3) := by decide +kernel
theorem dX5_readStatement_113 : decode cX5_readStatement 113 = .ok (.aload_n 0, 1) := by decide +kernel
theorem dX5_readStatement_114 : decode cX5_readStatement 114 = .ok (.invokevirtual 126, 3) := by decide +kernel
theorem dX5_readStatement_117 : decode cX5_readStatement 117 = .ok (.ireturn, 1) := by decide +kernel
theorem dX5_readStatement_118 : decode cX5_readStatement 118 = .ok (.aload_n 0, 1) := by decide +kernel
theorem dX5_readStatement_119 : decode cX5_readStatement 119 = .ok (.ldc 129, 2) := by decide +kernel
theorem dX5_readStatement_121 : decode cX5_readStatement 121 = .ok (.invokevirtual 68, 3) := by decide +kernel
theorem dX5_readStatement_124 : decode cX5_readStatement 124 = .ok (.ifCond .eq 9, 3) := by decide +kernel
theorem dX5_readStatement_127 : decode cX5_readStatement 127 = .ok (.aload_n 0, 1) := by decide +kernel
theorem dX5_readStatement_128 : decode cX5_readStatement 128 = .ok (.iload_n 1, 1) := by decide +kernel
theorem dX5_readStatement_129 : decode cX5_readStatement 129 = .ok (.invokevirtual 131, 3) := by decide +kernel
theorem dX5_readStatement_132 : decode cX5_readStatement 132 = .ok (.ireturn, 1) := by decide +kernel
theorem dX5_readStatement_133 : decode cX5_readStatement 133 = .ok (.aload_n 0, 1) := by decide +kernel
theorem dX5_readStatement_134 : decode cX5_readStatement 134 = .ok (.bipush (-2), 2) := by decide +kernel
theorem dX5_readStatement_136 : decode cX5_readStatement 136 = .ok (.iload_n 1, 1) := by decide +kernel
theorem dX5_readStatement_137 : decode cX5_readStatement 137 = .ok (.invokevirtual 72, 3) := by decide +kernel
theorem dX5_readStatement_140 : decode cX5_readStatement 140 = .ok (.ireturn, 1) := by decide +kernel
theorem dX5_readWeight_0 : decode cX5_readWeight 0 = .ok (.aload_n 0, 1) := by decide +kernel
theorem dX5_readWeight_1 : decode cX5_readWeight 1 = .ok (.iconst 0, 1) := by decide +kernel
theorem dX5_readWeight_2 : decode cX5_readWeight 2 = .ok (.aload_n 0, 1) := by decide +kernel
theorem dX5_readWeight_3 : decode cX5_readWeight 3 = .ok (.getfield 35, 3) := by decide +kernel
theorem dX5_readWeight_6 : decode cX5_readWeight 6 = .ok (.getfield 134, 3) := by decide +kernel
theorem dX5_readWeight_9 : decode cX5_readWeight 9 = .ok (.iconst 1, 1) := by decide +kernel
theorem dX5_readWeight_10 : decode cX5_readWeight 10 = .ok (.isub, 1) := by decide +kernel
theorem dX5_readWeight_11 : decode cX5_readWeight 11 = .ok (.invokevirtual 76, 3) := by decide +kernel
theorem dX5_readWeight_14 : decode cX5_readWeight 14 = .ok (.ifCond .ne 5, 3) := by decide +kernel
theorem dX5_readWeight_17 : decode cX5_readWeight 17 = .ok (.iconst 0, 1) := by decide +kernel
theorem dX5_readWeight_18 : decode cX5_readWeight 18 = .ok (.ireturn, 1) := by decide +kernel
theorem dX5_readWeight_19 : decode cX5_readWeight 19 = .ok (.aload_n 0, 1) := by decide +kernel
theorem dX5_readWeight_20 : decode cX5_readWeight 20 = .ok (.getfield 79, 3) := by decide +kernel
theorem dX5_readWeight_23 : decode cX5_readWeight 23 = .ok (.istore_n 1, 1) := by decide +kernel
theorem dX5_readWeight_24 : decode cX5_readWeight 24 = .ok (.aload_n 0, 1) := by decide +kernel
theorem dX5_readWeight_25 : decode cX5_readWeight 25 = .ok (.iconst 1, 1) := by decide +kernel
theorem dX5_readWeight_26 : decode cX5_readWeight 26 = .ok (.bipush 99, 2) := by decide +kernel
theorem dX5_readWeight_28 : decode cX5_readWeight 28 = .ok (.invokevirtual 76, 3) := by decide +kernel
theorem dX5_readWeight_31 : decode cX5_readWeight 31 = .ok (.ifCond .ne 5, 3) := by decide +kernel
theorem dX5_readWeight_34 : decode cX5_readWeight 34 = .ok (.iconst 0, 1) := by decide +kernel
theorem dX5_readWeight_35 : decode cX5_readWeight 35 = .ok (.ireturn, 1) := by decide +kernel
theorem dX5_readWeight_36 : decode cX5_readWeight 36 = .ok (.aload_n 0, 1) := by decide +kernel
theorem dX5_readWeight_37 : decode cX5_readWeight 37 = .ok (.getfield 35, 3) := by decide +kernel
theorem dX5_readWeight_40 : decode cX5_readWeight 40 = .ok (.iload_n 1, 1) := by decide +kernel
theorem dX5_readWeight_41 : decode cX5_readWeight 41 = .ok (.aload_n 0, 1) := by decide +kernel
theorem dX5_readWeight_42 : decode cX5_readWeight 42 = .ok (.getfield 79, 3) := by decide +kernel
theorem dX5_readWeight_45 : decode cX5_readWeight 45 = .ok (.invokevirtual 136, 3) := by decide +kernel
theorem dX5_readWeight_48 : decode cX5_readWeight 48 = .ok (.iconst 1, 1) := by decide +kernel
theorem dX5_readWeight_49 : decode cX5_readWeight 49 = .ok (.ireturn, 1) := by decide +kernel
theorem dX5_readAllWeights_0 : decode cX5_readAllWeights 0 = .ok (.aload_n 0, 1) := by decide +kernel
theorem dX5_readAllWeights_1 : decode cX5_readAllWeights 1 = .ok (.iconst 1, 1) := by decide +kernel
theorem dX5_readAllWeights_2 : decode cX5_readAllWeights 2 = .ok (.bipush 99, 2) := by decide +kernel
theorem dX5_readAllWeights_4 : decode cX5_readAllWeights 4 = .ok (.invokevirtual 76, 3) := by decide +kernel
theorem dX5_readAllWeights_7 : decode cX5_readAllWeights 7 = .ok (.ifCond .ne 5, 3) := by decide +kernel
theorem dX5_readAllWeights_10 : decode cX5_readAllWeights 10 = .ok (.iconst 0, 1) := by decide +kernel
theorem dX5_readAllWeights_11 : decode cX5_readAllWeights 11 = .ok (.ireturn, 1) := by decide +kernel
theorem dX5_readAllWeights_12 : decode cX5_readAllWeights 12 = .ok (.aload_n 0, 1) := by decide +kernel
theorem dX5_readAllWeights_13 : decode cX5_readAllWeights 13 = .ok (.getfield 35, 3) := by decide +kernel
theorem dX5_readAllWeights_16 : decode cX5_readAllWeights 16 = .ok (.aload_n 0, 1) := by decide +kernel
theorem dX5_readAllWeights_17 : decode cX5_readAllWeights 17 = .ok (.getfield 79, 3) := by decide +kernel
theorem dX5_readAllWeights_20 : decode cX5_readAllWeights 20 = .ok (.invokevirtual 140, 3) := by decide +kernel
theorem dX5_readAllWeights_23 : decode cX5_readAllWeights 23 = .ok (.iconst 1, 1) := by decide +kernel
theorem dX5_readAllWeights_24 : decode cX5_readAllWeights 24 = .ok (.ireturn, 1) := by decide +kernel
theorem dX5_readSpring_0 : decode cX5_readSpring 0 = .ok (.aload_n 0, 1) := by decide +kernel
theorem dX5_readSpring_1 : decode cX5_readSpring 1 = .ok (.iconst 0, 1) := by decide +kernel
theorem dX5_readSpring_2 : decode cX5_readSpring 2 = .ok (.aload_n 0, 1) := by decide +kernel
theorem dX5_readSpring_3 : decode cX5_readSpring 3 = .ok (.getfield 35, 3) := by decide +kernel
theorem dX5_readSpring_6 : decode cX5_readSpring 6 = .ok (.getfield 134, 3) := by decide +kernel
theorem dX5_readSpring_9 : decode cX5_readSpring 9 = .ok (.invokevirtual 76, 3) := by decide +kernel
theorem dX5_readSpring_12 : decode cX5_readSpring 12 = .ok (.ifCond .ne 5, 3) := by decide +kernel
theorem dX5_readSpring_15 : decode cX5_readSpring 15 = .ok (.iconst 0, 1) := by decide +kernel
theorem dX5_readSpring_16 : decode cX5_readSpring 16 = .ok (.ireturn, 1) := by decide +kernel
theorem dX5_readSpring_17 : decode cX5_readSpring 17 = .ok (.aload_n 0, 1) := by decide +kernel
theorem dX5_readSpring_18 : decode cX5_readSpring 18 = .ok (.getfield 79, 3) := by decide +kernel
theorem dX5_readSpring_21 : decode cX5_readSpring 21 = .ok (.istore_n 1, 1) := by decide +kernel
theorem dX5_readSpring_22 : decode cX5_readSpring 22 = .ok (.aload_n 0, 1) := by decide +kernel
theorem dX5_readSpring_23 : decode cX5_readSpring 23 = .ok (.iconst 0, 1) := by decide +kernel
theorem dX5_readSpring_24 : decode cX5_readSpring 24 = .ok (.sipush 999, 3) := by decide +kernel
theorem dX5_readSpring_27 : decode cX5_readSpring 27 = .ok (.invokevirtual 76, 3) := by decide +kernel
theorem dX5_readSpring_30 : decode cX5_readSpring 30 = .ok (.ifCond .ne 5, 3) := by decide +kernel
theorem dX5_readSpring_33 : decode cX5_readSpring 33 = .ok (.iconst 0, 1) := by decide +kernel
theorem dX5_readSpring_34 : decode cX5_readSpring 34 = .ok (.ireturn, 1) := by decide +kernel
theorem dX5_readSpring_35 : decode cX5_readSpring 35 = .ok (.aload_n 0, 1) := by decide +kernel
theorem dX5_readSpring_36 : decode cX5_readSpring 36 = .ok (.getfield 35, 3) := by decide +kernel
theorem dX5_readSpring_39 : decode cX5_readSpring 39 = .ok (.iload_n 1, 1) := by decide +kernel
theorem dX5_readSpring_40 : decode cX5_readSpring 40 = .ok (.aload_n 0, 1) := by decide +kernel
theorem dX5_readSpring_41 : decode cX5_readSpring 41 = .ok (.getfield 79, 3) := by decide +kernel
theorem dX5_readSpring_44 : decode cX5_readSpring 44 = .ok (.invokevirtual 143, 3) := by decide +kernel
theorem dX5_readSpring_47 : decode cX5_readSpring 47 = .ok (.aload_n 0, 1) := by decide +kernel
theorem dX5_readSpring_48 : decode cX5_readSpring 48 = .ok (.getfield 35, 3) := by decide +kernel
theorem dX5_readSpring_51 : decode cX5_readSpring 51 = .ok (.iload_n 1, 1) := by decide +kernel
theorem dX5_readSpring_52 : decode cX5_readSpring 52 = .ok (.iconst 0, 1) := by decide +kernel
theorem dX5_readSpring_53 : decode cX5_readSpring 53 = .ok (.invokevirtual 146, 3) := by decide +kernel
theorem dX5_readSpring_56 : decode cX5_readSpring 56 = .ok (.aload_n 0, 1) := by decide +kernel
theorem dX5_readSpring_57 : decode cX5_readSpring 57 = .ok (.ldc 149, 2) := by decide +kernel
theorem dX5_readSpring_59 : decode cX5_readSpring 59 = .ok (.invokevirtual 68, 3) := by decide +kernel
theorem dX5_readSpring_62 : decode cX5_readSpring 62 = .ok (.ifCond .eq 27, 3) := by decide +kernel
theorem dX5_readSpring_65 : decode cX5_readSpring 65 = .ok (.aload_n 0, 1) := by decide +kernel
theorem dX5_readSpring_66 : decode cX5_readSpring 66 = .ok (.iconst 0, 1) := by decide +kernel
theorem dX5_readSpring_67 : decode cX5_readSpring 67 = .ok (.ldc 151, 2) := by decide +kernel
theorem dX5_readSpring_69 : decode cX5_readSpring 69 = .ok (.invokevirtual 76, 3) := by decide +kernel
theorem dX5_readSpring_72 : decode cX5_readSpring 72 = .ok (.ifCond .ne 5, 3) := by decide +kernel
theorem dX5_readSpring_75 : decode cX5_readSpring 75 = .ok (.iconst 0, 1) := by decide +kernel
theorem dX5_readSpring_76 : decode cX5_readSpring 76 = .ok (.ireturn, 1) := by decide +kernel
theorem dX5_readSpring_77 : decode cX5_readSpring 77 = .ok (.aload_n 0, 1) := by decide +kernel
theorem dX5_readSpring_78 : decode cX5_readSpring 78 = .ok (.getfield 35, 3) := by decide +kernel
theorem dX5_readSpring_81 : decode cX5_readSpring 81 = .ok (.iload_n 1, 1) := by decide +kernel
theorem dX5_readSpring_82 : decode cX5_readSpring 82 = .ok (.aload_n 0, 1) := by decide +kernel
theorem dX5_readSpring_83 : decode cX5_readSpring 83 = .ok (.getfield 79, 3) := by decide +kernel
theorem dX5_readSpring_86 : decode cX5_readSpring 86 = .ok (.invokevirtual 146, 3) := by decide +kernel
theorem dX5_readSpring_89 : decode cX5_readSpring 89 = .ok (.iconst 1, 1) := by decide +kernel
theorem dX5_readSpring_90 : decode cX5_readSpring 90 = .ok (.ireturn, 1) := by decide +kernel
theorem dX5_readAllStiffnesses_0 : decode cX5_readAllStiffnesses 0 = .ok (.aload_n 0, 1) := by decide +kernel
theorem dX5_readAllStiffnesses_1 : decode cX5_readAllStiffnesses 1 = .ok (.iconst 0, 1) := by decide +kernel
theorem dX5_readAllStiffnesses_2 : decode cX5_readAllStiffnesses 2 = .ok (.sipush 999, 3) := by decide +kernel
theorem dX5_readAllStiffnesses_5 : decode cX5_readAllStiffnesses 5 = .ok (.invokevirtual 76, 3) := by decide +kernel
theorem dX5_readAllStiffnesses_8 : decode cX5_readAllStiffnesses 8 = .ok (.ifCond .ne 5, 3) := by decide +kernel
theorem dX5_readAllStiffnesses_11 : decode cX5_readAllStiffnesses 11 = .ok (.iconst 0, 1) := by decide +kernel
theorem dX5_readAllStiffnesses_12 : decode cX5_readAllStiffnesses 12 = .ok (.ireturn, 1) := by decide +kernel
theorem dX5_readAllStiffnesses_13 : decode cX5_readAllStiffnesses 13 = .ok (.aload_n 0, 1) := by decide +kernel
theorem dX5_readAllStiffnesses_14 : decode cX5_readAllStiffnesses 14 = .ok (.getfield 35, 3) := by decide +kernel
theorem dX5_readAllStiffnesses_17 : decode cX5_readAllStiffnesses 17 = .ok (.aload_n 0, 1) := by decide +kernel
theorem dX5_readAllStiffnesses_18 : decode cX5_readAllStiffnesses 18 = .ok (.getfield 79, 3) := by decide +kernel
theorem dX5_readAllStiffnesses_21 : decode cX5_readAllStiffnesses 21 = .ok (.invokevirtual 152, 3) := by decide +kernel
theorem dX5_readAllStiffnesses_24 : decode cX5_readAllStiffnesses 24 = .ok (.iconst 1, 1) := by decide +kernel
theorem dX5_readAllStiffnesses_25 : decode cX5_readAllStiffnesses 25 = .ok (.ireturn, 1) := by decide +kernel
theorem dX5_readDamping_0 : decode cX5_readDamping 0 = .ok (.aload_n 0, 1) := by decide +kernel
theorem dX5_readDamping_1 : decode cX5_readDamping 1 = .ok (.getfield 45, 3) := by decide +kernel
theorem dX5_readDamping_4 : decode cX5_readDamping 4 = .ok (.ifCond .eq 11, 3) := by decide +kernel
theorem dX5_readDamping_7 : decode cX5_readDamping 7 = .ok (.aload_n 0, 1) := by decide +kernel
theorem dX5_readDamping_8 : decode cX5_readDamping 8 = .ok (.bipush (-2), 2) := by decide +kernel
theorem dX5_readDamping_10 : decode cX5_readDamping 10 = .ok (.iload_n 1, 1) := by decide +kernel
theorem dX5_readDamping_11 : decode cX5_readDamping 11 = .ok (.invokevirtual 72, 3) := by decide +kernel
theorem dX5_readDamping_14 : decode cX5_readDamping 14 = .ok (.ireturn, 1) := by decide +kernel
theorem dX5_readDamping_15 : decode cX5_readDamping 15 = .ok (.aload_n 0, 1) := by decide +kernel
theorem dX5_readDamping_16 : decode cX5_readDamping 16 = .ok (.iconst 1, 1) := by decide +kernel
theorem dX5_readDamping_17 : decode cX5_readDamping 17 = .ok (.putfield 45, 3) := by decide +kernel
theorem dX5_readDamping_20 : decode cX5_readDamping 20 = .ok (.aload_n 0, 1) := by decide +kernel
theorem dX5_readDamping_21 : decode cX5_readDamping 21 = .ok (.iconst 0, 1) := by decide +kernel
theorem dX5_readDamping_22 : decode cX5_readDamping 22 = .ok (.sipush 999, 3) := by decide +kernel
theorem dX5_readDamping_25 : decode cX5_readDamping 25 = .ok (.invokevirtual 76, 3) := by decide +kernel
theorem dX5_readDamping_28 : decode cX5_readDamping 28 = .ok (.ifCond .ne 5, 3) := by decide +kernel
theorem dX5_readDamping_31 : decode cX5_readDamping 31 = .ok (.iconst 0, 1) := by decide +kernel
theorem dX5_readDamping_32 : decode cX5_readDamping 32 = .ok (.ireturn, 1) := by decide +kernel
theorem dX5_readDamping_33 : decode cX5_readDamping 33 = .ok (.aload_n 0, 1) := by decide +kernel
theorem dX5_readDamping_34 : decode cX5_readDamping 34 = .ok (.getfield 35, 3) := by decide +kernel
theorem dX5_readDamping_37 : decode cX5_readDamping 37 = .ok (.aload_n 0, 1) := by decide +kernel
theorem dX5_readDamping_38 : decode cX5_readDamping 38 = .ok (.getfield 79, 3) := by decide +kernel
theorem dX5_readDamping_41 : decode cX5_readDamping 41 = .ok (.putfield 155, 3) := by decide +kernel
theorem dX5_readDamping_44 : decode cX5_readDamping 44 = .ok (.iconst 1, 1) := by decide +kernel
theorem dX5_readDamping_45 : decode cX5_readDamping 45 = .ok (.ireturn, 1) := by decide +kernel
theorem dX5_readPluck_0 : decode cX5_readPluck 0 = .ok (.aload_n 0, 1) := by decide +kernel
theorem dX5_readPluck_1 : decode cX5_readPluck 1 = .ok (.invokevirtual 63, 3) := by decide +kernel
theorem dX5_readPluck_4 : decode cX5_readPluck 4 = .ok (.aload_n 0, 1) := by decide +kernel
theorem dX5_readPluck_5 : decode cX5_readPluck 5 = .ok (.getfield 39, 3) := by decide +kernel
theorem dX5_readPluck_8 : decode cX5_readPluck 8 = .ok (.istore_n 1, 1) := by decide +kernel
theorem dX5_readPluck_9 : decode cX5_readPluck 9 = .ok (.aload_n 0, 1) := by decide +kernel
theorem dX5_readPluck_10 : decode cX5_readPluck 10 = .ok (.iconst 0, 1) := by decide +kernel
theorem dX5_readPluck_11 : decode cX5_readPluck 11 = .ok (.aload_n 0, 1) := by decide +kernel
theorem dX5_readPluck_12 : decode cX5_readPluck 12 = .ok (.getfield 35, 3) := by decide +kernel
theorem dX5_readPluck_15 : decode cX5_readPluck 15 = .ok (.getfield 134, 3) := by decide +kernel
theorem dX5_readPluck_18 : decode cX5_readPluck 18 = .ok (.iconst 1, 1) := by decide +kernel
theorem dX5_readPluck_19 : decode cX5_readPluck 19 = .ok (.isub, 1) := by decide +kernel
theorem dX5_readPluck_20 : decode cX5_readPluck 20 = .ok (.invokevirtual 76, 3) := by decide +kernel
theorem dX5_readPluck_23 : decode cX5_readPluck 23 = .ok (.ifCond .eq 15, 3) := by decide +kernel
theorem dX5_readPluck_26 : decode cX5_readPluck 26 = .ok (.aload_n 0, 1) := by decide +kernel
theorem dX5_readPluck_27 : decode cX5_readPluck 27 = .ok (.aload_n 0, 1) := by decide +kernel
theorem dX5_readPluck_28 : decode cX5_readPluck 28 = .ok (.getfield 9, 3) := by decide +kernel
theorem dX5_readPluck_31 : decode cX5_readPluck 31 = .ok (.iload_n 1, 1) := by decide +kernel
theorem dX5_readPluck_32 : decode cX5_readPluck 32 = .ok (.invokevirtual 158, 3) := by decide +kernel
theorem dX5_readPluck_35 : decode cX5_readPluck 35 = .ok (.ifCond .ne 5, 3) := by decide +kernel
theorem dX5_readPluck_38 : decode cX5_readPluck 38 = .ok (.iconst 0, 1) := by decide +kernel
theorem dX5_readPluck_39 : decode cX5_readPluck 39 = .ok (.ireturn, 1) := by decide +kernel
theorem dX5_readPluck_40 : decode cX5_readPluck 40 = .ok (.aload_n 0, 1) := by decide +kernel
theorem dX5_readPluck_41 : decode cX5_readPluck 41 = .ok (.getfield 79, 3) := by decide +kernel
theorem dX5_readPluck_44 : decode cX5_readPluck 44 = .ok (.istore_n 2, 1) := by decide +kernel
theorem dX5_readPluck_45 : decode cX5_readPluck 45 = .ok (.aload_n 0, 1) := by decide +kernel
theorem dX5_readPluck_46 : decode cX5_readPluck 46 = .ok (.sipush 10000, 3) := by decide +kernel
theorem dX5_readPluck_49 : decode cX5_readPluck 49 = .ok (.invokevirtual 162, 3) := by decide +kernel
theorem dX5_readPluck_52 : decode cX5_readPluck 52 = .ok (.ifCond .ne 5, 3) := by decide +kernel
theorem dX5_readPluck_55 : decode cX5_readPluck 55 = .ok (.iconst 0, 1) := by decide +kernel
theorem dX5_readPluck_56 : decode cX5_readPluck 56 = .ok (.ireturn, 1) := by decide +kernel
theorem dX5_readPluck_57 : decode cX5_readPluck 57 = .ok (.aload_n 0, 1) := by decide +kernel
theorem dX5_readPluck_58 : decode cX5_readPluck 58 = .ok (.getfield 35, 3) := by decide +kernel
theorem dX5_readPluck_61 : decode cX5_readPluck 61 = .ok (.iload_n 2, 1) := by decide +kernel
theorem dX5_readPluck_62 : decode cX5_readPluck 62 = .ok (.aload_n 0, 1) := by decide +kernel
theorem dX5_readPluck_63 : decode cX5_readPluck 63 = .ok (.getfield 79, 3) := by decide +kernel
theorem dX5_readPluck_66 : decode cX5_readPluck 66 = .ok (.invokevirtual 165, 3) := by decide +kernel
theorem dX5_readPluck_69 : decode cX5_readPluck 69 = .ok (.iconst 1, 1) := by decide +kernel
theorem dX5_readPluck_70 : decode cX5_readPluck 70 = .ok (.ireturn, 1) := by decide +kernel
theorem dX5_readStrike_0 : decode cX5_readStrike 0 = .ok (.aload_n 0, 1) := by decide +kernel
theorem dX5_readStrike_1 : decode cX5_readStrike 1 = .ok (.invokevirtual 63, 3) := by decide +kernel
theorem dX5_readStrike_4 : decode cX5_readStrike 4 = .ok (.aload_n 0, 1) := by decide +kernel
theorem dX5_readStrike_5 : decode cX5_readStrike 5 = .ok (.getfield 39, 3) := by decide +kernel
theorem dX5_readStrike_8 : decode cX5_readStrike 8 = .ok (.istore_n 1, 1) := by decide +kernel
theorem dX5_readStrike_9 : decode cX5_readStrike 9 = .ok (.aload_n 0, 1) := by decide +kernel
theorem dX5_readStrike_10 : decode cX5_readStrike 10 = .ok (.iconst 0, 1) := by decide +kernel
theorem dX5_readStrike_11 : decode cX5_readStrike 11 = .ok (.aload_n 0, 1) := by decide +kernel
theorem dX5_readStrike_12 : decode cX5_readStrike 12 = .ok (.getfield 35, 3) := by decide +kernel
theorem dX5_readStrike_15 : decode cX5_readStrike 15 = .ok (.getfield 134, 3) := by decide +kernel
theorem dX5_readStrike_18 : decode cX5_readStrike 18 = .ok (.iconst 1, 1) := by decide +kernel
theorem dX5_readStrike_19 : decode cX5_readStrike 19 = .ok (.isub, 1) := by decide +kernel
theorem dX5_readStrike_20 : decode cX5_readStrike 20 = .ok (.invokevirtual 76, 3) := by decide +kernel
theorem dX5_readStrike_23 : decode cX5_readStrike 23 = .ok (.ifCond .eq 15, 3) := by decide +kernel
theorem dX5_readStrike_26 : decode cX5_readStrike 26 = .ok (.aload_n 0, 1) := by decide +kernel
theorem dX5_readStrike_27 : decode cX5_readStrike 27 = .ok (.aload_n 0, 1) := by decide +kernel
theorem dX5_readStrike_28 : decode cX5_readStrike 28 = .ok (.getfield 15, 3) := by decide +kernel
theorem dX5_readStrike_31 : decode cX5_readStrike 31 = .ok (.iload_n 1, 1) := by decide +kernel
theorem dX5_readStrike_32 : decode cX5_readStrike 32 = .ok (.invokevirtual 158, 3) := by decide +kernel
theorem dX5_readStrike_35 : decode cX5_readStrike 35 = .ok (.ifCond .ne 5, 3) := by decide +kernel
theorem dX5_readStrike_38 : decode cX5_readStrike 38 = .ok (.iconst 0, 1) := by decide +kernel
theorem dX5_readStrike_39 : decode cX5_readStrike 39 = .ok (.ireturn, 1) := by decide +kernel
theorem dX5_readStrike_40 : decode cX5_readStrike 40 = .ok (.aload_n 0, 1) := by decide +kernel
theorem dX5_readStrike_41 : decode cX5_readStrike 41 = .ok (.getfield 79, 3) := by decide +kernel
theorem dX5_readStrike_44 : decode cX5_readStrike 44 = .ok (.istore_n 2, 1) := by decide +kernel
theorem dX5_readStrike_45 : decode cX5_readStrike 45 = .ok (.aload_n 0, 1) := by decide +kernel
theorem dX5_readStrike_46 : decode cX5_readStrike 46 = .ok (.ldc 168, 2) := by decide +kernel
theorem dX5_readStrike_48 : decode cX5_readStrike 48 = .ok (.invokevirtual 162, 3) := by decide +kernel
theorem dX5_readStrike_51 : decode cX5_readStrike 51 = .ok (.ifCond .ne 5, 3) := by decide +kernel
theorem dX5_readStrike_54 : decode cX5_readStrike 54 = .ok (.iconst 0, 1) := by decide +kernel
theorem dX5_readStrike_55 : decode cX5_readStrike 55 = .ok (.ireturn, 1) := by decide +kernel
theorem dX5_readStrike_56 : decode cX5_readStrike 56 = .ok (.aload_n 0, 1) := by decide +kernel
theorem dX5_readStrike_57 : decode cX5_readStrike 57 = .ok (.getfield 35, 3) := by decide +kernel
theorem dX5_readStrike_60 : decode cX5_readStrike 60 = .ok (.iload_n 2, 1) := by decide +kernel
theorem dX5_readStrike_61 : decode cX5_readStrike 61 = .ok (.aload_n 0, 1) := by decide +kernel
theorem dX5_readStrike_62 : decode cX5_readStrike 62 = .ok (.getfield 79, 3) := by decide +kernel
theorem dX5_readStrike_65 : decode cX5_readStrike 65 = .ok (.invokevirtual 169, 3) := by decide +kernel
theorem dX5_readStrike_68 : decode cX5_readStrike 68 = .ok (.iconst 1, 1) := by decide +kernel
theorem dX5_readStrike_69 : decode cX5_readStrike 69 = .ok (.ireturn, 1) := by decide +kernel
theorem dX5_readEnd_0 : decode cX5_readEnd 0 = .ok (.aload_n 0, 1) := by decide +kernel
theorem dX5_readEnd_1 : decode cX5_readEnd 1 = .ok (.ldc 172, 2) := by decide +kernel
theorem dX5_readEnd_3 : decode cX5_readEnd 3 = .ok (.invokevirtual 68, 3) := by decide +kernel
theorem dX5_readEnd_6 : decode cX5_readEnd 6 = .ok (.istore_n 1, 1) := by decide +kernel
theorem dX5_readEnd_7 : decode cX5_readEnd 7 = .ok (.iload_n 1, 1) := by decide +kernel
theorem dX5_readEnd_8 : decode cX5_readEnd 8 = .ok (.ifCond .ne 23, 3) := by decide +kernel
theorem dX5_readEnd_11 : decode cX5_readEnd 11 = .ok (.aload_n 0, 1) := by decide +kernel
theorem dX5_readEnd_12 : decode cX5_readEnd 12 = .ok (.ldc 174, 2) := by decide +kernel
theorem dX5_readEnd_14 : decode cX5_readEnd 14 = .ok (.invokevirtual 68, 3) := by decide +kernel
theorem dX5_readEnd_17 : decode cX5_readEnd 17 = .ok (.ifCond .ne 14, 3) := by decide +kernel
theorem dX5_readEnd_20 : decode cX5_readEnd 20 = .ok (.aload_n 0, 1) := by decide +kernel
theorem dX5_readEnd_21 : decode cX5_readEnd 21 = .ok (.bipush (-2), 2) := by decide +kernel
