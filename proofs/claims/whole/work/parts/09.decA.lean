theorem dX0_init_0 : decode cX0_init 0 = .ok (.aload_n 0, 1) := by decide +kernel
theorem dX0_init_1 : decode cX0_init 1 = .ok (.invokespecial 3, 3) := by decide +kernel
theorem dX0_init_4 : decode cX0_init 4 = .ok (.aload_n 0, 1) := by decide +kernel
theorem dX0_init_5 : decode cX0_init 5 = .ok (.bipush 20, 2) := by decide +kernel
theorem dX0_init_7 : decode cX0_init 7 = .ok (.newarray .int, 2) := by decide +kernel
theorem dX0_init_9 : decode cX0_init 9 = .ok (.putfield 9, 3) := by decide +kernel
theorem dX0_init_12 : decode cX0_init 12 = .ok (.aload_n 0, 1) := by decide +kernel
theorem dX0_init_13 : decode cX0_init 13 = .ok (.iconst 0, 1) := by decide +kernel
theorem dX0_init_14 : decode cX0_init 14 = .ok (.putfield 15, 3) := by decide +kernel
theorem dX0_init_17 : decode cX0_init 17 = .ok (.aload_n 0, 1) := by decide +kernel
theorem dX0_init_18 : decode cX0_init 18 = .ok (.ldc 19, 2) := by decide +kernel
theorem dX0_init_20 : decode cX0_init 20 = .ok (.putfield 20, 3) := by decide +kernel
theorem dX0_init_23 : decode cX0_init 23 = .ok (.aload_n 0, 1) := by decide +kernel
theorem dX0_init_24 : decode cX0_init 24 = .ok (.iconst 0, 1) := by decide +kernel
theorem dX0_init_25 : decode cX0_init 25 = .ok (.putfield 23, 3) := by decide +kernel
theorem dX0_init_28 : decode cX0_init 28 = .ok (.aload_n 0, 1) := by decide +kernel
theorem dX0_init_29 : decode cX0_init 29 = .ok (.bipush 6, 2) := by decide +kernel
theorem dX0_init_31 : decode cX0_init 31 = .ok (.newarray .int, 2) := by decide +kernel
theorem dX0_init_33 : decode cX0_init 33 = .ok (.putfield 26, 3) := by decide +kernel
theorem dX0_init_36 : decode cX0_init 36 = .ok (.aload_n 0, 1) := by decide +kernel
theorem dX0_init_37 : decode cX0_init 37 = .ok (.bipush 6, 2) := by decide +kernel
theorem dX0_init_39 : decode cX0_init 39 = .ok (.newarray .int, 2) := by decide +kernel
theorem dX0_init_41 : decode cX0_init 41 = .ok (.putfield 29, 3) := by decide +kernel
theorem dX0_init_44 : decode cX0_init 44 = .ok (.aload_n 0, 1) := by decide +kernel
theorem dX0_init_45 : decode cX0_init 45 = .ok (.bipush 6, 2) := by decide +kernel
theorem dX0_init_47 : decode cX0_init 47 = .ok (.newarray .int, 2) := by decide +kernel
theorem dX0_init_49 : decode cX0_init 49 = .ok (.putfield 32, 3) := by decide +kernel
theorem dX0_init_52 : decode cX0_init 52 = .ok (.aload_n 0, 1) := by decide +kernel
theorem dX0_init_53 : decode cX0_init 53 = .ok (.bipush 6, 2) := by decide +kernel
theorem dX0_init_55 : decode cX0_init 55 = .ok (.newarray .int, 2) := by decide +kernel
theorem dX0_init_57 : decode cX0_init 57 = .ok (.putfield 35, 3) := by decide +kernel
theorem dX0_init_60 : decode cX0_init 60 = .ok (.aload_n 0, 1) := by decide +kernel
theorem dX0_init_61 : decode cX0_init 61 = .ok (.bipush 6, 2) := by decide +kernel
theorem dX0_init_63 : decode cX0_init 63 = .ok (.newarray .int, 2) := by decide +kernel
theorem dX0_init_65 : decode cX0_init 65 = .ok (.putfield 38, 3) := by decide +kernel
theorem dX0_init_68 : decode cX0_init 68 = .ok (.aload_n 0, 1) := by decide +kernel
theorem dX0_init_69 : decode cX0_init 69 = .ok (.iconst 0, 1) := by decide +kernel
theorem dX0_init_70 : decode cX0_init 70 = .ok (.putfield 41, 3) := by decide +kernel
theorem dX0_init_73 : decode cX0_init 73 = .ok (.aload_n 0, 1) := by decide +kernel
theorem dX0_init_74 : decode cX0_init 74 = .ok (.bipush 6, 2) := by decide +kernel
theorem dX0_init_76 : decode cX0_init 76 = .ok (.newarray .int, 2) := by decide +kernel
theorem dX0_init_78 : decode cX0_init 78 = .ok (.putfield 44, 3) := by decide +kernel
theorem dX0_init_81 : decode cX0_init 81 = .ok (.aload_n 0, 1) := by decide +kernel
theorem dX0_init_82 : decode cX0_init 82 = .ok (.bipush 6, 2) := by decide +kernel
theorem dX0_init_84 : decode cX0_init 84 = .ok (.newarray .int, 2) := by decide +kernel
theorem dX0_init_86 : decode cX0_init 86 = .ok (.putfield 47, 3) := by decide +kernel
theorem dX0_init_89 : decode cX0_init 89 = .ok (.aload_n 0, 1) := by decide +kernel
theorem dX0_init_90 : decode cX0_init 90 = .ok (.bipush 6, 2) := by decide +kernel
theorem dX0_init_92 : decode cX0_init 92 = .ok (.newarray .boolean, 2) := by decide +kernel
theorem dX0_init_94 : decode cX0_init 94 = .ok (.putfield 50, 3) := by decide +kernel
theorem dX0_init_97 : decode cX0_init 97 = .ok (.aload_n 0, 1) := by decide +kernel
theorem dX0_init_98 : decode cX0_init 98 = .ok (.iconst 0, 1) := by decide +kernel
theorem dX0_init_99 : decode cX0_init 99 = .ok (.putfield 54, 3) := by decide +kernel
theorem dX0_init_102 : decode cX0_init 102 = .ok (.aload_n 0, 1) := by decide +kernel
theorem dX0_init_103 : decode cX0_init 103 = .ok (.iconst 0, 1) := by decide +kernel
theorem dX0_init_104 : decode cX0_init 104 = .ok (.putfield 57, 3) := by decide +kernel
theorem dX0_init_107 : decode cX0_init 107 = .ok (.return_, 1) := by decide +kernel
theorem dX0_becomes_0 : decode cX0_becomes 0 = .ok (.aload_n 1, 1) := by decide +kernel
theorem dX0_becomes_1 : decode cX0_becomes 1 = .ok (.getfield 9, 3) := by decide +kernel
theorem dX0_becomes_4 : decode cX0_becomes 4 = .ok (.iconst 0, 1) := by decide +kernel
theorem dX0_becomes_5 : decode cX0_becomes 5 = .ok (.aload_n 0, 1) := by decide +kernel
theorem dX0_becomes_6 : decode cX0_becomes 6 = .ok (.getfield 9, 3) := by decide +kernel
theorem dX0_becomes_9 : decode cX0_becomes 9 = .ok (.iconst 0, 1) := by decide +kernel
theorem dX0_becomes_10 : decode cX0_becomes 10 = .ok (.bipush 20, 2) := by decide +kernel
theorem dX0_becomes_12 : decode cX0_becomes 12 = .ok (.invokestatic 61, 3) := by decide +kernel
theorem dX0_becomes_15 : decode cX0_becomes 15 = .ok (.aload_n 0, 1) := by decide +kernel
theorem dX0_becomes_16 : decode cX0_becomes 16 = .ok (.aload_n 1, 1) := by decide +kernel
theorem dX0_becomes_17 : decode cX0_becomes 17 = .ok (.getfield 15, 3) := by decide +kernel
theorem dX0_becomes_20 : decode cX0_becomes 20 = .ok (.putfield 15, 3) := by decide +kernel
theorem dX0_becomes_23 : decode cX0_becomes 23 = .ok (.aload_n 0, 1) := by decide +kernel
theorem dX0_becomes_24 : decode cX0_becomes 24 = .ok (.aload_n 1, 1) := by decide +kernel
theorem dX0_becomes_25 : decode cX0_becomes 25 = .ok (.getfield 20, 3) := by decide +kernel
theorem dX0_becomes_28 : decode cX0_becomes 28 = .ok (.putfield 20, 3) := by decide +kernel
theorem dX0_becomes_31 : decode cX0_becomes 31 = .ok (.aload_n 0, 1) := by decide +kernel
theorem dX0_becomes_32 : decode cX0_becomes 32 = .ok (.aload_n 1, 1) := by decide +kernel
theorem dX0_becomes_33 : decode cX0_becomes 33 = .ok (.getfield 23, 3) := by decide +kernel
theorem dX0_becomes_36 : decode cX0_becomes 36 = .ok (.putfield 23, 3) := by decide +kernel
theorem dX0_becomes_39 : decode cX0_becomes 39 = .ok (.aload_n 1, 1) := by decide +kernel
theorem dX0_becomes_40 : decode cX0_becomes 40 = .ok (.getfield 26, 3) := by decide +kernel
theorem dX0_becomes_43 : decode cX0_becomes 43 = .ok (.iconst 0, 1) := by decide +kernel
theorem dX0_becomes_44 : decode cX0_becomes 44 = .ok (.aload_n 0, 1) := by decide +kernel
theorem dX0_becomes_45 : decode cX0_becomes 45 = .ok (.getfield 26, 3) := by decide +kernel
theorem dX0_becomes_48 : decode cX0_becomes 48 = .ok (.iconst 0, 1) := by decide +kernel
theorem dX0_becomes_49 : decode cX0_becomes 49 = .ok (.bipush 6, 2) := by decide +kernel
theorem dX0_becomes_51 : decode cX0_becomes 51 = .ok (.invokestatic 61, 3) := by decide +kernel
theorem dX0_becomes_54 : decode cX0_becomes 54 = .ok (.aload_n 1, 1) := by decide +kernel
theorem dX0_becomes_55 : decode cX0_becomes 55 = .ok (.getfield 29, 3) := by decide +kernel
theorem dX0_becomes_58 : decode cX0_becomes 58 = .ok (.iconst 0, 1) := by decide +kernel
theorem dX0_becomes_59 : decode cX0_becomes 59 = .ok (.aload_n 0, 1) := by decide +kernel
theorem dX0_becomes_60 : decode cX0_becomes 60 = .ok (.getfield 29, 3) := by decide +kernel
theorem dX0_becomes_63 : decode cX0_becomes 63 = .ok (.iconst 0, 1) := by decide +kernel
theorem dX0_becomes_64 : decode cX0_becomes 64 = .ok (.bipush 6, 2) := by decide +kernel
theorem dX0_becomes_66 : decode cX0_becomes 66 = .ok (.invokestatic 61, 3) := by decide +kernel
theorem dX0_becomes_69 : decode cX0_becomes 69 = .ok (.aload_n 1, 1) := by decide +kernel
theorem dX0_becomes_70 : decode cX0_becomes 70 = .ok (.getfield 32, 3) := by decide +kernel
theorem dX0_becomes_73 : decode cX0_becomes 73 = .ok (.iconst 0, 1) := by decide +kernel
theorem dX0_becomes_74 : decode cX0_becomes 74 = .ok (.aload_n 0, 1) := by decide +kernel
theorem dX0_becomes_75 : decode cX0_becomes 75 = .ok (.getfield 32, 3) := by decide +kernel
theorem dX0_becomes_78 : decode cX0_becomes 78 = .ok (.iconst 0, 1) := by decide +kernel
theorem dX0_becomes_79 : decode cX0_becomes 79 = .ok (.bipush 6, 2) := by decide +kernel
theorem dX0_becomes_81 : decode cX0_becomes 81 = .ok (.invokestatic 61, 3) := by decide +kernel
theorem dX0_becomes_84 : decode cX0_becomes 84 = .ok (.aload_n 1, 1) := by decide +kernel
theorem dX0_becomes_85 : decode cX0_becomes 85 = .ok (.getfield 35, 3) := by decide +kernel
theorem dX0_becomes_88 : decode cX0_becomes 88 = .ok (.iconst 0, 1) := by decide +kernel
theorem dX0_becomes_89 : decode cX0_becomes 89 = .ok (.aload_n 0, 1) := by decide +kernel
theorem dX0_becomes_90 : decode cX0_becomes 90 = .ok (.getfield 35, 3) := by decide +kernel
theorem dX0_becomes_93 : decode cX0_becomes 93 = .ok (.iconst 0, 1) := by decide +kernel
theorem dX0_becomes_94 : decode cX0_becomes 94 = .ok (.bipush 6, 2) := by decide +kernel
theorem dX0_becomes_96 : decode cX0_becomes 96 = .ok (.invokestatic 61, 3) := by decide +kernel
theorem dX0_becomes_99 : decode cX0_becomes 99 = .ok (.aload_n 1, 1) := by decide +kernel
theorem dX0_becomes_100 : decode cX0_becomes 100 = .ok (.getfield 38, 3) := by decide +kernel
theorem dX0_becomes_103 : decode cX0_becomes 103 = .ok (.iconst 0, 1) := by decide +kernel
theorem dX0_becomes_104 : decode cX0_becomes 104 = .ok (.aload_n 0, 1) := by decide +kernel
theorem dX0_becomes_105 : decode cX0_becomes 105 = .ok (.getfield 38, 3) := by decide +kernel
theorem dX0_becomes_108 : decode cX0_becomes 108 = .ok (.iconst 0, 1) := by decide +kernel
theorem dX0_becomes_109 : decode cX0_becomes 109 = .ok (.bipush 6, 2) := by decide +kernel
theorem dX0_becomes_111 : decode cX0_becomes 111 = .ok (.invokestatic 61, 3) := by decide +kernel
theorem dX0_becomes_114 : decode cX0_becomes 114 = .ok (.aload_n 0, 1) := by decide +kernel
theorem dX0_becomes_115 : decode cX0_becomes 115 = .ok (.aload_n 1, 1) := by decide +kernel
theorem dX0_becomes_116 : decode cX0_becomes 116 = .ok (.getfield 41, 3) := by decide +kernel
theorem dX0_becomes_119 : decode cX0_becomes 119 = .ok (.putfield 41, 3) := by decide +kernel
theorem dX0_becomes_122 : decode cX0_becomes 122 = .ok (.aload_n 1, 1) := by decide +kernel
theorem dX0_becomes_123 : decode cX0_becomes 123 = .ok (.getfield 44, 3) := by decide +kernel
theorem dX0_becomes_126 : decode cX0_becomes 126 = .ok (.iconst 0, 1) := by decide +kernel
theorem dX0_becomes_127 : decode cX0_becomes 127 = .ok (.aload_n 0, 1) := by decide +kernel
theorem dX0_becomes_128 : decode cX0_becomes 128 = .ok (.getfield 44, 3) := by decide +kernel
theorem dX0_becomes_131 : decode cX0_becomes 131 = .ok (.iconst 0, 1) := by decide +kernel
theorem dX0_becomes_132 : decode cX0_becomes 132 = .ok (.bipush 6, 2) := by decide +kernel
theorem dX0_becomes_134 : decode cX0_becomes 134 = .ok (.invokestatic 61, 3) := by decide +kernel
theorem dX0_becomes_137 : decode cX0_becomes 137 = .ok (.aload_n 1, 1) := by decide +kernel
theorem dX0_becomes_138 : decode cX0_becomes 138 = .ok (.getfield 47, 3) := by decide +kernel
theorem dX0_becomes_141 : decode cX0_becomes 141 = .ok (.iconst 0, 1) := by decide +kernel
theorem dX0_becomes_142 : decode cX0_becomes 142 = .ok (.aload_n 0, 1) := by decide +kernel
theorem dX0_becomes_143 : decode cX0_becomes 143 = .ok (.getfield 47, 3) := by decide +kernel
theorem dX0_becomes_146 : decode cX0_becomes 146 = .ok (.iconst 0, 1) := by decide +kernel
theorem dX0_becomes_147 : decode cX0_becomes 147 = .ok (.bipush 6, 2) := by decide +kernel
theorem dX0_becomes_149 : decode cX0_becomes 149 = .ok (.invokestatic 61, 3) := by decide +kernel
theorem dX0_becomes_152 : decode cX0_becomes 152 = .ok (.aload_n 1, 1) := by decide +kernel
theorem dX0_becomes_153 : decode cX0_becomes 153 = .ok (.getfield 50, 3) := by decide +kernel
theorem dX0_becomes_156 : decode cX0_becomes 156 = .ok (.iconst 0, 1) := by decide +kernel
theorem dX0_becomes_157 : decode cX0_becomes 157 = .ok (.aload_n 0, 1) := by decide +kernel
theorem dX0_becomes_158 : decode cX0_becomes 158 = .ok (.getfield 50, 3) := by decide +kernel
theorem dX0_becomes_161 : decode cX0_becomes 161 = .ok (.iconst 0, 1) := by decide +kernel
theorem dX0_becomes_162 : decode cX0_becomes 162 = .ok (.bipush 6, 2) := by decide +kernel
theorem dX0_becomes_164 : decode cX0_becomes 164 = .ok (.invokestatic 61, 3) := by decide +kernel
theorem dX0_becomes_167 : decode cX0_becomes 167 = .ok (.aload_n 0, 1) := by decide +kernel
theorem dX0_becomes_168 : decode cX0_becomes 168 = .ok (.aload_n 1, 1) := by decide +kernel
theorem dX0_becomes_169 : decode cX0_becomes 169 = .ok (.getfield 54, 3) := by decide +kernel
theorem dX0_becomes_172 : decode cX0_becomes 172 = .ok (.putfield 54, 3) := by decide +kernel
theorem dX0_becomes_175 : decode cX0_becomes 175 = .ok (.aload_n 0, 1) := by decide +kernel
theorem dX0_becomes_176 : decode cX0_becomes 176 = .ok (.aload_n 1, 1) := by decide +kernel
theorem dX0_becomes_177 : decode cX0_becomes 177 = .ok (.getfield 57, 3) := by decide +kernel
theorem dX0_becomes_180 : decode cX0_becomes 180 = .ok (.putfield 57, 3) := by decide +kernel
theorem dX0_becomes_183 : decode cX0_becomes 183 = .ok (.return_, 1) := by decide +kernel
theorem dX0_clear_0 : decode cX0_clear 0 = .ok (.aload_n 0, 1) := by decide +kernel
theorem dX0_clear_1 : decode cX0_clear 1 = .ok (.getfield 9, 3) := by decide +kernel
theorem dX0_clear_4 : decode cX0_clear 4 = .ok (.iconst 0, 1) := by decide +kernel
theorem dX0_clear_5 : decode cX0_clear 5 = .ok (.invokestatic 67, 3) := by decide +kernel
theorem dX0_clear_8 : decode cX0_clear 8 = .ok (.aload_n 0, 1) := by decide +kernel
theorem dX0_clear_9 : decode cX0_clear 9 = .ok (.iconst 0, 1) := by decide +kernel
theorem dX0_clear_10 : decode cX0_clear 10 = .ok (.putfield 15, 3) := by decide +kernel
theorem dX0_clear_13 : decode cX0_clear 13 = .ok (.aload_n 0, 1) := by decide +kernel
theorem dX0_clear_14 : decode cX0_clear 14 = .ok (.ldc 19, 2) := by decide +kernel
theorem dX0_clear_16 : decode cX0_clear 16 = .ok (.putfield 20, 3) := by decide +kernel
theorem dX0_clear_19 : decode cX0_clear 19 = .ok (.aload_n 0, 1) := by decide +kernel
theorem dX0_clear_20 : decode cX0_clear 20 = .ok (.iconst 0, 1) := by decide +kernel
theorem dX0_clear_21 : decode cX0_clear 21 = .ok (.putfield 23, 3) := by decide +kernel
theorem dX0_clear_24 : decode cX0_clear 24 = .ok (.aload_n 0, 1) := by decide +kernel
theorem dX0_clear_25 : decode cX0_clear 25 = .ok (.iconst 0, 1) := by decide +kernel
theorem dX0_clear_26 : decode cX0_clear 26 = .ok (.putfield 41, 3) := by decide +kernel
theorem dX0_clear_29 : decode cX0_clear 29 = .ok (.aload_n 0, 1) := by decide +kernel
theorem dX0_clear_30 : decode cX0_clear 30 = .ok (.iconst 0, 1) := by decide +kernel
theorem dX0_clear_31 : decode cX0_clear 31 = .ok (.putfield 54, 3) := by decide +kernel
theorem dX0_clear_34 : decode cX0_clear 34 = .ok (.aload_n 0, 1) := by decide +kernel
theorem dX0_clear_35 : decode cX0_clear 35 = .ok (.iconst 0, 1) := by decide +kernel
theorem dX0_clear_36 : decode cX0_clear 36 = .ok (.putfield 57, 3) := by decide +kernel
theorem dX0_clear_39 : decode cX0_clear 39 = .ok (.return_, 1) := by decide +kernel
theorem dX0_addTree_0 : decode cX0_addTree 0 = .ok (.aload_n 0, 1) := by decide +kernel
theorem dX0_addTree_1 : decode cX0_addTree 1 = .ok (.getfield 23, 3) := by decide +kernel
theorem dX0_addTree_4 : decode cX0_addTree 4 = .ok (.bipush 6, 2) := by decide +kernel
theorem dX0_addTree_6 : decode cX0_addTree 6 = .ok (.if_icmp .ge 64, 3) := by decide +kernel
theorem dX0_addTree_9 : decode cX0_addTree 9 = .ok (.aload_n 0, 1) := by decide +kernel
theorem dX0_addTree_10 : decode cX0_addTree 10 = .ok (.getfield 26, 3) := by decide +kernel
theorem dX0_addTree_13 : decode cX0_addTree 13 = .ok (.aload_n 0, 1) := by decide +kernel
theorem dX0_addTree_14 : decode cX0_addTree 14 = .ok (.getfield 23, 3) := by decide +kernel
theorem dX0_addTree_17 : decode cX0_addTree 17 = .ok (.iload_n 1, 1) := by decide +kernel
theorem dX0_addTree_18 : decode cX0_addTree 18 = .ok (.iastore, 1) := by decide +kernel
theorem dX0_addTree_19 : decode cX0_addTree 19 = .ok (.aload_n 0, 1) := by decide +kernel
theorem dX0_addTree_20 : decode cX0_addTree 20 = .ok (.getfield 29, 3) := by decide +kernel
theorem dX0_addTree_23 : decode cX0_addTree 23 = .ok (.aload_n 0, 1) := by decide +kernel
theorem dX0_addTree_24 : decode cX0_addTree 24 = .ok (.getfield 23, 3) := by decide +kernel
theorem dX0_addTree_27 : decode cX0_addTree 27 = .ok (.iload_n 2, 1) := by decide +kernel
theorem dX0_addTree_28 : decode cX0_addTree 28 = .ok (.iastore, 1) := by decide +kernel
theorem dX0_addTree_29 : decode cX0_addTree 29 = .ok (.aload_n 0, 1) := by decide +kernel
theorem dX0_addTree_30 : decode cX0_addTree 30 = .ok (.getfield 32, 3) := by decide +kernel
theorem dX0_addTree_33 : decode cX0_addTree 33 = .ok (.aload_n 0, 1) := by decide +kernel
theorem dX0_addTree_34 : decode cX0_addTree 34 = .ok (.getfield 23, 3) := by decide +kernel
theorem dX0_addTree_37 : decode cX0_addTree 37 = .ok (.iload_n 3, 1) := by decide +kernel
theorem dX0_addTree_38 : decode cX0_addTree 38 = .ok (.iastore, 1) := by decide +kernel
theorem dX0_addTree_39 : decode cX0_addTree 39 = .ok (.aload_n 0, 1) := by decide +kernel
theorem dX0_addTree_40 : decode cX0_addTree 40 = .ok (.getfield 35, 3) := by decide +kernel
theorem dX0_addTree_43 : decode cX0_addTree 43 = .ok (.aload_n 0, 1) := by decide +kernel
theorem dX0_addTree_44 : decode cX0_addTree 44 = .ok (.getfield 23, 3) := by decide +kernel
theorem dX0_addTree_47 : decode cX0_addTree 47 = .ok (.iload 4, 2) := by decide +kernel
theorem dX0_addTree_49 : decode cX0_addTree 49 = .ok (.iastore, 1) := by decide +kernel
theorem dX0_addTree_50 : decode cX0_addTree 50 = .ok (.aload_n 0, 1) := by decide +kernel
theorem dX0_addTree_51 : decode cX0_addTree 51 = .ok (.getfield 38, 3) := by decide +kernel
theorem dX0_addTree_54 : decode cX0_addTree 54 = .ok (.aload_n 0, 1) := by decide +kernel
theorem dX0_addTree_55 : decode cX0_addTree 55 = .ok (.getfield 23, 3) := by decide +kernel
theorem dX0_addTree_58 : decode cX0_addTree 58 = .ok (.iconst 0, 1) := by decide +kernel
theorem dX0_addTree_59 : decode cX0_addTree 59 = .ok (.iastore, 1) := by decide +kernel
theorem dX0_addTree_60 : decode cX0_addTree 60 = .ok (.aload_n 0, 1) := by decide +kernel
theorem dX0_addTree_61 : decode cX0_addTree 61 = .ok (.dup, 1) := by decide +kernel
theorem dX0_addTree_62 : decode cX0_addTree 62 = .ok (.getfield 23, 3) := by decide +kernel
theorem dX0_addTree_65 : decode cX0_addTree 65 = .ok (.iconst 1, 1) := by decide +kernel
theorem dX0_addTree_66 : decode cX0_addTree 66 = .ok (.iadd, 1) := by decide +kernel
theorem dX0_addTree_67 : decode cX0_addTree 67 = .ok (.putfield 23, 3) := by decide +kernel
theorem dX0_addTree_70 : decode cX0_addTree 70 = .ok (.return_, 1) := by decide +kernel
theorem dX0_addThing_0 : decode cX0_addThing 0 = .ok (.aload_n 0, 1) := by decide +kernel
theorem dX0_addThing_1 : decode cX0_addThing 1 = .ok (.getfield 41, 3) := by decide +kernel
theorem dX0_addThing_4 : decode cX0_addThing 4 = .ok (.bipush 6, 2) := by decide +kernel
theorem dX0_addThing_6 : decode cX0_addThing 6 = .ok (.if_icmp .ge 43, 3) := by decide +kernel
theorem dX0_addThing_9 : decode cX0_addThing 9 = .ok (.aload_n 0, 1) := by decide +kernel
theorem dX0_addThing_10 : decode cX0_addThing 10 = .ok (.getfield 44, 3) := by decide +kernel
theorem dX0_addThing_13 : decode cX0_addThing 13 = .ok (.aload_n 0, 1) := by decide +kernel
theorem dX0_addThing_14 : decode cX0_addThing 14 = .ok (.getfield 41, 3) := by decide +kernel
theorem dX0_addThing_17 : decode cX0_addThing 17 = .ok (.iload_n 1, 1) := by decide +kernel
theorem dX0_addThing_18 : decode cX0_addThing 18 = .ok (.iastore, 1) := by decide +kernel
theorem dX0_addThing_19 : decode cX0_addThing 19 = .ok (.aload_n 0, 1) := by decide +kernel
theorem dX0_addThing_20 : decode cX0_addThing 20 = .ok (.getfield 47, 3) := by decide +kernel
theorem dX0_addThing_23 : decode cX0_addThing 23 = .ok (.aload_n 0, 1) := by decide +kernel
theorem dX0_addThing_24 : decode cX0_addThing 24 = .ok (.getfield 41, 3) := by decide +kernel
theorem dX0_addThing_27 : decode cX0_addThing 27 = .ok (.iload_n 2, 1) := by decide +kernel
theorem dX0_addThing_28 : decode cX0_addThing 28 = .ok (.iastore, 1) := by decide +kernel
theorem dX0_addThing_29 : decode cX0_addThing 29 = .ok (.aload_n 0, 1) := by decide +kernel
theorem dX0_addThing_30 : decode cX0_addThing 30 = .ok (.getfield 50, 3) := by decide +kernel
theorem dX0_addThing_33 : decode cX0_addThing 33 = .ok (.aload_n 0, 1) := by decide +kernel
theorem dX0_addThing_34 : decode cX0_addThing 34 = .ok (.getfield 41, 3) := by decide +kernel
theorem dX0_addThing_37 : decode cX0_addThing 37 = .ok (.iload_n 3, 1) := by decide +kernel
theorem dX0_addThing_38 : decode cX0_addThing 38 = .ok (.bastore, 1) := by decide +kernel
theorem dX0_addThing_39 : decode cX0_addThing 39 = .ok (.aload_n 0, 1) := by decide +kernel
theorem dX0_addThing_40 : decode cX0_addThing 40 = .ok (.dup, 1) := by decide +kernel
theorem dX0_addThing_41 : decode cX0_addThing 41 = .ok (.getfield 41, 3) := by decide +kernel
theorem dX0_addThing_44 : decode cX0_addThing 44 = .ok (.iconst 1, 1) := by decide +kernel
theorem dX0_addThing_45 : decode cX0_addThing 45 = .ok (.iadd, 1) := by decide +kernel
theorem dX0_addThing_46 : decode cX0_addThing 46 = .ok (.putfield 41, 3) := by decide +kernel
theorem dX0_addThing_49 : decode cX0_addThing 49 = .ok (.return_, 1) := by decide +kernel
theorem dX0_hasTree_0 : decode cX0_hasTree 0 = .ok (.iload_n 1, 1) := by decide +kernel
theorem dX0_hasTree_1 : decode cX0_hasTree 1 = .ok (.ifCond .lt 15, 3) := by decide +kernel
theorem dX0_hasTree_4 : decode cX0_hasTree 4 = .ok (.iload_n 1, 1) := by decide +kernel
theorem dX0_hasTree_5 : decode cX0_hasTree 5 = .ok (.aload_n 0, 1) := by decide +kernel
theorem dX0_hasTree_6 : decode cX0_hasTree 6 = .ok (.getfield 23, 3) := by decide +kernel
theorem dX0_hasTree_9 : decode cX0_hasTree 9 = .ok (.if_icmp .ge 7, 3) := by decide +kernel
theorem dX0_hasTree_12 : decode cX0_hasTree 12 = .ok (.iconst 1, 1) := by decide +kernel
theorem dX0_hasTree_13 : decode cX0_hasTree 13 = .ok (.goto 4, 3) := by decide +kernel
theorem dX0_hasTree_16 : decode cX0_hasTree 16 = .ok (.iconst 0, 1) := by decide +kernel
theorem dX0_hasTree_17 : decode cX0_hasTree 17 = .ok (.ireturn, 1) := by decide +kernel
theorem dX0_hasThings_0 : decode cX0_hasThings 0 = .ok (.iload_n 1, 1) := by decide +kernel
theorem dX0_hasThings_1 : decode cX0_hasThings 1 = .ok (.ifCond .lt 17, 3) := by decide +kernel
theorem dX0_hasThings_4 : decode cX0_hasThings 4 = .ok (.iload_n 1, 1) := by decide +kernel
theorem dX0_hasThings_5 : decode cX0_hasThings 5 = .ok (.iconst 1, 1) := by decide +kernel
theorem dX0_hasThings_6 : decode cX0_hasThings 6 = .ok (.aload_n 0, 1) := by decide +kernel
theorem dX0_hasThings_7 : decode cX0_hasThings 7 = .ok (.getfield 41, 3) := by decide +kernel
theorem dX0_hasThings_10 : decode cX0_hasThings 10 = .ok (.ishl, 1) := by decide +kernel
theorem dX0_hasThings_11 : decode cX0_hasThings 11 = .ok (.if_icmp .ge 7, 3) := by decide +kernel
theorem dX0_hasThings_14 : decode cX0_hasThings 14 = .ok (.iconst 1, 1) := by decide +kernel
theorem dX0_hasThings_15 : decode cX0_hasThings 15 = .ok (.goto 4, 3) := by decide +kernel
theorem dX0_hasThings_18 : decode cX0_hasThings 18 = .ok (.iconst 0, 1) := by decide +kernel
theorem dX0_hasThings_19 : decode cX0_hasThings 19 = .ok (.ireturn, 1) := by decide +kernel
theorem dX0_mayBeCut_0 : decode cX0_mayBeCut 0 = .ok (.aload_n 0, 1) := by decide +kernel
theorem dX0_mayBeCut_1 : decode cX0_mayBeCut 1 = .ok (.iload_n 1, 1) := by decide +kernel
theorem dX0_mayBeCut_2 : decode cX0_mayBeCut 2 = .ok (.invokevirtual 73, 3) := by decide +kernel
theorem dX0_mayBeCut_5 : decode cX0_mayBeCut 5 = .ok (.ifCond .eq 27, 3) := by decide +kernel
theorem dX0_mayBeCut_8 : decode cX0_mayBeCut 8 = .ok (.aload_n 0, 1) := by decide +kernel
theorem dX0_mayBeCut_9 : decode cX0_mayBeCut 9 = .ok (.getfield 26, 3) := by decide +kernel
theorem dX0_mayBeCut_12 : decode cX0_mayBeCut 12 = .ok (.iload_n 1, 1) := by decide +kernel
theorem dX0_mayBeCut_13 : decode cX0_mayBeCut 13 = .ok (.iaload, 1) := by decide +kernel
theorem dX0_mayBeCut_14 : decode cX0_mayBeCut 14 = .ok (.iconst 3, 1) := by decide +kernel
theorem dX0_mayBeCut_15 : decode cX0_mayBeCut 15 = .ok (.if_icmp .eq 17, 3) := by decide +kernel
theorem dX0_mayBeCut_18 : decode cX0_mayBeCut 18 = .ok (.aload_n 0, 1) := by decide +kernel
theorem dX0_mayBeCut_19 : decode cX0_mayBeCut 19 = .ok (.getfield 26, 3) := by decide +kernel
theorem dX0_mayBeCut_22 : decode cX0_mayBeCut 22 = .ok (.iload_n 1, 1) := by decide +kernel
theorem dX0_mayBeCut_23 : decode cX0_mayBeCut 23 = .ok (.iaload, 1) := by decide +kernel
theorem dX0_mayBeCut_24 : decode cX0_mayBeCut 24 = .ok (.iconst 5, 1) := by decide +kernel
theorem dX0_mayBeCut_25 : decode cX0_mayBeCut 25 = .ok (.if_icmp .eq 7, 3) := by decide +kernel
theorem dX0_mayBeCut_28 : decode cX0_mayBeCut 28 = .ok (.iconst 1, 1) := by decide +kernel
theorem dX0_mayBeCut_29 : decode cX0_mayBeCut 29 = .ok (.goto 4, 3) := by decide +kernel
theorem dX0_mayBeCut_32 : decode cX0_mayBeCut 32 = .ok (.iconst 0, 1) := by decide +kernel
theorem dX0_mayBeCut_33 : decode cX0_mayBeCut 33 = .ok (.ireturn, 1) := by decide +kernel
theorem dX0_treeAt_0 : decode cX0_treeAt 0 = .ok (.iconst 0, 1) := by decide +kernel
theorem dX0_treeAt_1 : decode cX0_treeAt 1 = .ok (.istore_n 2, 1) := by decide +kernel
theorem dX0_treeAt_2 : decode cX0_treeAt 2 = .ok (.iload_n 2, 1) := by decide +kernel
theorem dX0_treeAt_3 : decode cX0_treeAt 3 = .ok (.aload_n 0, 1) := by decide +kernel
theorem dX0_treeAt_4 : decode cX0_treeAt 4 = .ok (.getfield 23, 3) := by decide +kernel
theorem dX0_treeAt_7 : decode cX0_treeAt 7 = .ok (.if_icmp .ge 21, 3) := by decide +kernel
theorem dX0_treeAt_10 : decode cX0_treeAt 10 = .ok (.aload_n 0, 1) := by decide +kernel
theorem dX0_treeAt_11 : decode cX0_treeAt 11 = .ok (.getfield 29, 3) := by decide +kernel
theorem dX0_treeAt_14 : decode cX0_treeAt 14 = .ok (.iload_n 2, 1) := by decide +kernel
theorem dX0_treeAt_15 : decode cX0_treeAt 15 = .ok (.iaload, 1) := by decide +kernel
theorem dX0_treeAt_16 : decode cX0_treeAt 16 = .ok (.iload_n 1, 1) := by decide +kernel
theorem dX0_treeAt_17 : decode cX0_treeAt 17 = .ok (.if_icmp .ne 5, 3) := by decide +kernel
theorem dX0_treeAt_20 : decode cX0_treeAt 20 = .ok (.iload_n 2, 1) := by decide +kernel
theorem dX0_treeAt_21 : decode cX0_treeAt 21 = .ok (.ireturn, 1) := by decide +kernel
theorem dX0_treeAt_22 : decode cX0_treeAt 22 = .ok (.iinc 2 1, 3) := by decide +kernel
theorem dX0_treeAt_25 : decode cX0_treeAt 25 = .ok (.goto (-23), 3) := by decide +kernel
theorem dX0_treeAt_28 : decode cX0_treeAt 28 = .ok (.ldc 19, 2) := by decide +kernel
theorem dX0_treeAt_30 : decode cX0_treeAt 30 = .ok (.ireturn, 1) := by decide +kernel
theorem dX0_topOf_0 : decode cX0_topOf 0 = .ok (.aload_n 0, 1) := by decide +kernel
theorem dX0_topOf_1 : decode cX0_topOf 1 = .ok (.getfield 9, 3) := by decide +kernel
theorem dX0_topOf_4 : decode cX0_topOf 4 = .ok (.aload_n 0, 1) := by decide +kernel
theorem dX0_topOf_5 : decode cX0_topOf 5 = .ok (.getfield 44, 3) := by decide +kernel
theorem dX0_topOf_8 : decode cX0_topOf 8 = .ok (.iload_n 1, 1) := by decide +kernel
theorem dX0_topOf_9 : decode cX0_topOf 9 = .ok (.iaload, 1) := by decide +kernel
theorem dX0_topOf_10 : decode cX0_topOf 10 = .ok (.iaload, 1) := by decide +kernel
theorem dX0_topOf_11 : decode cX0_topOf 11 = .ok (.aload_n 0, 1) := by decide +kernel
theorem dX0_topOf_12 : decode cX0_topOf 12 = .ok (.getfield 47, 3) := by decide +kernel
theorem dX0_topOf_15 : decode cX0_topOf 15 = .ok (.iload_n 1, 1) := by decide +kernel
theorem dX0_topOf_16 : decode cX0_topOf 16 = .ok (.iaload, 1) := by decide +kernel
theorem dX0_topOf_17 : decode cX0_topOf 17 = .ok (.iadd, 1) := by decide +kernel
theorem dX0_topOf_18 : decode cX0_topOf 18 = .ok (.ireturn, 1) := by decide +kernel
theorem dX0_heightNow_0 : decode cX0_heightNow 0 = .ok (.aload_n 0, 1) := by decide +kernel
theorem dX0_heightNow_1 : decode cX0_heightNow 1 = .ok (.iload_n 1, 1) := by decide +kernel
theorem dX0_heightNow_2 : decode cX0_heightNow 2 = .ok (.aload_n 0, 1) := by decide +kernel
theorem dX0_heightNow_3 : decode cX0_heightNow 3 = .ok (.getfield 54, 3) := by decide +kernel
theorem dX0_heightNow_6 : decode cX0_heightNow 6 = .ok (.aload_n 0, 1) := by decide +kernel
theorem dX0_heightNow_7 : decode cX0_heightNow 7 = .ok (.getfield 57, 3) := by decide +kernel
theorem dX0_heightNow_10 : decode cX0_heightNow 10 = .ok (.invokevirtual 77, 3) := by decide +kernel
theorem dX0_heightNow_13 : decode cX0_heightNow 13 = .ok (.ireturn, 1) := by decide +kernel
theorem dX0_heightIn_0 : decode cX0_heightIn 0 = .ok (.aload_n 0, 1) := by decide +kernel
theorem dX0_heightIn_1 : decode cX0_heightIn 1 = .ok (.iload_n 1, 1) := by decide +kernel
theorem dX0_heightIn_2 : decode cX0_heightIn 2 = .ok (.invokevirtual 73, 3) := by decide +kernel
theorem dX0_heightIn_5 : decode cX0_heightIn 5 = .ok (.ifCond .eq 17, 3) := by decide +kernel
theorem dX0_heightIn_8 : decode cX0_heightIn 8 = .ok (.iload_n 3, 1) := by decide +kernel
theorem dX0_heightIn_9 : decode cX0_heightIn 9 = .ok (.ifCond .eq 15, 3) := by decide +kernel
theorem dX0_heightIn_12 : decode cX0_heightIn 12 = .ok (.aload_n 0, 1) := by decide +kernel
theorem dX0_heightIn_13 : decode cX0_heightIn 13 = .ok (.getfield 26, 3) := by decide +kernel
theorem dX0_heightIn_16 : decode cX0_heightIn 16 = .ok (.iload_n 1, 1) := by decide +kernel
theorem dX0_heightIn_17 : decode cX0_heightIn 17 = .ok (.iaload, 1) := by decide +kernel
theorem dX0_heightIn_18 : decode cX0_heightIn 18 = .ok (.iconst 1, 1) := by decide +kernel
theorem dX0_heightIn_19 : decode cX0_heightIn 19 = .ok (.if_icmp .ne 5, 3) := by decide +kernel
theorem dX0_heightIn_22 : decode cX0_heightIn 22 = .ok (.iconst 0, 1) := by decide +kernel
theorem dX0_heightIn_23 : decode cX0_heightIn 23 = .ok (.ireturn, 1) := by decide +kernel
theorem dX0_heightIn_24 : decode cX0_heightIn 24 = .ok (.aload_n 0, 1) := by decide +kernel
theorem dX0_heightIn_25 : decode cX0_heightIn 25 = .ok (.getfield 26, 3) := by decide +kernel
theorem dX0_heightIn_28 : decode cX0_heightIn 28 = .ok (.iload_n 1, 1) := by decide +kernel
theorem dX0_heightIn_29 : decode cX0_heightIn 29 = .ok (.iaload, 1) := by decide +kernel
theorem dX0_heightIn_30 : decode cX0_heightIn 30 = .ok (.iconst 4, 1) := by decide +kernel
theorem dX0_heightIn_31 : decode cX0_heightIn 31 = .ok (.if_icmp .eq 13, 3) := by decide +kernel
theorem dX0_heightIn_34 : decode cX0_heightIn 34 = .ok (.aload_n 0, 1) := by decide +kernel
theorem dX0_heightIn_35 : decode cX0_heightIn 35 = .ok (.getfield 26, 3) := by decide +kernel
theorem dX0_heightIn_38 : decode cX0_heightIn 38 = .ok (.iload_n 1, 1) := by decide +kernel
theorem dX0_heightIn_39 : decode cX0_heightIn 39 = .ok (.iaload, 1) := by decide +kernel
theorem dX0_heightIn_40 : decode cX0_heightIn 40 = .ok (.iconst 5, 1) := by decide +kernel
theorem dX0_heightIn_41 : decode cX0_heightIn 41 = .ok (.if_icmp .ne 7, 3) := by decide +kernel
theorem dX0_heightIn_44 : decode cX0_heightIn 44 = .ok (.iconst 1, 1) := by decide +kernel
theorem dX0_heightIn_45 : decode cX0_heightIn 45 = .ok (.goto 4, 3) := by decide +kernel
theorem dX0_heightIn_48 : decode cX0_heightIn 48 = .ok (.iconst 0, 1) := by decide +kernel
theorem dX0_heightIn_49 : decode cX0_heightIn 49 = .ok (.istore 4, 2) := by decide +kernel
theorem dX0_heightIn_51 : decode cX0_heightIn 51 = .ok (.iload 4, 2) := by decide +kernel
theorem dX0_heightIn_53 : decode cX0_heightIn 53 = .ok (.ifCond .eq 12, 3) := by decide +kernel
theorem dX0_heightIn_56 : decode cX0_heightIn 56 = .ok (.aload_n 0, 1) := by decide +kernel
theorem dX0_heightIn_57 : decode cX0_heightIn 57 = .ok (.getfield 32, 3) := by decide +kernel
theorem dX0_heightIn_60 : decode cX0_heightIn 60 = .ok (.iload_n 1, 1) := by decide +kernel
theorem dX0_heightIn_61 : decode cX0_heightIn 61 = .ok (.iaload, 1) := by decide +kernel
theorem dX0_heightIn_62 : decode cX0_heightIn 62 = .ok (.goto 18, 3) := by decide +kernel
theorem dX0_heightIn_65 : decode cX0_heightIn 65 = .ok (.aload_n 0, 1) := by decide +kernel
theorem dX0_heightIn_66 : decode cX0_heightIn 66 = .ok (.getfield 32, 3) := by decide +kernel
theorem dX0_heightIn_69 : decode cX0_heightIn 69 = .ok (.iload_n 1, 1) := by decide +kernel
theorem dX0_heightIn_70 : decode cX0_heightIn 70 = .ok (.iaload, 1) := by decide +kernel
theorem dX0_heightIn_71 : decode cX0_heightIn 71 = .ok (.aload_n 0, 1) := by decide +kernel
theorem dX0_heightIn_72 : decode cX0_heightIn 72 = .ok (.getfield 35, 3) := by decide +kernel
theorem dX0_heightIn_75 : decode cX0_heightIn 75 = .ok (.iload_n 1, 1) := by decide +kernel
theorem dX0_heightIn_76 : decode cX0_heightIn 76 = .ok (.iaload, 1) := by decide +kernel
theorem dX0_heightIn_77 : decode cX0_heightIn 77 = .ok (.iload_n 2, 1) := by decide +kernel
theorem dX0_heightIn_78 : decode cX0_heightIn 78 = .ok (.imul, 1) := by decide +kernel
theorem dX0_heightIn_79 : decode cX0_heightIn 79 = .ok (.iadd, 1) := by decide +kernel
theorem dX0_heightIn_80 : decode cX0_heightIn 80 = .ok (.istore 5, 2) := by decide +kernel
theorem dX0_heightIn_82 : decode cX0_heightIn 82 = .ok (.iconst 0, 1) := by decide +kernel
theorem dX0_heightIn_83 : decode cX0_heightIn 83 = .ok (.bipush 99, 2) := by decide +kernel
theorem dX0_heightIn_85 : decode cX0_heightIn 85 = .ok (.iload 5, 2) := by decide +kernel
theorem dX0_heightIn_87 : decode cX0_heightIn 87 = .ok (.invokestatic 81, 3) := by decide +kernel
theorem dX0_heightIn_90 : decode cX0_heightIn 90 = .ok (.aload_n 0, 1) := by decide +kernel
theorem dX0_heightIn_91 : decode cX0_heightIn 91 = .ok (.getfield 38, 3) := by decide +kernel
theorem dX0_heightIn_94 : decode cX0_heightIn 94 = .ok (.iload_n 1, 1) := by decide +kernel
theorem dX0_heightIn_95 : decode cX0_heightIn 95 = .ok (.iaload, 1) := by decide +kernel
theorem dX0_heightIn_96 : decode cX0_heightIn 96 = .ok (.isub, 1) := by decide +kernel
theorem dX0_heightIn_97 : decode cX0_heightIn 97 = .ok (.invokestatic 87, 3) := by decide +kernel
theorem dX0_heightIn_100 : decode cX0_heightIn 100 = .ok (.ireturn, 1) := by decide +kernel
theorem dX1_init_0 : decode cX1_init 0 = .ok (.aload_n 0, 1) := by decide +kernel
theorem dX1_init_1 : decode cX1_init 1 = .ok (.invokespecial 3, 3) := by decide +kernel
theorem dX1_init_4 : decode cX1_init 4 = .ok (.aload_n 0, 1) := by decide +kernel
theorem dX1_init_5 : decode cX1_init 5 = .ok (.sipush 400, 3) := by decide +kernel
theorem dX1_init_8 : decode cX1_init 8 = .ok (.newarray .byte, 2) := by decide +kernel
theorem dX1_init_10 : decode cX1_init 10 = .ok (.putfield 9, 3) := by decide +kernel
theorem dX1_init_13 : decode cX1_init 13 = .ok (.aload_n 0, 1) := by decide +kernel
theorem dX1_init_14 : decode cX1_init 14 = .ok (.iconst 0, 1) := by decide +kernel
theorem dX1_init_15 : decode cX1_init 15 = .ok (.putfield 15, 3) := by decide +kernel
theorem dX1_init_18 : decode cX1_init 18 = .ok (.aload_n 0, 1) := by decide +kernel
theorem dX1_init_19 : decode cX1_init 19 = .ok (.iconst 0, 1) := by decide +kernel
theorem dX1_init_20 : decode cX1_init 20 = .ok (.putfield 19, 3) := by decide +kernel
theorem dX1_init_23 : decode cX1_init 23 = .ok (.aload_n 0, 1) := by decide +kernel
theorem dX1_init_24 : decode cX1_init 24 = .ok (.iconst 0, 1) := by decide +kernel
theorem dX1_init_25 : decode cX1_init 25 = .ok (.putfield 22, 3) := by decide +kernel
theorem dX1_init_28 : decode cX1_init 28 = .ok (.aload_n 0, 1) := by decide +kernel
theorem dX1_init_29 : decode cX1_init 29 = .ok (.iconst 0, 1) := by decide +kernel
theorem dX1_init_30 : decode cX1_init 30 = .ok (.putfield 25, 3) := by decide +kernel
theorem dX1_init_33 : decode cX1_init 33 = .ok (.aload_n 0, 1) := by decide +kernel
theorem dX1_init_34 : decode cX1_init 34 = .ok (.iconst 0, 1) := by decide +kernel
theorem dX1_init_35 : decode cX1_init 35 = .ok (.putfield 28, 3) := by decide +kernel
theorem dX1_init_38 : decode cX1_init 38 = .ok (.aload_n 0, 1) := by decide +kernel
theorem dX1_init_39 : decode cX1_init 39 = .ok (.iconst 0, 1) := by decide +kernel
theorem dX1_init_40 : decode cX1_init 40 = .ok (.putfield 31, 3) := by decide +kernel
theorem dX1_init_43 : decode cX1_init 43 = .ok (.aload_n 0, 1) := by decide +kernel
theorem dX1_init_44 : decode cX1_init 44 = .ok (.iconst 0, 1) := by decide +kernel
theorem dX1_init_45 : decode cX1_init 45 = .ok (.putfield 34, 3) := by decide +kernel
theorem dX1_init_48 : decode cX1_init 48 = .ok (.return_, 1) := by decide +kernel
theorem dX1_take_0 : decode cX1_take 0 = .ok (.aload_n 0, 1) := by decide +kernel
theorem dX1_take_1 : decode cX1_take 1 = .ok (.getfield 15, 3) := by decide +kernel
theorem dX1_take_4 : decode cX1_take 4 = .ok (.sipush 400, 3) := by decide +kernel
theorem dX1_take_7 : decode cX1_take 7 = .ok (.if_icmp .ge 23, 3) := by decide +kernel
theorem dX1_take_10 : decode cX1_take 10 = .ok (.aload_n 0, 1) := by decide +kernel
theorem dX1_take_11 : decode cX1_take 11 = .ok (.getfield 9, 3) := by decide +kernel
theorem dX1_take_14 : decode cX1_take 14 = .ok (.aload_n 0, 1) := by decide +kernel
theorem dX1_take_15 : decode cX1_take 15 = .ok (.getfield 15, 3) := by decide +kernel
theorem dX1_take_18 : decode cX1_take 18 = .ok (.iload_n 1, 1) := by decide +kernel
theorem dX1_take_19 : decode cX1_take 19 = .ok (.bastore, 1) := by decide +kernel
theorem dX1_take_20 : decode cX1_take 20 = .ok (.aload_n 0, 1) := by decide +kernel
theorem dX1_take_21 : decode cX1_take 21 = .ok (.dup, 1) := by decide +kernel
theorem dX1_take_22 : decode cX1_take 22 = .ok (.getfield 15, 3) := by decide +kernel
theorem dX1_take_25 : decode cX1_take 25 = .ok (.iconst 1, 1) := by decide +kernel
theorem dX1_take_26 : decode cX1_take 26 = .ok (.iadd, 1) := by decide +kernel
theorem dX1_take_27 : decode cX1_take 27 = .ok (.putfield 15, 3) := by decide +kernel
theorem dX1_take_30 : decode cX1_take 30 = .ok (.return_, 1) := by decide +kernel
theorem dX1_readInto_0 : decode cX1_readInto 0 = .ok (.aload_n 1, 1) := by decide +kernel
theorem dX1_readInto_1 : decode cX1_readInto 1 = .ok (.invokevirtual 37, 3) := by decide +kernel
theorem dX1_readInto_4 : decode cX1_readInto 4 = .ok (.aload_n 0, 1) := by decide +kernel
theorem dX1_readInto_5 : decode cX1_readInto 5 = .ok (.iconst 0, 1) := by decide +kernel
theorem dX1_readInto_6 : decode cX1_readInto 6 = .ok (.putfield 22, 3) := by decide +kernel
theorem dX1_readInto_9 : decode cX1_readInto 9 = .ok (.aload_n 0, 1) := by decide +kernel
theorem dX1_readInto_10 : decode cX1_readInto 10 = .ok (.invokevirtual 42, 3) := by decide +kernel
theorem dX1_readInto_13 : decode cX1_readInto 13 = .ok (.aload_n 0, 1) := by decide +kernel
theorem dX1_readInto_14 : decode cX1_readInto 14 = .ok (.aload_n 1, 1) := by decide +kernel
theorem dX1_readInto_15 : decode cX1_readInto 15 = .ok (.invokevirtual 45, 3) := by decide +kernel
theorem dX1_readInto_18 : decode cX1_readInto 18 = .ok (.ifCond .ne 5, 3) := by decide +kernel
theorem dX1_readInto_21 : decode cX1_readInto 21 = .ok (.iconst 0, 1) := by decide +kernel
theorem dX1_readInto_22 : decode cX1_readInto 22 = .ok (.ireturn, 1) := by decide +kernel
theorem dX1_readInto_23 : decode cX1_readInto 23 = .ok (.aload_n 0, 1) := by decide +kernel
theorem dX1_readInto_24 : decode cX1_readInto 24 = .ok (.ldc 49, 2) := by decide +kernel
theorem dX1_readInto_26 : decode cX1_readInto 26 = .ok (.invokevirtual 51, 3) := by decide +kernel
theorem dX1_readInto_29 : decode cX1_readInto 29 = .ok (.ifCond .eq 13, 3) := by decide +kernel
theorem dX1_readInto_32 : decode cX1_readInto 32 = .ok (.aload_n 0, 1) := by decide +kernel
theorem dX1_readInto_33 : decode cX1_readInto 33 = .ok (.aload_n 1, 1) := by decide +kernel
theorem dX1_readInto_34 : decode cX1_readInto 34 = .ok (.invokevirtual 55, 3) := by decide +kernel
theorem dX1_readInto_37 : decode cX1_readInto 37 = .ok (.ifCond .ne 5, 3) := by decide +kernel
theorem dX1_readInto_40 : decode cX1_readInto 40 = .ok (.iconst 0, 1) := by decide +kernel
theorem dX1_readInto_41 : decode cX1_readInto 41 = .ok (.ireturn, 1) := by decide +kernel
theorem dX1_readInto_42 : decode cX1_readInto 42 = .ok (.iconst 0, 1) := by decide +kernel
theorem dX1_readInto_43 : decode cX1_readInto 43 = .ok (.istore_n 2, 1) := by decide +kernel
theorem dX1_readInto_44 : decode cX1_readInto 44 = .ok (.iload_n 2, 1) := by decide +kernel
theorem dX1_readInto_45 : decode cX1_readInto 45 = .ok (.bipush 6, 2) := by decide +kernel
theorem dX1_readInto_47 : decode cX1_readInto 47 = .ok (.if_icmp .gt 28, 3) := by decide +kernel
theorem dX1_readInto_50 : decode cX1_readInto 50 = .ok (.aload_n 0, 1) := by decide +kernel
theorem dX1_readInto_51 : decode cX1_readInto 51 = .ok (.ldc 58, 2) := by decide +kernel
theorem dX1_readInto_53 : decode cX1_readInto 53 = .ok (.invokevirtual 51, 3) := by decide +kernel
theorem dX1_readInto_56 : decode cX1_readInto 56 = .ok (.ifCond .eq 19, 3) := by decide +kernel
theorem dX1_readInto_59 : decode cX1_readInto 59 = .ok (.aload_n 0, 1) := by decide +kernel
theorem dX1_readInto_60 : decode cX1_readInto 60 = .ok (.aload_n 1, 1) := by decide +kernel
theorem dX1_readInto_61 : decode cX1_readInto 61 = .ok (.invokevirtual 60, 3) := by decide +kernel
theorem dX1_readInto_64 : decode cX1_readInto 64 = .ok (.ifCond .ne 5, 3) := by decide +kernel
theorem dX1_readInto_67 : decode cX1_readInto 67 = .ok (.iconst 0, 1) := by decide +kernel
theorem dX1_readInto_68 : decode cX1_readInto 68 = .ok (.ireturn, 1) := by decide +kernel
theorem dX1_readInto_69 : decode cX1_readInto 69 = .ok (.iinc 2 1, 3) := by decide +kernel
theorem dX1_readInto_72 : decode cX1_readInto 72 = .ok (.goto (-28), 3) := by decide +kernel
theorem dX1_readInto_75 : decode cX1_readInto 75 = .ok (.iconst 0, 1) := by decide +kernel
theorem dX1_readInto_76 : decode cX1_readInto 76 = .ok (.istore_n 2, 1) := by decide +kernel
theorem dX1_readInto_77 : decode cX1_readInto 77 = .ok (.iload_n 2, 1) := by decide +kernel
theorem dX1_readInto_78 : decode cX1_readInto 78 = .ok (.bipush 6, 2) := by decide +kernel
theorem dX1_readInto_80 : decode cX1_readInto 80 = .ok (.if_icmp .gt 28, 3) := by decide +kernel
theorem dX1_readInto_83 : decode cX1_readInto 83 = .ok (.aload_n 0, 1) := by decide +kernel
theorem dX1_readInto_84 : decode cX1_readInto 84 = .ok (.ldc 63, 2) := by decide +kernel
theorem dX1_readInto_86 : decode cX1_readInto 86 = .ok (.invokevirtual 51, 3) := by decide +kernel
theorem dX1_readInto_89 : decode cX1_readInto 89 = .ok (.ifCond .eq 19, 3) := by decide +kernel
theorem dX1_readInto_92 : decode cX1_readInto 92 = .ok (.aload_n 0, 1) := by decide +kernel
theorem dX1_readInto_93 : decode cX1_readInto 93 = .ok (.aload_n 1, 1) := by decide +kernel
theorem dX1_readInto_94 : decode cX1_readInto 94 = .ok (.invokevirtual 65, 3) := by decide +kernel
theorem dX1_readInto_97 : decode cX1_readInto 97 = .ok (.ifCond .ne 5, 3) := by decide +kernel
theorem dX1_readInto_100 : decode cX1_readInto 100 = .ok (.iconst 0, 1) := by decide +kernel
theorem dX1_readInto_101 : decode cX1_readInto 101 = .ok (.ireturn, 1) := by decide +kernel
theorem dX1_readInto_102 : decode cX1_readInto 102 = .ok (.iinc 2 1, 3) := by decide +kernel
theorem dX1_readInto_105 : decode cX1_readInto 105 = .ok (.goto (-28), 3) := by decide +kernel
theorem dX1_readInto_108 : decode cX1_readInto 108 = .ok (.aload_n 0, 1) := by decide +kernel
theorem dX1_readInto_109 : decode cX1_readInto 109 = .ok (.getfield 25, 3) := by decide +kernel
theorem dX1_readInto_112 : decode cX1_readInto 112 = .ok (.ifCond .eq 11, 3) := by decide +kernel
theorem dX1_readInto_115 : decode cX1_readInto 115 = .ok (.aload_n 0, 1) := by decide +kernel
theorem dX1_readInto_116 : decode cX1_readInto 116 = .ok (.iconst 1, 1) := by decide +kernel
theorem dX1_readInto_117 : decode cX1_readInto 117 = .ok (.invokevirtual 68, 3) := by decide +kernel
theorem dX1_readInto_120 : decode cX1_readInto 120 = .ok (.ifCond .eq 7, 3) := by decide +kernel
theorem dX1_readInto_123 : decode cX1_readInto 123 = .ok (.iconst 1, 1) := by decide +kernel
theorem dX1_readInto_124 : decode cX1_readInto 124 = .ok (.goto 4, 3) := by decide +kernel
theorem dX1_readInto_127 : decode cX1_readInto 127 = .ok (.iconst 0, 1) := by decide +kernel
theorem dX1_readInto_128 : decode cX1_readInto 128 = .ok (.ireturn, 1) := by decide +kernel
theorem dX1_readGround_0 : decode cX1_readGround 0 = .ok (.aload_n 0, 1) := by decide +kernel
theorem dX1_readGround_1 : decode cX1_readGround 1 = .ok (.ldc 72, 2) := by decide +kernel
theorem dX1_readGround_3 : decode cX1_readGround 3 = .ok (.invokevirtual 74, 3) := by decide +kernel
theorem dX1_readGround_6 : decode cX1_readGround 6 = .ok (.ifCond .ne 5, 3) := by decide +kernel
theorem dX1_readGround_9 : decode cX1_readGround 9 = .ok (.iconst 0, 1) := by decide +kernel
theorem dX1_readGround_10 : decode cX1_readGround 10 = .ok (.ireturn, 1) := by decide +kernel
theorem dX1_readGround_11 : decode cX1_readGround 11 = .ok (.iconst 0, 1) := by decide +kernel
theorem dX1_readGround_12 : decode cX1_readGround 12 = .ok (.istore_n 2, 1) := by decide +kernel
theorem dX1_readGround_13 : decode cX1_readGround 13 = .ok (.iload_n 2, 1) := by decide +kernel
theorem dX1_readGround_14 : decode cX1_readGround 14 = .ok (.bipush 20, 2) := by decide +kernel
theorem dX1_readGround_16 : decode cX1_readGround 16 = .ok (.if_icmp .ge 31, 3) := by decide +kernel
theorem dX1_readGround_19 : decode cX1_readGround 19 = .ok (.aload_n 0, 1) := by decide +kernel
theorem dX1_readGround_20 : decode cX1_readGround 20 = .ok (.iconst 0, 1) := by decide +kernel
theorem dX1_readGround_21 : decode cX1_readGround 21 = .ok (.bipush 60, 2) := by decide +kernel
theorem dX1_readGround_23 : decode cX1_readGround 23 = .ok (.invokevirtual 77, 3) := by decide +kernel
theorem dX1_readGround_26 : decode cX1_readGround 26 = .ok (.ifCond .ne 5, 3) := by decide +kernel
theorem dX1_readGround_29 : decode cX1_readGround 29 = .ok (.iconst 0, 1) := by decide +kernel
theorem dX1_readGround_30 : decode cX1_readGround 30 = .ok (.ireturn, 1) := by decide +kernel
theorem dX1_readGround_31 : decode cX1_readGround 31 = .ok (.aload_n 1, 1) := by decide +kernel
theorem dX1_readGround_32 : decode cX1_readGround 32 = .ok (.getfield 81, 3) := by decide +kernel
theorem dX1_readGround_35 : decode cX1_readGround 35 = .ok (.iload_n 2, 1) := by decide +kernel
theorem dX1_readGround_36 : decode cX1_readGround 36 = .ok (.aload_n 0, 1) := by decide +kernel
theorem dX1_readGround_37 : decode cX1_readGround 37 = .ok (.invokevirtual 84, 3) := by decide +kernel
theorem dX1_readGround_40 : decode cX1_readGround 40 = .ok (.iastore, 1) := by decide +kernel
theorem dX1_readGround_41 : decode cX1_readGround 41 = .ok (.iinc 2 1, 3) := by decide +kernel
theorem dX1_readGround_44 : decode cX1_readGround 44 = .ok (.goto (-31), 3) := by decide +kernel
theorem dX1_readGround_47 : decode cX1_readGround 47 = .ok (.aload_n 0, 1) := by decide +kernel
theorem dX1_readGround_48 : decode cX1_readGround 48 = .ok (.invokevirtual 88, 3) := by decide +kernel
theorem dX1_readGround_51 : decode cX1_readGround 51 = .ok (.ireturn, 1) := by decide +kernel
theorem dX1_readLake_0 : decode cX1_readLake 0 = .ok (.aload_n 0, 1) := by decide +kernel
theorem dX1_readLake_1 : decode cX1_readLake 1 = .ok (.invokevirtual 42, 3) := by decide +kernel
theorem dX1_readLake_4 : decode cX1_readLake 4 = .ok (.aload_n 0, 1) := by decide +kernel
theorem dX1_readLake_5 : decode cX1_readLake 5 = .ok (.iconst 0, 1) := by decide +kernel
theorem dX1_readLake_6 : decode cX1_readLake 6 = .ok (.bipush 19, 2) := by decide +kernel
theorem dX1_readLake_8 : decode cX1_readLake 8 = .ok (.invokevirtual 77, 3) := by decide +kernel
theorem dX1_readLake_11 : decode cX1_readLake 11 = .ok (.ifCond .ne 5, 3) := by decide +kernel
theorem dX1_readLake_14 : decode cX1_readLake 14 = .ok (.iconst 0, 1) := by decide +kernel
theorem dX1_readLake_15 : decode cX1_readLake 15 = .ok (.ireturn, 1) := by decide +kernel
theorem dX1_readLake_16 : decode cX1_readLake 16 = .ok (.aload_n 1, 1) := by decide +kernel
theorem dX1_readLake_17 : decode cX1_readLake 17 = .ok (.aload_n 0, 1) := by decide +kernel
theorem dX1_readLake_18 : decode cX1_readLake 18 = .ok (.invokevirtual 84, 3) := by decide +kernel
theorem dX1_readLake_21 : decode cX1_readLake 21 = .ok (.putfield 92, 3) := by decide +kernel
theorem dX1_readLake_24 : decode cX1_readLake 24 = .ok (.aload_n 0, 1) := by decide +kernel
theorem dX1_readLake_25 : decode cX1_readLake 25 = .ok (.aload_n 1, 1) := by decide +kernel
theorem dX1_readLake_26 : decode cX1_readLake 26 = .ok (.getfield 92, 3) := by decide +kernel
theorem dX1_readLake_29 : decode cX1_readLake 29 = .ok (.bipush 19, 2) := by decide +kernel
theorem dX1_readLake_31 : decode cX1_readLake 31 = .ok (.invokevirtual 77, 3) := by decide +kernel
theorem dX1_readLake_34 : decode cX1_readLake 34 = .ok (.ifCond .ne 5, 3) := by decide +kernel
theorem dX1_readLake_37 : decode cX1_readLake 37 = .ok (.iconst 0, 1) := by decide +kernel
theorem dX1_readLake_38 : decode cX1_readLake 38 = .ok (.ireturn, 1) := by decide +kernel
theorem dX1_readLake_39 : decode cX1_readLake 39 = .ok (.aload_n 1, 1) := by decide +kernel
theorem dX1_readLake_40 : decode cX1_readLake 40 = .ok (.aload_n 0, 1) := by decide +kernel
theorem dX1_readLake_41 : decode cX1_readLake 41 = .ok (.invokevirtual 84, 3) := by decide +kernel
theorem dX1_readLake_44 : decode cX1_readLake 44 = .ok (.putfield 95, 3) := by decide +kernel
theorem dX1_readLake_47 : decode cX1_readLake 47 = .ok (.aload_n 0, 1) := by decide +kernel
theorem dX1_readLake_48 : decode cX1_readLake 48 = .ok (.invokevirtual 88, 3) := by decide +kernel
theorem dX1_readLake_51 : decode cX1_readLake 51 = .ok (.ireturn, 1) := by decide +kernel
theorem dX1_readTree_0 : decode cX1_readTree 0 = .ok (.aload_n 1, 1) := by decide +kernel
theorem dX1_readTree_1 : decode cX1_readTree 1 = .ok (.getfield 98, 3) := by decide +kernel
theorem dX1_readTree_4 : decode cX1_readTree 4 = .ok (.bipush 6, 2) := by decide +kernel
theorem dX1_readTree_6 : decode cX1_readTree 6 = .ok (.if_icmp .lt 9, 3) := by decide +kernel
theorem dX1_readTree_9 : decode cX1_readTree 9 = .ok (.aload_n 0, 1) := by decide +kernel
theorem dX1_readTree_10 : decode cX1_readTree 10 = .ok (.iconst 3, 1) := by decide +kernel
theorem dX1_readTree_11 : decode cX1_readTree 11 = .ok (.invokevirtual 68, 3) := by decide +kernel
theorem dX1_readTree_14 : decode cX1_readTree 14 = .ok (.ireturn, 1) := by decide +kernel
theorem dX1_readTree_15 : decode cX1_readTree 15 = .ok (.aload_n 0, 1) := by decide +kernel
theorem dX1_readTree_16 : decode cX1_readTree 16 = .ok (.invokevirtual 42, 3) := by decide +kernel
theorem dX1_readTree_19 : decode cX1_readTree 19 = .ok (.aload_n 0, 1) := by decide +kernel
theorem dX1_readTree_20 : decode cX1_readTree 20 = .ok (.invokevirtual 101, 3) := by decide +kernel
theorem dX1_readTree_23 : decode cX1_readTree 23 = .ok (.istore_n 2, 1) := by decide +kernel
theorem dX1_readTree_24 : decode cX1_readTree 24 = .ok (.iload_n 2, 1) := by decide +kernel
theorem dX1_readTree_25 : decode cX1_readTree 25 = .ok (.ldc 104, 2) := by decide +kernel
theorem dX1_readTree_27 : decode cX1_readTree 27 = .ok (.if_icmp .ne 9, 3) := by decide +kernel
theorem dX1_readTree_30 : decode cX1_readTree 30 = .ok (.aload_n 0, 1) := by decide +kernel
theorem dX1_readTree_31 : decode cX1_readTree 31 = .ok (.iconst 1, 1) := by decide +kernel
theorem dX1_readTree_32 : decode cX1_readTree 32 = .ok (.invokevirtual 68, 3) := by decide +kernel
theorem dX1_readTree_35 : decode cX1_readTree 35 = .ok (.ireturn, 1) := by decide +kernel
theorem dX1_readTree_36 : decode cX1_readTree 36 = .ok (.aload_n 0, 1) := by decide +kernel
theorem dX1_readTree_37 : decode cX1_readTree 37 = .ok (.invokevirtual 42, 3) := by decide +kernel
theorem dX1_readTree_40 : decode cX1_readTree 40 = .ok (.aload_n 0, 1) := by decide +kernel
theorem dX1_readTree_41 : decode cX1_readTree 41 = .ok (.iconst 0, 1) := by decide +kernel
theorem dX1_readTree_42 : decode cX1_readTree 42 = .ok (.bipush 19, 2) := by decide +kernel
theorem dX1_readTree_44 : decode cX1_readTree 44 = .ok (.invokevirtual 77, 3) := by decide +kernel
theorem dX1_readTree_47 : decode cX1_readTree 47 = .ok (.ifCond .ne 5, 3) := by decide +kernel
theorem dX1_readTree_50 : decode cX1_readTree 50 = .ok (.iconst 0, 1) := by decide +kernel
theorem dX1_readTree_51 : decode cX1_readTree 51 = .ok (.ireturn, 1) := by decide +kernel
theorem dX1_readTree_52 : decode cX1_readTree 52 = .ok (.aload_n 1, 1) := by decide +kernel
theorem dX1_readTree_53 : decode cX1_readTree 53 = .ok (.aload_n 0, 1) := by decide +kernel
theorem dX1_readTree_54 : decode cX1_readTree 54 = .ok (.getfield 28, 3) := by decide +kernel
theorem dX1_readTree_57 : decode cX1_readTree 57 = .ok (.invokevirtual 105, 3) := by decide +kernel
theorem dX1_readTree_60 : decode cX1_readTree 60 = .ok (.ldc 104, 2) := by decide +kernel
theorem dX1_readTree_62 : decode cX1_readTree 62 = .ok (.if_icmp .eq 9, 3) := by decide +kernel
theorem dX1_readTree_65 : decode cX1_readTree 65 = .ok (.aload_n 0, 1) := by decide +kernel
theorem dX1_readTree_66 : decode cX1_readTree 66 = .ok (.iconst 2, 1) := by decide +kernel
theorem dX1_readTree_67 : decode cX1_readTree 67 = .ok (.invokevirtual 68, 3) := by decide +kernel
theorem dX1_readTree_70 : decode cX1_readTree 70 = .ok (.ireturn, 1) := by decide +kernel
theorem dX1_readTree_71 : decode cX1_readTree 71 = .ok (.aload_n 0, 1) := by decide +kernel
theorem dX1_readTree_72 : decode cX1_readTree 72 = .ok (.invokevirtual 84, 3) := by decide +kernel
theorem dX1_readTree_75 : decode cX1_readTree 75 = .ok (.istore_n 3, 1) := by decide +kernel
theorem dX1_readTree_76 : decode cX1_readTree 76 = .ok (.aload_n 0, 1) := by decide +kernel
theorem dX1_readTree_77 : decode cX1_readTree 77 = .ok (.iconst 1, 1) := by decide +kernel
theorem dX1_readTree_78 : decode cX1_readTree 78 = .ok (.bipush 99, 2) := by decide +kernel
theorem dX1_readTree_80 : decode cX1_readTree 80 = .ok (.invokevirtual 77, 3) := by decide +kernel
theorem dX1_readTree_83 : decode cX1_readTree 83 = .ok (.ifCond .ne 5, 3) := by decide +kernel
theorem dX1_readTree_86 : decode cX1_readTree 86 = .ok (.iconst 0, 1) := by decide +kernel
theorem dX1_readTree_87 : decode cX1_readTree 87 = .ok (.ireturn, 1) := by decide +kernel
theorem dX1_readTree_88 : decode cX1_readTree 88 = .ok (.aload_n 0, 1) := by decide +kernel
theorem dX1_readTree_89 : decode cX1_readTree 89 = .ok (.invokevirtual 84, 3) := by decide +kernel
theorem dX1_readTree_92 : decode cX1_readTree 92 = .ok (.istore 4, 2) := by decide +kernel
theorem dX1_readTree_94 : decode cX1_readTree 94 = .ok (.aload_n 0, 1) := by decide +kernel
theorem dX1_readTree_95 : decode cX1_readTree 95 = .ok (.iconst 0, 1) := by decide +kernel
theorem dX1_readTree_96 : decode cX1_readTree 96 = .ok (.bipush 9, 2) := by decide +kernel
theorem dX1_readTree_98 : decode cX1_readTree 98 = .ok (.invokevirtual 77, 3) := by decide +kernel
theorem dX1_readTree_101 : decode cX1_readTree 101 = .ok (.ifCond .ne 5, 3) := by decide +kernel
theorem dX1_readTree_104 : decode cX1_readTree 104 = .ok (.iconst 0, 1) := by decide +kernel
theorem dX1_readTree_105 : decode cX1_readTree 105 = .ok (.ireturn, 1) := by decide +kernel
theorem dX1_readTree_106 : decode cX1_readTree 106 = .ok (.aload_n 1, 1) := by decide +kernel
theorem dX1_readTree_107 : decode cX1_readTree 107 = .ok (.iload_n 2, 1) := by decide +kernel
theorem dX1_readTree_108 : decode cX1_readTree 108 = .ok (.iload_n 3, 1) := by decide +kernel
theorem dX1_readTree_109 : decode cX1_readTree 109 = .ok (.iload 4, 2) := by decide +kernel
theorem dX1_readTree_111 : decode cX1_readTree 111 = .ok (.aload_n 0, 1) := by decide +kernel
theorem dX1_readTree_112 : decode cX1_readTree 112 = .ok (.invokevirtual 84, 3) := by decide +kernel
theorem dX1_readTree_115 : decode cX1_readTree 115 = .ok (.invokevirtual 109, 3) := by decide +kernel
theorem dX1_readTree_118 : decode cX1_readTree 118 = .ok (.aload_n 0, 1) := by decide +kernel
theorem dX1_readTree_119 : decode cX1_readTree 119 = .ok (.invokevirtual 88, 3) := by decide +kernel
theorem dX1_readTree_122 : decode cX1_readTree 122 = .ok (.ireturn, 1) := by decide +kernel
theorem dX1_readThing_0 : decode cX1_readThing 0 = .ok (.aload_n 1, 1) := by decide +kernel
theorem dX1_readThing_1 : decode cX1_readThing 1 = .ok (.getfield 113, 3) := by decide +kernel
theorem dX1_readThing_4 : decode cX1_readThing 4 = .ok (.bipush 6, 2) := by decide +kernel
theorem dX1_readThing_6 : decode cX1_readThing 6 = .ok (.if_icmp .lt 9, 3) := by decide +kernel
theorem dX1_readThing_9 : decode cX1_readThing 9 = .ok (.aload_n 0, 1) := by decide +kernel
theorem dX1_readThing_10 : decode cX1_readThing 10 = .ok (.iconst 3, 1) := by decide +kernel
theorem dX1_readThing_11 : decode cX1_readThing 11 = .ok (.invokevirtual 68, 3) := by decide +kernel
theorem dX1_readThing_14 : decode cX1_readThing 14 = .ok (.ireturn, 1) := by decide +kernel
theorem dX1_readThing_15 : decode cX1_readThing 15 = .ok (.aload_n 0, 1) := by decide +kernel
theorem dX1_readThing_16 : decode cX1_readThing 16 = .ok (.invokevirtual 42, 3) := by decide +kernel
theorem dX1_readThing_19 : decode cX1_readThing 19 = .ok (.aload_n 0, 1) := by decide +kernel
theorem dX1_readThing_20 : decode cX1_readThing 20 = .ok (.iconst 0, 1) := by decide +kernel
theorem dX1_readThing_21 : decode cX1_readThing 21 = .ok (.bipush 19, 2) := by decide +kernel
theorem dX1_readThing_23 : decode cX1_readThing 23 = .ok (.invokevirtual 77, 3) := by decide +kernel
theorem dX1_readThing_26 : decode cX1_readThing 26 = .ok (.ifCond .ne 5, 3) := by decide +kernel
theorem dX1_readThing_29 : decode cX1_readThing 29 = .ok (.iconst 0, 1) := by decide +kernel
theorem dX1_readThing_30 : decode cX1_readThing 30 = .ok (.ireturn, 1) := by decide +kernel
theorem dX1_readThing_31 : decode cX1_readThing 31 = .ok (.aload_n 0, 1) := by decide +kernel
theorem dX1_readThing_32 : decode cX1_readThing 32 = .ok (.invokevirtual 84, 3) := by decide +kernel
theorem dX1_readThing_35 : decode cX1_readThing 35 = .ok (.istore_n 2, 1) := by decide +kernel
theorem dX1_readThing_36 : decode cX1_readThing 36 = .ok (.aload_n 0, 1) := by decide +kernel
theorem dX1_readThing_37 : decode cX1_readThing 37 = .ok (.iconst 1, 1) := by decide +kernel
theorem dX1_readThing_38 : decode cX1_readThing 38 = .ok (.bipush 99, 2) := by decide +kernel
theorem dX1_readThing_40 : decode cX1_readThing 40 = .ok (.invokevirtual 77, 3) := by decide +kernel
theorem dX1_readThing_43 : decode cX1_readThing 43 = .ok (.ifCond .ne 5, 3) := by decide +kernel
theorem dX1_readThing_46 : decode cX1_readThing 46 = .ok (.iconst 0, 1) := by decide +kernel
theorem dX1_readThing_47 : decode cX1_readThing 47 = .ok (.ireturn, 1) := by decide +kernel
theorem dX1_readThing_48 : decode cX1_readThing 48 = .ok (.aload_n 0, 1) := by decide +kernel
theorem dX1_readThing_49 : decode cX1_readThing 49 = .ok (.invokevirtual 84, 3) := by decide +kernel
theorem dX1_readThing_52 : decode cX1_readThing 52 = .ok (.istore_n 3, 1) := by decide +kernel
theorem dX1_readThing_53 : decode cX1_readThing 53 = .ok (.aload_n 0, 1) := by decide +kernel
theorem dX1_readThing_54 : decode cX1_readThing 54 = .ok (.ldc 116, 2) := by decide +kernel
theorem dX1_readThing_56 : decode cX1_readThing 56 = .ok (.invokevirtual 51, 3) := by decide +kernel
theorem dX1_readThing_59 : decode cX1_readThing 59 = .ok (.istore 4, 2) := by decide +kernel
theorem dX1_readThing_61 : decode cX1_readThing 61 = .ok (.iload 4, 2) := by decide +kernel
theorem dX1_readThing_63 : decode cX1_readThing 63 = .ok (.ifCond .ne 18, 3) := by decide +kernel
theorem dX1_readThing_66 : decode cX1_readThing 66 = .ok (.aload_n 0, 1) := by decide +kernel
theorem dX1_readThing_67 : decode cX1_readThing 67 = .ok (.ldc 118, 2) := by decide +kernel
theorem dX1_readThing_69 : decode cX1_readThing 69 = .ok (.invokevirtual 51, 3) := by decide +kernel
theorem dX1_readThing_72 : decode cX1_readThing 72 = .ok (.ifCond .ne 9, 3) := by decide +kernel
theorem dX1_readThing_75 : decode cX1_readThing 75 = .ok (.aload_n 0, 1) := by decide +kernel
theorem dX1_readThing_76 : decode cX1_readThing 76 = .ok (.iconst 1, 1) := by decide +kernel
theorem dX1_readThing_77 : decode cX1_readThing 77 = .ok (.invokevirtual 68, 3) := by decide +kernel
theorem dX1_readThing_80 : decode cX1_readThing 80 = .ok (.ireturn, 1) := by decide +kernel
theorem dX1_readThing_81 : decode cX1_readThing 81 = .ok (.aload_n 0, 1) := by decide +kernel
theorem dX1_readThing_82 : decode cX1_readThing 82 = .ok (.invokevirtual 42, 3) := by decide +kernel
theorem dX1_readThing_85 : decode cX1_readThing 85 = .ok (.aload_n 1, 1) := by decide +kernel
theorem dX1_readThing_86 : decode cX1_readThing 86 = .ok (.iload_n 2, 1) := by decide +kernel
theorem dX1_readThing_87 : decode cX1_readThing 87 = .ok (.iload_n 3, 1) := by decide +kernel
theorem dX1_readThing_88 : decode cX1_readThing 88 = .ok (.iload 4, 2) := by decide +kernel
theorem dX1_readThing_90 : decode cX1_readThing 90 = .ok (.invokevirtual 120, 3) := by decide +kernel
theorem dX1_readThing_93 : decode cX1_readThing 93 = .ok (.aload_n 0, 1) := by decide +kernel
theorem dX1_readThing_94 : decode cX1_readThing 94 = .ok (.invokevirtual 88, 3) := by decide +kernel
theorem dX1_readThing_97 : decode cX1_readThing 97 = .ok (.ireturn, 1) := by decide +kernel
theorem dX1_sortTold_0 : decode cX1_sortTold 0 = .ok (.aload_n 0, 1) := by decide +kernel
theorem dX1_sortTold_1 : decode cX1_sortTold 1 = .ok (.ldc 124, 2) := by decide +kernel
theorem dX1_sortTold_3 : decode cX1_sortTold 3 = .ok (.invokevirtual 51, 3) := by decide +kernel
theorem dX1_sortTold_6 : decode cX1_sortTold 6 = .ok (.ifCond .eq 5, 3) := by decide +kernel
theorem dX1_sortTold_9 : decode cX1_sortTold 9 = .ok (.iconst 1, 1) := by decide +kernel
theorem dX1_sortTold_10 : decode cX1_sortTold 10 = .ok (.ireturn, 1) := by decide +kernel
theorem dX1_sortTold_11 : decode cX1_sortTold 11 = .ok (.aload_n 0, 1) := by decide +kernel
theorem dX1_sortTold_12 : decode cX1_sortTold 12 = .ok (.ldc 126, 2) := by decide +kernel
theorem dX1_sortTold_14 : decode cX1_sortTold 14 = .ok (.invokevirtual 51, 3) := by decide +kernel
theorem dX1_sortTold_17 : decode cX1_sortTold 17 = .ok (.ifCond .eq 5, 3) := by decide +kernel
theorem dX1_sortTold_20 : decode cX1_sortTold 20 = .ok (.iconst 3, 1) := by decide +kernel
theorem dX1_sortTold_21 : decode cX1_sortTold 21 = .ok (.ireturn, 1) := by decide +kernel
theorem dX1_sortTold_22 : decode cX1_sortTold 22 = .ok (.aload_n 0, 1) := by decide +kernel
theorem dX1_sortTold_23 : decode cX1_sortTold 23 = .ok (.ldc 128, 2) := by decide +kernel
theorem dX1_sortTold_25 : decode cX1_sortTold 25 = .ok (.invokevirtual 51, 3) := by decide +kernel
theorem dX1_sortTold_28 : decode cX1_sortTold 28 = .ok (.ifCond .eq 5, 3) := by decide +kernel
theorem dX1_sortTold_31 : decode cX1_sortTold 31 = .ok (.iconst 2, 1) := by decide +kernel
theorem dX1_sortTold_32 : decode cX1_sortTold 32 = .ok (.ireturn, 1) := by decide +kernel
theorem dX1_sortTold_33 : decode cX1_sortTold 33 = .ok (.aload_n 0, 1) := by decide +kernel
theorem dX1_sortTold_34 : decode cX1_sortTold 34 = .ok (.ldc 130, 2) := by decide +kernel
theorem dX1_sortTold_36 : decode cX1_sortTold 36 = .ok (.invokevirtual 51, 3) := by decide +kernel
theorem dX1_sortTold_39 : decode cX1_sortTold 39 = .ok (.ifCond .eq 5, 3) := by decide +kernel
theorem dX1_sortTold_42 : decode cX1_sortTold 42 = .ok (.iconst 4, 1) := by decide +kernel
theorem dX1_sortTold_43 : decode cX1_sortTold 43 = .ok (.ireturn, 1) := by decide +kernel
theorem dX1_sortTold_44 : decode cX1_sortTold 44 = .ok (.aload_n 0, 1) := by decide +kernel
theorem dX1_sortTold_45 : decode cX1_sortTold 45 = .ok (.ldc 132, 2) := by decide +kernel
theorem dX1_sortTold_47 : decode cX1_sortTold 47 = .ok (.invokevirtual 51, 3) := by decide +kernel
theorem dX1_sortTold_50 : decode cX1_sortTold 50 = .ok (.ifCond .eq 7, 3) := by decide +kernel
theorem dX1_sortTold_53 : decode cX1_sortTold 53 = .ok (.iconst 5, 1) := by decide +kernel
theorem dX1_sortTold_54 : decode cX1_sortTold 54 = .ok (.goto 5, 3) := by decide +kernel
theorem dX1_sortTold_57 : decode cX1_sortTold 57 = .ok (.ldc 104, 2) := by decide +kernel
theorem dX1_sortTold_59 : decode cX1_sortTold 59 = .ok (.ireturn, 1) := by decide +kernel
theorem dX1_refuse_0 : decode cX1_refuse 0 = .ok (.aload_n 0, 1) := by decide +kernel
theorem dX1_refuse_1 : decode cX1_refuse 1 = .ok (.iload_n 1, 1) := by decide +kernel
theorem dX1_refuse_2 : decode cX1_refuse 2 = .ok (.putfield 31, 3) := by decide +kernel
theorem dX1_refuse_5 : decode cX1_refuse 5 = .ok (.aload_n 0, 1) := by decide +kernel
theorem dX1_refuse_6 : decode cX1_refuse 6 = .ok (.aload_n 0, 1) := by decide +kernel
theorem dX1_refuse_7 : decode cX1_refuse 7 = .ok (.getfield 19, 3) := by decide +kernel
theorem dX1_refuse_10 : decode cX1_refuse 10 = .ok (.putfield 34, 3) := by decide +kernel
theorem dX1_refuse_13 : decode cX1_refuse 13 = .ok (.iconst 0, 1) := by decide +kernel
theorem dX1_refuse_14 : decode cX1_refuse 14 = .ok (.ireturn, 1) := by decide +kernel
theorem dX1_isNumber_0 : decode cX1_isNumber 0 = .ok (.aload_n 0, 1) := by decide +kernel
theorem dX1_isNumber_1 : decode cX1_isNumber 1 = .ok (.getfield 25, 3) := by decide +kernel
theorem dX1_isNumber_4 : decode cX1_isNumber 4 = .ok (.iconst 2, 1) := by decide +kernel
theorem dX1_isNumber_5 : decode cX1_isNumber 5 = .ok (.if_icmp .eq 9, 3) := by decide +kernel
theorem dX1_isNumber_8 : decode cX1_isNumber 8 = .ok (.aload_n 0, 1) := by decide +kernel
theorem dX1_isNumber_9 : decode cX1_isNumber 9 = .ok (.iconst 1, 1) := by decide +kernel
theorem dX1_isNumber_10 : decode cX1_isNumber 10 = .ok (.invokevirtual 68, 3) := by decide +kernel
theorem dX1_isNumber_13 : decode cX1_isNumber 13 = .ok (.ireturn, 1) := by decide +kernel
theorem dX1_isNumber_14 : decode cX1_isNumber 14 = .ok (.aload_n 0, 1) := by decide +kernel
theorem dX1_isNumber_15 : decode cX1_isNumber 15 = .ok (.getfield 28, 3) := by decide +kernel
theorem dX1_isNumber_18 : decode cX1_isNumber 18 = .ok (.iload_n 1, 1) := by decide +kernel
theorem dX1_isNumber_19 : decode cX1_isNumber 19 = .ok (.if_icmp .lt 11, 3) := by decide +kernel
theorem dX1_isNumber_22 : decode cX1_isNumber 22 = .ok (.aload_n 0, 1) := by decide +kernel
theorem dX1_isNumber_23 : decode cX1_isNumber 23 = .ok (.getfield 28, 3) := by decide +kernel
theorem dX1_isNumber_26 : decode cX1_isNumber 26 = .ok (.iload_n 2, 1) := by decide +kernel
theorem dX1_isNumber_27 : decode cX1_isNumber 27 = .ok (.if_icmp .le 11, 3) := by decide +kernel
theorem dX1_isNumber_30 : decode cX1_isNumber 30 = .ok (.aload_n 0, 1) := by decide +kernel
theorem dX1_isNumber_31 : decode cX1_isNumber 31 = .ok (.iconst 2, 1) := by decide +kernel
theorem dX1_isNumber_32 : decode cX1_isNumber 32 = .ok (.invokevirtual 68, 3) := by decide +kernel
theorem dX1_isNumber_35 : decode cX1_isNumber 35 = .ok (.ifCond .eq 7, 3) := by decide +kernel
theorem dX1_isNumber_38 : decode cX1_isNumber 38 = .ok (.iconst 1, 1) := by decide +kernel
theorem dX1_isNumber_39 : decode cX1_isNumber 39 = .ok (.goto 4, 3) := by decide +kernel
theorem dX1_isNumber_42 : decode cX1_isNumber 42 = .ok (.iconst 0, 1) := by decide +kernel
theorem dX1_isNumber_43 : decode cX1_isNumber 43 = .ok (.ireturn, 1) := by decide +kernel
theorem dX1_passSign_0 : decode cX1_passSign 0 = .ok (.aload_n 0, 1) := by decide +kernel
theorem dX1_passSign_1 : decode cX1_passSign 1 = .ok (.getfield 25, 3) := by decide +kernel
theorem dX1_passSign_4 : decode cX1_passSign 4 = .ok (.iconst 3, 1) := by decide +kernel
theorem dX1_passSign_5 : decode cX1_passSign 5 = .ok (.if_icmp .eq 9, 3) := by decide +kernel
theorem dX1_passSign_8 : decode cX1_passSign 8 = .ok (.aload_n 0, 1) := by decide +kernel
theorem dX1_passSign_9 : decode cX1_passSign 9 = .ok (.iconst 1, 1) := by decide +kernel
theorem dX1_passSign_10 : decode cX1_passSign 10 = .ok (.invokevirtual 68, 3) := by decide +kernel
theorem dX1_passSign_13 : decode cX1_passSign 13 = .ok (.ireturn, 1) := by decide +kernel
theorem dX1_passSign_14 : decode cX1_passSign 14 = .ok (.aload_n 0, 1) := by decide +kernel
theorem dX1_passSign_15 : decode cX1_passSign 15 = .ok (.invokevirtual 42, 3) := by decide +kernel
theorem dX1_passSign_18 : decode cX1_passSign 18 = .ok (.iconst 1, 1) := by decide +kernel
theorem dX1_passSign_19 : decode cX1_passSign 19 = .ok (.ireturn, 1) := by decide +kernel
theorem dX1_passWord_0 : decode cX1_passWord 0 = .ok (.aload_n 0, 1) := by decide +kernel
theorem dX1_passWord_1 : decode cX1_passWord 1 = .ok (.aload_n 1, 1) := by decide +kernel
theorem dX1_passWord_2 : decode cX1_passWord 2 = .ok (.invokevirtual 51, 3) := by decide +kernel
theorem dX1_passWord_5 : decode cX1_passWord 5 = .ok (.ifCond .ne 9, 3) := by decide +kernel
theorem dX1_passWord_8 : decode cX1_passWord 8 = .ok (.aload_n 0, 1) := by decide +kernel
theorem dX1_passWord_9 : decode cX1_passWord 9 = .ok (.iconst 1, 1) := by decide +kernel
theorem dX1_passWord_10 : decode cX1_passWord 10 = .ok (.invokevirtual 68, 3) := by decide +kernel
theorem dX1_passWord_13 : decode cX1_passWord 13 = .ok (.ireturn, 1) := by decide +kernel
theorem dX1_passWord_14 : decode cX1_passWord 14 = .ok (.aload_n 0, 1) := by decide +kernel
theorem dX1_passWord_15 : decode cX1_passWord 15 = .ok (.invokevirtual 42, 3) := by decide +kernel
theorem dX1_passWord_18 : decode cX1_passWord 18 = .ok (.iconst 1, 1) := by decide +kernel
theorem dX1_passWord_19 : decode cX1_passWord 19 = .ok (.ireturn, 1) := by decide +kernel
theorem dX1_pass_0 : decode cX1_pass 0 = .ok (.aload_n 0, 1) := by decide +kernel
theorem dX1_pass_1 : decode cX1_pass 1 = .ok (.getfield 28, 3) := by decide +kernel
theorem dX1_pass_4 : decode cX1_pass 4 = .ok (.istore_n 1, 1) := by decide +kernel
theorem dX1_pass_5 : decode cX1_pass 5 = .ok (.aload_n 0, 1) := by decide +kernel
theorem dX1_pass_6 : decode cX1_pass 6 = .ok (.invokevirtual 42, 3) := by decide +kernel
theorem dX1_pass_9 : decode cX1_pass 9 = .ok (.iload_n 1, 1) := by decide +kernel
theorem dX1_pass_10 : decode cX1_pass 10 = .ok (.ireturn, 1) := by decide +kernel
theorem dX1_isWord_0 : decode cX1_isWord 0 = .ok (.aload_n 0, 1) := by decide +kernel
theorem dX1_isWord_1 : decode cX1_isWord 1 = .ok (.getfield 25, 3) := by decide +kernel
theorem dX1_isWord_4 : decode cX1_isWord 4 = .ok (.iconst 1, 1) := by decide +kernel
theorem dX1_isWord_5 : decode cX1_isWord 5 = .ok (.if_icmp .ne 19, 3) := by decide +kernel
theorem dX1_isWord_8 : decode cX1_isWord 8 = .ok (.aload_n 0, 1) := by decide +kernel
theorem dX1_isWord_9 : decode cX1_isWord 9 = .ok (.getfield 22, 3) := by decide +kernel
theorem dX1_isWord_12 : decode cX1_isWord 12 = .ok (.aload_n 0, 1) := by decide +kernel
theorem dX1_isWord_13 : decode cX1_isWord 13 = .ok (.getfield 19, 3) := by decide +kernel
theorem dX1_isWord_16 : decode cX1_isWord 16 = .ok (.isub, 1) := by decide +kernel
theorem dX1_isWord_17 : decode cX1_isWord 17 = .ok (.aload_n 1, 1) := by decide +kernel
theorem dX1_isWord_18 : decode cX1_isWord 18 = .ok (.invokevirtual 134, 3) := by decide +kernel
theorem dX1_isWord_21 : decode cX1_isWord 21 = .ok (.if_icmp .eq 5, 3) := by decide +kernel
theorem dX1_isWord_24 : decode cX1_isWord 24 = .ok (.iconst 0, 1) := by decide +kernel
theorem dX1_isWord_25 : decode cX1_isWord 25 = .ok (.ireturn, 1) := by decide +kernel
theorem dX1_isWord_26 : decode cX1_isWord 26 = .ok (.iconst 0, 1) := by decide +kernel
theorem dX1_isWord_27 : decode cX1_isWord 27 = .ok (.istore_n 2, 1) := by decide +kernel
theorem dX1_isWord_28 : decode cX1_isWord 28 = .ok (.iload_n 2, 1) := by decide +kernel
theorem dX1_isWord_29 : decode cX1_isWord 29 = .ok (.aload_n 1, 1) := by decide +kernel
theorem dX1_isWord_30 : decode cX1_isWord 30 = .ok (.invokevirtual 134, 3) := by decide +kernel
theorem dX1_isWord_33 : decode cX1_isWord 33 = .ok (.if_icmp .ge 30, 3) := by decide +kernel
theorem dX1_isWord_36 : decode cX1_isWord 36 = .ok (.aload_n 0, 1) := by decide +kernel
theorem dX1_isWord_37 : decode cX1_isWord 37 = .ok (.getfield 9, 3) := by decide +kernel
theorem dX1_isWord_40 : decode cX1_isWord 40 = .ok (.aload_n 0, 1) := by decide +kernel
theorem dX1_isWord_41 : decode cX1_isWord 41 = .ok (.getfield 19, 3) := by decide +kernel
theorem dX1_isWord_44 : decode cX1_isWord 44 = .ok (.iload_n 2, 1) := by decide +kernel
theorem dX1_isWord_45 : decode cX1_isWord 45 = .ok (.iadd, 1) := by decide +kernel
theorem dX1_isWord_46 : decode cX1_isWord 46 = .ok (.baload, 1) := by decide +kernel
theorem dX1_isWord_47 : decode cX1_isWord 47 = .ok (.aload_n 1, 1) := by decide +kernel
theorem dX1_isWord_48 : decode cX1_isWord 48 = .ok (.iload_n 2, 1) := by decide +kernel
theorem dX1_isWord_49 : decode cX1_isWord 49 = .ok (.invokevirtual 139, 3) := by decide +kernel
theorem dX1_isWord_52 : decode cX1_isWord 52 = .ok (.if_icmp .eq 5, 3) := by decide +kernel
theorem dX1_isWord_55 : decode cX1_isWord 55 = .ok (.iconst 0, 1) := by decide +kernel
theorem dX1_isWord_56 : decode cX1_isWord 56 = .ok (.ireturn, 1) := by decide +kernel
theorem dX1_isWord_57 : decode cX1_isWord 57 = .ok (.iinc 2 1, 3) := by decide +kernel
theorem dX1_isWord_60 : decode cX1_isWord 60 = .ok (.goto (-32), 3) := by decide +kernel
theorem dX1_isWord_63 : decode cX1_isWord 63 = .ok (.iconst 1, 1) := by decide +kernel
theorem dX1_isWord_64 : decode cX1_isWord 64 = .ok (.ireturn, 1) := by decide +kernel
theorem dX1_advance_0 : decode cX1_advance 0 = .ok (.aload_n 0, 1) := by decide +kernel
theorem dX1_advance_1 : decode cX1_advance 1 = .ok (.getfield 22, 3) := by decide +kernel
theorem dX1_advance_4 : decode cX1_advance 4 = .ok (.aload_n 0, 1) := by decide +kernel
theorem dX1_advance_5 : decode cX1_advance 5 = .ok (.getfield 15, 3) := by decide +kernel
theorem dX1_advance_8 : decode cX1_advance 8 = .ok (.if_icmp .ge 31, 3) := by decide +kernel
theorem dX1_advance_11 : decode cX1_advance 11 = .ok (.aload_n 0, 1) := by decide +kernel
theorem dX1_advance_12 : decode cX1_advance 12 = .ok (.getfield 9, 3) := by decide +kernel
theorem dX1_advance_15 : decode cX1_advance 15 = .ok (.aload_n 0, 1) := by decide +kernel
theorem dX1_advance_16 : decode cX1_advance 16 = .ok (.getfield 22, 3) := by decide +kernel
theorem dX1_advance_19 : decode cX1_advance 19 = .ok (.baload, 1) := by decide +kernel
theorem dX1_advance_20 : decode cX1_advance 20 = .ok (.invokestatic 143, 3) := by decide +kernel
theorem dX1_advance_23 : decode cX1_advance 23 = .ok (.ifCond .eq 16, 3) := by decide +kernel
theorem dX1_advance_26 : decode cX1_advance 26 = .ok (.aload_n 0, 1) := by decide +kernel
theorem dX1_advance_27 : decode cX1_advance 27 = .ok (.dup, 1) := by decide +kernel
theorem dX1_advance_28 : decode cX1_advance 28 = .ok (.getfield 22, 3) := by decide +kernel
theorem dX1_advance_31 : decode cX1_advance 31 = .ok (.iconst 1, 1) := by decide +kernel
theorem dX1_advance_32 : decode cX1_advance 32 = .ok (.iadd, 1) := by decide +kernel
theorem dX1_advance_33 : decode cX1_advance 33 = .ok (.putfield 22, 3) := by decide +kernel
theorem dX1_advance_36 : decode cX1_advance 36 = .ok (.goto (-36), 3) := by decide +kernel
theorem dX1_advance_39 : decode cX1_advance 39 = .ok (.aload_n 0, 1) := by decide +kernel
theorem dX1_advance_40 : decode cX1_advance 40 = .ok (.aload_n 0, 1) := by decide +kernel
theorem dX1_advance_41 : decode cX1_advance 41 = .ok (.getfield 22, 3) := by decide +kernel
theorem dX1_advance_44 : decode cX1_advance 44 = .ok (.putfield 19, 3) := by decide +kernel
theorem dX1_advance_47 : decode cX1_advance 47 = .ok (.aload_n 0, 1) := by decide +kernel
theorem dX1_advance_48 : decode cX1_advance 48 = .ok (.iconst 0, 1) := by decide +kernel
theorem dX1_advance_49 : decode cX1_advance 49 = .ok (.putfield 28, 3) := by decide +kernel
theorem dX1_advance_52 : decode cX1_advance 52 = .ok (.aload_n 0, 1) := by decide +kernel
theorem dX1_advance_53 : decode cX1_advance 53 = .ok (.getfield 22, 3) := by decide +kernel
theorem dX1_advance_56 : decode cX1_advance 56 = .ok (.aload_n 0, 1) := by decide +kernel
theorem dX1_advance_57 : decode cX1_advance 57 = .ok (.getfield 15, 3) := by decide +kernel
theorem dX1_advance_60 : decode cX1_advance 60 = .ok (.if_icmp .lt 11, 3) := by decide +kernel
theorem dX1_advance_63 : decode cX1_advance 63 = .ok (.aload_n 0, 1) := by decide +kernel
theorem dX1_advance_64 : decode cX1_advance 64 = .ok (.iconst 0, 1) := by decide +kernel
theorem dX1_advance_65 : decode cX1_advance 65 = .ok (.putfield 25, 3) := by decide +kernel
theorem dX1_advance_68 : decode cX1_advance 68 = .ok (.goto 80, 3) := by decide +kernel
theorem dX1_advance_71 : decode cX1_advance 71 = .ok (.aload_n 0, 1) := by decide +kernel
theorem dX1_advance_72 : decode cX1_advance 72 = .ok (.getfield 9, 3) := by decide +kernel
theorem dX1_advance_75 : decode cX1_advance 75 = .ok (.aload_n 0, 1) := by decide +kernel
theorem dX1_advance_76 : decode cX1_advance 76 = .ok (.getfield 22, 3) := by decide +kernel
theorem dX1_advance_79 : decode cX1_advance 79 = .ok (.baload, 1) := by decide +kernel
theorem dX1_advance_80 : decode cX1_advance 80 = .ok (.invokestatic 147, 3) := by decide +kernel
theorem dX1_advance_83 : decode cX1_advance 83 = .ok (.ifCond .eq 10, 3) := by decide +kernel
theorem dX1_advance_86 : decode cX1_advance 86 = .ok (.aload_n 0, 1) := by decide +kernel
theorem dX1_advance_87 : decode cX1_advance 87 = .ok (.invokevirtual 150, 3) := by decide +kernel
theorem dX1_advance_90 : decode cX1_advance 90 = .ok (.goto 58, 3) := by decide +kernel
theorem dX1_advance_93 : decode cX1_advance 93 = .ok (.aload_n 0, 1) := by decide +kernel
theorem dX1_advance_94 : decode cX1_advance 94 = .ok (.getfield 9, 3) := by decide +kernel
theorem dX1_advance_97 : decode cX1_advance 97 = .ok (.aload_n 0, 1) := by decide +kernel
theorem dX1_advance_98 : decode cX1_advance 98 = .ok (.getfield 22, 3) := by decide +kernel
theorem dX1_advance_101 : decode cX1_advance 101 = .ok (.baload, 1) := by decide +kernel
theorem dX1_advance_102 : decode cX1_advance 102 = .ok (.invokestatic 153, 3) := by decide +kernel
theorem dX1_advance_105 : decode cX1_advance 105 = .ok (.ifCond .eq 10, 3) := by decide +kernel
theorem dX1_advance_108 : decode cX1_advance 108 = .ok (.aload_n 0, 1) := by decide +kernel
theorem dX1_advance_109 : decode cX1_advance 109 = .ok (.invokevirtual 156, 3) := by decide +kernel
theorem dX1_advance_112 : decode cX1_advance 112 = .ok (.goto 36, 3) := by decide +kernel
theorem dX1_advance_115 : decode cX1_advance 115 = .ok (.aload_n 0, 1) := by decide +kernel
theorem dX1_advance_116 : decode cX1_advance 116 = .ok (.aload_n 0, 1) := by decide +kernel
theorem dX1_advance_117 : decode cX1_advance 117 = .ok (.getfield 9, 3) := by decide +kernel
theorem dX1_advance_120 : decode cX1_advance 120 = .ok (.aload_n 0, 1) := by decide +kernel
theorem dX1_advance_121 : decode cX1_advance 121 = .ok (.getfield 22, 3) := by decide +kernel
theorem dX1_advance_124 : decode cX1_advance 124 = .ok (.baload, 1) := by decide +kernel
theorem dX1_advance_125 : decode cX1_advance 125 = .ok (.bipush 59, 2) := by decide +kernel
theorem dX1_advance_127 : decode cX1_advance 127 = .ok (.if_icmp .ne 7, 3) := by decide +kernel
theorem dX1_advance_130 : decode cX1_advance 130 = .ok (.iconst 3, 1) := by decide +kernel
theorem dX1_advance_131 : decode cX1_advance 131 = .ok (.goto 4, 3) := by decide +kernel
theorem dX1_advance_134 : decode cX1_advance 134 = .ok (.iconst 4, 1) := by decide +kernel
theorem dX1_advance_135 : decode cX1_advance 135 = .ok (.putfield 25, 3) := by decide +kernel
theorem dX1_advance_138 : decode cX1_advance 138 = .ok (.aload_n 0, 1) := by decide +kernel
theorem dX1_advance_139 : decode cX1_advance 139 = .ok (.dup, 1) := by decide +kernel
theorem dX1_advance_140 : decode cX1_advance 140 = .ok (.getfield 22, 3) := by decide +kernel
theorem dX1_advance_143 : decode cX1_advance 143 = .ok (.iconst 1, 1) := by decide +kernel
theorem dX1_advance_144 : decode cX1_advance 144 = .ok (.iadd, 1) := by decide +kernel
theorem dX1_advance_145 : decode cX1_advance 145 = .ok (.putfield 22, 3) := by decide +kernel
theorem dX1_advance_148 : decode cX1_advance 148 = .ok (.return_, 1) := by decide +kernel
theorem dX1_passLetters_0 : decode cX1_passLetters 0 = .ok (.aload_n 0, 1) := by decide +kernel
theorem dX1_passLetters_1 : decode cX1_passLetters 1 = .ok (.iconst 1, 1) := by decide +kernel
theorem dX1_passLetters_2 : decode cX1_passLetters 2 = .ok (.putfield 25, 3) := by decide +kernel
theorem dX1_passLetters_5 : decode cX1_passLetters 5 = .ok (.aload_n 0, 1) := by decide +kernel
theorem dX1_passLetters_6 : decode cX1_passLetters 6 = .ok (.getfield 22, 3) := by decide +kernel
theorem dX1_passLetters_9 : decode cX1_passLetters 9 = .ok (.aload_n 0, 1) := by decide +kernel
theorem dX1_passLetters_10 : decode cX1_passLetters 10 = .ok (.getfield 15, 3) := by decide +kernel
theorem dX1_passLetters_13 : decode cX1_passLetters 13 = .ok (.if_icmp .ge 31, 3) := by decide +kernel
theorem dX1_passLetters_16 : decode cX1_passLetters 16 = .ok (.aload_n 0, 1) := by decide +kernel
theorem dX1_passLetters_17 : decode cX1_passLetters 17 = .ok (.getfield 9, 3) := by decide +kernel
theorem dX1_passLetters_20 : decode cX1_passLetters 20 = .ok (.aload_n 0, 1) := by decide +kernel
theorem dX1_passLetters_21 : decode cX1_passLetters 21 = .ok (.getfield 22, 3) := by decide +kernel
theorem dX1_passLetters_24 : decode cX1_passLetters 24 = .ok (.baload, 1) := by decide +kernel
theorem dX1_passLetters_25 : decode cX1_passLetters 25 = .ok (.invokestatic 147, 3) := by decide +kernel
theorem dX1_passLetters_28 : decode cX1_passLetters 28 = .ok (.ifCond .eq 16, 3) := by decide +kernel
theorem dX1_passLetters_31 : decode cX1_passLetters 31 = .ok (.aload_n 0, 1) := by decide +kernel
theorem dX1_passLetters_32 : decode cX1_passLetters 32 = .ok (.dup, 1) := by decide +kernel
theorem dX1_passLetters_33 : decode cX1_passLetters 33 = .ok (.getfield 22, 3) := by decide +kernel
theorem dX1_passLetters_36 : decode cX1_passLetters 36 = .ok (.iconst 1, 1) := by decide +kernel
theorem dX1_passLetters_37 : decode cX1_passLetters 37 = .ok (.iadd, 1) := by decide +kernel
theorem dX1_passLetters_38 : decode cX1_passLetters 38 = .ok (.putfield 22, 3) := by decide +kernel
theorem dX1_passLetters_41 : decode cX1_passLetters 41 = .ok (.goto (-36), 3) := by decide +kernel
theorem dX1_passLetters_44 : decode cX1_passLetters 44 = .ok (.return_, 1) := by decide +kernel
theorem dX1_passFigures_0 : decode cX1_passFigures 0 = .ok (.aload_n 0, 1) := by decide +kernel
theorem dX1_passFigures_1 : decode cX1_passFigures 1 = .ok (.getfield 22, 3) := by decide +kernel
theorem dX1_passFigures_4 : decode cX1_passFigures 4 = .ok (.aload_n 0, 1) := by decide +kernel
theorem dX1_passFigures_5 : decode cX1_passFigures 5 = .ok (.getfield 15, 3) := by decide +kernel
theorem dX1_passFigures_8 : decode cX1_passFigures 8 = .ok (.if_icmp .ge 68, 3) := by decide +kernel
theorem dX1_passFigures_11 : decode cX1_passFigures 11 = .ok (.aload_n 0, 1) := by decide +kernel
theorem dX1_passFigures_12 : decode cX1_passFigures 12 = .ok (.getfield 9, 3) := by decide +kernel
theorem dX1_passFigures_15 : decode cX1_passFigures 15 = .ok (.aload_n 0, 1) := by decide +kernel
theorem dX1_passFigures_16 : decode cX1_passFigures 16 = .ok (.getfield 22, 3) := by decide +kernel
theorem dX1_passFigures_19 : decode cX1_passFigures 19 = .ok (.baload, 1) := by decide +kernel
theorem dX1_passFigures_20 : decode cX1_passFigures 20 = .ok (.invokestatic 153, 3) := by decide +kernel
theorem dX1_passFigures_23 : decode cX1_passFigures 23 = .ok (.ifCond .eq 53, 3) := by decide +kernel
theorem dX1_passFigures_26 : decode cX1_passFigures 26 = .ok (.aload_n 0, 1) := by decide +kernel
theorem dX1_passFigures_27 : decode cX1_passFigures 27 = .ok (.getfield 22, 3) := by decide +kernel
theorem dX1_passFigures_30 : decode cX1_passFigures 30 = .ok (.aload_n 0, 1) := by decide +kernel
theorem dX1_passFigures_31 : decode cX1_passFigures 31 = .ok (.getfield 19, 3) := by decide +kernel
theorem dX1_passFigures_34 : decode cX1_passFigures 34 = .ok (.isub, 1) := by decide +kernel
theorem dX1_passFigures_35 : decode cX1_passFigures 35 = .ok (.iconst 3, 1) := by decide +kernel
theorem dX1_passFigures_36 : decode cX1_passFigures 36 = .ok (.if_icmp .ge 27, 3) := by decide +kernel
theorem dX1_passFigures_39 : decode cX1_passFigures 39 = .ok (.aload_n 0, 1) := by decide +kernel
theorem dX1_passFigures_40 : decode cX1_passFigures 40 = .ok (.aload_n 0, 1) := by decide +kernel
theorem dX1_passFigures_41 : decode cX1_passFigures 41 = .ok (.getfield 28, 3) := by decide +kernel
theorem dX1_passFigures_44 : decode cX1_passFigures 44 = .ok (.bipush 10, 2) := by decide +kernel
theorem dX1_passFigures_46 : decode cX1_passFigures 46 = .ok (.imul, 1) := by decide +kernel
theorem dX1_passFigures_47 : decode cX1_passFigures 47 = .ok (.aload_n 0, 1) := by decide +kernel
theorem dX1_passFigures_48 : decode cX1_passFigures 48 = .ok (.getfield 9, 3) := by decide +kernel
theorem dX1_passFigures_51 : decode cX1_passFigures 51 = .ok (.aload_n 0, 1) := by decide +kernel
theorem dX1_passFigures_52 : decode cX1_passFigures 52 = .ok (.getfield 22, 3) := by decide +kernel
theorem dX1_passFigures_55 : decode cX1_passFigures 55 = .ok (.baload, 1) := by decide +kernel
theorem dX1_passFigures_56 : decode cX1_passFigures 56 = .ok (.iadd, 1) := by decide +kernel
theorem dX1_passFigures_57 : decode cX1_passFigures 57 = .ok (.bipush 48, 2) := by decide +kernel
theorem dX1_passFigures_59 : decode cX1_passFigures 59 = .ok (.isub, 1) := by decide +kernel
theorem dX1_passFigures_60 : decode cX1_passFigures 60 = .ok (.putfield 28, 3) := by decide +kernel
theorem dX1_passFigures_63 : decode cX1_passFigures 63 = .ok (.aload_n 0, 1) := by decide +kernel
theorem dX1_passFigures_64 : decode cX1_passFigures 64 = .ok (.dup, 1) := by decide +kernel
theorem dX1_passFigures_65 : decode cX1_passFigures 65 = .ok (.getfield 22, 3) := by decide +kernel
theorem dX1_passFigures_68 : decode cX1_passFigures 68 = .ok (.iconst 1, 1) := by decide +kernel
theorem dX1_passFigures_69 : decode cX1_passFigures 69 = .ok (.iadd, 1) := by decide +kernel
theorem dX1_passFigures_70 : decode cX1_passFigures 70 = .ok (.putfield 22, 3) := by decide +kernel
theorem dX1_passFigures_73 : decode cX1_passFigures 73 = .ok (.goto (-73), 3) := by decide +kernel
theorem dX1_passFigures_76 : decode cX1_passFigures 76 = .ok (.aload_n 0, 1) := by decide +kernel
theorem dX1_passFigures_77 : decode cX1_passFigures 77 = .ok (.aload_n 0, 1) := by decide +kernel
theorem dX1_passFigures_78 : decode cX1_passFigures 78 = .ok (.getfield 22, 3) := by decide +kernel
theorem dX1_passFigures_81 : decode cX1_passFigures 81 = .ok (.aload_n 0, 1) := by decide +kernel
theorem dX1_passFigures_82 : decode cX1_passFigures 82 = .ok (.getfield 19, 3) := by decide +kernel
theorem dX1_passFigures_85 : decode cX1_passFigures 85 = .ok (.isub, 1) := by decide +kernel
theorem dX1_passFigures_86 : decode cX1_passFigures 86 = .ok (.iconst 3, 1) := by decide +kernel
theorem dX1_passFigures_87 : decode cX1_passFigures 87 = .ok (.if_icmp .le 7, 3) := by decide +kernel
theorem dX1_passFigures_90 : decode cX1_passFigures 90 = .ok (.iconst 4, 1) := by decide +kernel
theorem dX1_passFigures_91 : decode cX1_passFigures 91 = .ok (.goto 4, 3) := by decide +kernel
theorem dX1_passFigures_94 : decode cX1_passFigures 94 = .ok (.iconst 2, 1) := by decide +kernel
theorem dX1_passFigures_95 : decode cX1_passFigures 95 = .ok (.putfield 25, 3) := by decide +kernel
theorem dX1_passFigures_98 : decode cX1_passFigures 98 = .ok (.return_, 1) := by decide +kernel
theorem dX1_isBlank_0 : decode cX1_isBlank 0 = .ok (.iload_n 0, 1) := by decide +kernel
theorem dX1_isBlank_1 : decode cX1_isBlank 1 = .ok (.bipush 32, 2) := by decide +kernel
theorem dX1_isBlank_3 : decode cX1_isBlank 3 = .ok (.if_icmp .eq 9, 3) := by decide +kernel
theorem dX1_isBlank_6 : decode cX1_isBlank 6 = .ok (.iload_n 0, 1) := by decide +kernel
theorem dX1_isBlank_7 : decode cX1_isBlank 7 = .ok (.bipush 10, 2) := by decide +kernel
theorem dX1_isBlank_9 : decode cX1_isBlank 9 = .ok (.if_icmp .ne 7, 3) := by decide +kernel
theorem dX1_isBlank_12 : decode cX1_isBlank 12 = .ok (.iconst 1, 1) := by decide +kernel
theorem dX1_isBlank_13 : decode cX1_isBlank 13 = .ok (.goto 4, 3) := by decide +kernel
theorem dX1_isBlank_16 : decode cX1_isBlank 16 = .ok (.iconst 0, 1) := by decide +kernel
theorem dX1_isBlank_17 : decode cX1_isBlank 17 = .ok (.ireturn, 1) := by decide +kernel
theorem dX1_isLetter_0 : decode cX1_isLetter 0 = .ok (.iload_n 0, 1) := by decide +kernel
theorem dX1_isLetter_1 : decode cX1_isLetter 1 = .ok (.bipush 97, 2) := by decide +kernel
theorem dX1_isLetter_3 : decode cX1_isLetter 3 = .ok (.if_icmp .lt 13, 3) := by decide +kernel
theorem dX1_isLetter_6 : decode cX1_isLetter 6 = .ok (.iload_n 0, 1) := by decide +kernel
theorem dX1_isLetter_7 : decode cX1_isLetter 7 = .ok (.bipush 122, 2) := by decide +kernel
theorem dX1_isLetter_9 : decode cX1_isLetter 9 = .ok (.if_icmp .gt 7, 3) := by decide +kernel
theorem dX1_isLetter_12 : decode cX1_isLetter 12 = .ok (.iconst 1, 1) := by decide +kernel
theorem dX1_isLetter_13 : decode cX1_isLetter 13 = .ok (.goto 4, 3) := by decide +kernel
theorem dX1_isLetter_16 : decode cX1_isLetter 16 = .ok (.iconst 0, 1) := by decide +kernel
theorem dX1_isLetter_17 : decode cX1_isLetter 17 = .ok (.ireturn, 1) := by decide +kernel
theorem dX1_isFigure_0 : decode cX1_isFigure 0 = .ok (.iload_n 0, 1) := by decide +kernel
theorem dX1_isFigure_1 : decode cX1_isFigure 1 = .ok (.bipush 48, 2) := by decide +kernel
theorem dX1_isFigure_3 : decode cX1_isFigure 3 = .ok (.if_icmp .lt 13, 3) := by decide +kernel
theorem dX1_isFigure_6 : decode cX1_isFigure 6 = .ok (.iload_n 0, 1) := by decide +kernel
theorem dX1_isFigure_7 : decode cX1_isFigure 7 = .ok (.bipush 57, 2) := by decide +kernel
theorem dX1_isFigure_9 : decode cX1_isFigure 9 = .ok (.if_icmp .gt 7, 3) := by decide +kernel
theorem dX1_isFigure_12 : decode cX1_isFigure 12 = .ok (.iconst 1, 1) := by decide +kernel
theorem dX1_isFigure_13 : decode cX1_isFigure 13 = .ok (.goto 4, 3) := by decide +kernel
theorem dX1_isFigure_16 : decode cX1_isFigure 16 = .ok (.iconst 0, 1) := by decide +kernel
theorem dX1_isFigure_17 : decode cX1_isFigure 17 = .ok (.ireturn, 1) := by decide +kernel
theorem dX2_init_0 : decode cX2_init 0 = .ok (.aload_n 0, 1) := by decide +kernel
theorem dX2_init_1 : decode cX2_init 1 = .ok (.invokespecial 3, 3) := by decide +kernel
theorem dX2_init_4 : decode cX2_init 4 = .ok (.aload_n 0, 1) := by decide +kernel
theorem dX2_init_5 : decode cX2_init 5 = .ok (.iconst 0, 1) := by decide +kernel
theorem dX2_init_6 : decode cX2_init 6 = .ok (.putfield 9, 3) := by decide +kernel
theorem dX2_init_9 : decode cX2_init 9 = .ok (.aload_n 0, 1) := by decide +kernel
theorem dX2_init_10 : decode cX2_init 10 = .ok (.iconst 0, 1) := by decide +kernel
theorem dX2_init_11 : decode cX2_init 11 = .ok (.putfield 15, 3) := by decide +kernel
theorem dX2_init_14 : decode cX2_init 14 = .ok (.aload_n 0, 1) := by decide +kernel
theorem dX2_init_15 : decode cX2_init 15 = .ok (.iconst 0, 1) := by decide +kernel
theorem dX2_init_16 : decode cX2_init 16 = .ok (.putfield 19, 3) := by decide +kernel
theorem dX2_init_19 : decode cX2_init 19 = .ok (.aload_n 0, 1) := by decide +kernel
theorem dX2_init_20 : decode cX2_init 20 = .ok (.bipush 40, 2) := by decide +kernel
theorem dX2_init_22 : decode cX2_init 22 = .ok (.newarray .int, 2) := by decide +kernel
theorem dX2_init_24 : decode cX2_init 24 = .ok (.putfield 22, 3) := by decide +kernel
theorem dX2_init_27 : decode cX2_init 27 = .ok (.return_, 1) := by decide +kernel
theorem dX2_begin_0 : decode cX2_begin 0 = .ok (.aload_n 0, 1) := by decide +kernel
theorem dX2_begin_1 : decode cX2_begin 1 = .ok (.iconst 1, 1) := by decide +kernel
theorem dX2_begin_2 : decode cX2_begin 2 = .ok (.putfield 9, 3) := by decide +kernel
theorem dX2_begin_5 : decode cX2_begin 5 = .ok (.aload_n 0, 1) := by decide +kernel
theorem dX2_begin_6 : decode cX2_begin 6 = .ok (.iload_n 1, 1) := by decide +kernel
theorem dX2_begin_7 : decode cX2_begin 7 = .ok (.putfield 15, 3) := by decide +kernel
theorem dX2_begin_10 : decode cX2_begin 10 = .ok (.aload_n 0, 1) := by decide +kernel
theorem dX2_begin_11 : decode cX2_begin 11 = .ok (.iload_n 2, 1) := by decide +kernel
theorem dX2_begin_12 : decode cX2_begin 12 = .ok (.putfield 19, 3) := by decide +kernel
theorem dX2_begin_15 : decode cX2_begin 15 = .ok (.aload_n 0, 1) := by decide +kernel
theorem dX2_begin_16 : decode cX2_begin 16 = .ok (.getfield 22, 3) := by decide +kernel
theorem dX2_begin_19 : decode cX2_begin 19 = .ok (.iconst 0, 1) := by decide +kernel
theorem dX2_begin_20 : decode cX2_begin 20 = .ok (.invokestatic 26, 3) := by decide +kernel
theorem dX2_begin_23 : decode cX2_begin 23 = .ok (.return_, 1) := by decide +kernel
theorem dX2_cutToLane_0 : decode cX2_cutToLane 0 = .ok (.aload_n 0, 1) := by decide +kernel
theorem dX2_cutToLane_1 : decode cX2_cutToLane 1 = .ok (.getfield 15, 3) := by decide +kernel
theorem dX2_cutToLane_4 : decode cX2_cutToLane 4 = .ok (.ifCond .ne 6, 3) := by decide +kernel
theorem dX2_cutToLane_7 : decode cX2_cutToLane 7 = .ok (.iload_n 1, 1) := by decide +kernel
theorem dX2_cutToLane_8 : decode cX2_cutToLane 8 = .ok (.i2b, 1) := by decide +kernel
theorem dX2_cutToLane_9 : decode cX2_cutToLane 9 = .ok (.ireturn, 1) := by decide +kernel
theorem dX2_cutToLane_10 : decode cX2_cutToLane 10 = .ok (.aload_n 0, 1) := by decide +kernel
theorem dX2_cutToLane_11 : decode cX2_cutToLane 11 = .ok (.getfield 15, 3) := by decide +kernel
theorem dX2_cutToLane_14 : decode cX2_cutToLane 14 = .ok (.iconst 1, 1) := by decide +kernel
theorem dX2_cutToLane_15 : decode cX2_cutToLane 15 = .ok (.if_icmp .ne 8, 3) := by decide +kernel
theorem dX2_cutToLane_18 : decode cX2_cutToLane 18 = .ok (.iload_n 1, 1) := by decide +kernel
theorem dX2_cutToLane_19 : decode cX2_cutToLane 19 = .ok (.i2s, 1) := by decide +kernel
theorem dX2_cutToLane_20 : decode cX2_cutToLane 20 = .ok (.goto 4, 3) := by decide +kernel
theorem dX2_cutToLane_23 : decode cX2_cutToLane 23 = .ok (.iload_n 1, 1) := by decide +kernel
theorem dX2_cutToLane_24 : decode cX2_cutToLane 24 = .ok (.ireturn, 1) := by decide +kernel
theorem dX2_has_0 : decode cX2_has 0 = .ok (.iload_n 1, 1) := by decide +kernel
theorem dX2_has_1 : decode cX2_has 1 = .ok (.ifCond .lt 29, 3) := by decide +kernel
theorem dX2_has_4 : decode cX2_has 4 = .ok (.iload_n 2, 1) := by decide +kernel
theorem dX2_has_5 : decode cX2_has 5 = .ok (.ifCond .lt 25, 3) := by decide +kernel
theorem dX2_has_8 : decode cX2_has 8 = .ok (.iload_n 2, 1) := by decide +kernel
theorem dX2_has_9 : decode cX2_has 9 = .ok (.aload_n 0, 1) := by decide +kernel
theorem dX2_has_10 : decode cX2_has 10 = .ok (.getfield 19, 3) := by decide +kernel
theorem dX2_has_13 : decode cX2_has 13 = .ok (.if_icmp .gt 17, 3) := by decide +kernel
theorem dX2_has_16 : decode cX2_has 16 = .ok (.iload_n 1, 1) := by decide +kernel
theorem dX2_has_17 : decode cX2_has 17 = .ok (.aload_n 0, 1) := by decide +kernel
theorem dX2_has_18 : decode cX2_has 18 = .ok (.getfield 19, 3) := by decide +kernel
theorem dX2_has_21 : decode cX2_has 21 = .ok (.iload_n 2, 1) := by decide +kernel
theorem dX2_has_22 : decode cX2_has 22 = .ok (.isub, 1) := by decide +kernel
theorem dX2_has_23 : decode cX2_has 23 = .ok (.if_icmp .gt 7, 3) := by decide +kernel
theorem dX2_has_26 : decode cX2_has 26 = .ok (.iconst 1, 1) := by decide +kernel
theorem dX2_has_27 : decode cX2_has 27 = .ok (.goto 4, 3) := by decide +kernel
theorem dX2_has_30 : decode cX2_has 30 = .ok (.iconst 0, 1) := by decide +kernel
theorem dX2_has_31 : decode cX2_has 31 = .ok (.ireturn, 1) := by decide +kernel
theorem dX3_init_0 : decode cX3_init 0 = .ok (.aload_n 0, 1) := by decide +kernel
theorem dX3_init_1 : decode cX3_init 1 = .ok (.invokespecial 3, 3) := by decide +kernel
theorem dX3_init_4 : decode cX3_init 4 = .ok (.aload_n 0, 1) := by decide +kernel
theorem dX3_init_5 : decode cX3_init 5 = .ok (.bipush 20, 2) := by decide +kernel
theorem dX3_init_7 : decode cX3_init 7 = .ok (.newarray .int, 2) := by decide +kernel
theorem dX3_init_9 : decode cX3_init 9 = .ok (.putfield 9, 3) := by decide +kernel
theorem dX3_init_12 : decode cX3_init 12 = .ok (.return_, 1) := by decide +kernel
theorem dX3_lookNow_0 : decode cX3_lookNow 0 = .ok (.aload_n 0, 1) := by decide +kernel
theorem dX3_lookNow_1 : decode cX3_lookNow 1 = .ok (.aload_n 1, 1) := by decide +kernel
theorem dX3_lookNow_2 : decode cX3_lookNow 2 = .ok (.aload_n 1, 1) := by decide +kernel
theorem dX3_lookNow_3 : decode cX3_lookNow 3 = .ok (.getfield 15, 3) := by decide +kernel
theorem dX3_lookNow_6 : decode cX3_lookNow 6 = .ok (.aload_n 1, 1) := by decide +kernel
theorem dX3_lookNow_7 : decode cX3_lookNow 7 = .ok (.getfield 21, 3) := by decide +kernel
theorem dX3_lookNow_10 : decode cX3_lookNow 10 = .ok (.invokevirtual 25, 3) := by decide +kernel
theorem dX3_lookNow_13 : decode cX3_lookNow 13 = .ok (.return_, 1) := by decide +kernel
theorem dX3_look_0 : decode cX3_look 0 = .ok (.aload_n 1, 1) := by decide +kernel
theorem dX3_look_1 : decode cX3_look 1 = .ok (.getfield 29, 3) := by decide +kernel
theorem dX3_look_4 : decode cX3_look 4 = .ok (.iconst 0, 1) := by decide +kernel
theorem dX3_look_5 : decode cX3_look 5 = .ok (.aload_n 0, 1) := by decide +kernel
theorem dX3_look_6 : decode cX3_look 6 = .ok (.getfield 9, 3) := by decide +kernel
theorem dX3_look_9 : decode cX3_look 9 = .ok (.iconst 0, 1) := by decide +kernel
theorem dX3_look_10 : decode cX3_look 10 = .ok (.bipush 20, 2) := by decide +kernel
theorem dX3_look_12 : decode cX3_look 12 = .ok (.invokestatic 32, 3) := by decide +kernel
theorem dX3_look_15 : decode cX3_look 15 = .ok (.iconst 0, 1) := by decide +kernel
theorem dX3_look_16 : decode cX3_look 16 = .ok (.istore 4, 2) := by decide +kernel
theorem dX3_look_18 : decode cX3_look 18 = .ok (.iload 4, 2) := by decide +kernel
theorem dX3_look_20 : decode cX3_look 20 = .ok (.aload_n 1, 1) := by decide +kernel
theorem dX3_look_21 : decode cX3_look 21 = .ok (.getfield 38, 3) := by decide +kernel
theorem dX3_look_24 : decode cX3_look 24 = .ok (.if_icmp .ge 28, 3) := by decide +kernel
theorem dX3_look_27 : decode cX3_look 27 = .ok (.aload_n 0, 1) := by decide +kernel
theorem dX3_look_28 : decode cX3_look 28 = .ok (.aload_n 1, 1) := by decide +kernel
theorem dX3_look_29 : decode cX3_look 29 = .ok (.getfield 41, 3) := by decide +kernel
theorem dX3_look_32 : decode cX3_look 32 = .ok (.iload 4, 2) := by decide +kernel
theorem dX3_look_34 : decode cX3_look 34 = .ok (.iaload, 1) := by decide +kernel
theorem dX3_look_35 : decode cX3_look 35 = .ok (.aload_n 1, 1) := by decide +kernel
theorem dX3_look_36 : decode cX3_look 36 = .ok (.iload 4, 2) := by decide +kernel
theorem dX3_look_38 : decode cX3_look 38 = .ok (.iload_n 2, 1) := by decide +kernel
theorem dX3_look_39 : decode cX3_look 39 = .ok (.iload_n 3, 1) := by decide +kernel
theorem dX3_look_40 : decode cX3_look 40 = .ok (.invokevirtual 44, 3) := by decide +kernel
theorem dX3_look_43 : decode cX3_look 43 = .ok (.invokevirtual 48, 3) := by decide +kernel
theorem dX3_look_46 : decode cX3_look 46 = .ok (.iinc 4 1, 3) := by decide +kernel
theorem dX3_look_49 : decode cX3_look 49 = .ok (.goto (-31), 3) := by decide +kernel
theorem dX3_look_52 : decode cX3_look 52 = .ok (.return_, 1) := by decide +kernel
theorem dX3_raise_0 : decode cX3_raise 0 = .ok (.iload_n 1, 1) := by decide +kernel
theorem dX3_raise_1 : decode cX3_raise 1 = .ok (.ifCond .lt 19, 3) := by decide +kernel
theorem dX3_raise_4 : decode cX3_raise 4 = .ok (.iload_n 1, 1) := by decide +kernel
theorem dX3_raise_5 : decode cX3_raise 5 = .ok (.bipush 20, 2) := by decide +kernel
theorem dX3_raise_7 : decode cX3_raise 7 = .ok (.if_icmp .ge 13, 3) := by decide +kernel
theorem dX3_raise_10 : decode cX3_raise 10 = .ok (.aload_n 0, 1) := by decide +kernel
theorem dX3_raise_11 : decode cX3_raise 11 = .ok (.getfield 9, 3) := by decide +kernel
theorem dX3_raise_14 : decode cX3_raise 14 = .ok (.iload_n 1, 1) := by decide +kernel
theorem dX3_raise_15 : decode cX3_raise 15 = .ok (.dup2, 1) := by decide +kernel
theorem dX3_raise_16 : decode cX3_raise 16 = .ok (.iaload, 1) := by decide +kernel
theorem dX3_raise_17 : decode cX3_raise 17 = .ok (.iload_n 2, 1) := by decide +kernel
theorem dX3_raise_18 : decode cX3_raise 18 = .ok (.iadd, 1) := by decide +kernel
theorem dX3_raise_19 : decode cX3_raise 19 = .ok (.iastore, 1) := by decide +kernel
theorem dX3_raise_20 : decode cX3_raise 20 = .ok (.return_, 1) := by decide +kernel
theorem dX3_isFree_0 : decode cX3_isFree 0 = .ok (.iconst 0, 1) := by decide +kernel
theorem dX3_isFree_1 : decode cX3_isFree 1 = .ok (.iload_n 2, 1) := by decide +kernel
theorem dX3_isFree_2 : decode cX3_isFree 2 = .ok (.iconst 1, 1) := by decide +kernel
theorem dX3_isFree_3 : decode cX3_isFree 3 = .ok (.iadd, 1) := by decide +kernel
theorem dX3_isFree_4 : decode cX3_isFree 4 = .ok (.invokestatic 52, 3) := by decide +kernel
theorem dX3_isFree_7 : decode cX3_isFree 7 = .ok (.istore 5, 2) := by decide +kernel
theorem dX3_isFree_9 : decode cX3_isFree 9 = .ok (.iload 5, 2) := by decide +kernel
theorem dX3_isFree_11 : decode cX3_isFree 11 = .ok (.iload 4, 2) := by decide +kernel
theorem dX3_isFree_13 : decode cX3_isFree 13 = .ok (.if_icmp .ge 48, 3) := by decide +kernel
theorem dX3_isFree_16 : decode cX3_isFree 16 = .ok (.iload 5, 2) := by decide +kernel
theorem dX3_isFree_18 : decode cX3_isFree 18 = .ok (.bipush 20, 2) := by decide +kernel
theorem dX3_isFree_20 : decode cX3_isFree 20 = .ok (.if_icmp .ge 41, 3) := by decide +kernel
theorem dX3_isFree_23 : decode cX3_isFree 23 = .ok (.iload_n 3, 1) := by decide +kernel
theorem dX3_isFree_24 : decode cX3_isFree 24 = .ok (.iload_n 1, 1) := by decide +kernel
theorem dX3_isFree_25 : decode cX3_isFree 25 = .ok (.isub, 1) := by decide +kernel
theorem dX3_isFree_26 : decode cX3_isFree 26 = .ok (.iload 5, 2) := by decide +kernel
theorem dX3_isFree_28 : decode cX3_isFree 28 = .ok (.iload_n 2, 1) := by decide +kernel
theorem dX3_isFree_29 : decode cX3_isFree 29 = .ok (.isub, 1) := by decide +kernel
theorem dX3_isFree_30 : decode cX3_isFree 30 = .ok (.imul, 1) := by decide +kernel
theorem dX3_isFree_31 : decode cX3_isFree 31 = .ok (.iload_n 1, 1) := by decide +kernel
theorem dX3_isFree_32 : decode cX3_isFree 32 = .ok (.iload 4, 2) := by decide +kernel
theorem dX3_isFree_34 : decode cX3_isFree 34 = .ok (.iload_n 2, 1) := by decide +kernel
theorem dX3_isFree_35 : decode cX3_isFree 35 = .ok (.isub, 1) := by decide +kernel
theorem dX3_isFree_36 : decode cX3_isFree 36 = .ok (.imul, 1) := by decide +kernel
theorem dX3_isFree_37 : decode cX3_isFree 37 = .ok (.iadd, 1) := by decide +kernel
theorem dX3_isFree_38 : decode cX3_isFree 38 = .ok (.aload_n 0, 1) := by decide +kernel
theorem dX3_isFree_39 : decode cX3_isFree 39 = .ok (.getfield 9, 3) := by decide +kernel
theorem dX3_isFree_42 : decode cX3_isFree 42 = .ok (.iload 5, 2) := by decide +kernel
theorem dX3_isFree_44 : decode cX3_isFree 44 = .ok (.iaload, 1) := by decide +kernel
theorem dX3_isFree_45 : decode cX3_isFree 45 = .ok (.iload 4, 2) := by decide +kernel
theorem dX3_isFree_47 : decode cX3_isFree 47 = .ok (.iload_n 2, 1) := by decide +kernel
theorem dX3_isFree_48 : decode cX3_isFree 48 = .ok (.isub, 1) := by decide +kernel
theorem dX3_isFree_49 : decode cX3_isFree 49 = .ok (.imul, 1) := by decide +kernel
theorem dX3_isFree_50 : decode cX3_isFree 50 = .ok (.if_icmp .gt 5, 3) := by decide +kernel
theorem dX3_isFree_53 : decode cX3_isFree 53 = .ok (.iconst 0, 1) := by decide +kernel
theorem dX3_isFree_54 : decode cX3_isFree 54 = .ok (.ireturn, 1) := by decide +kernel
theorem dX3_isFree_55 : decode cX3_isFree 55 = .ok (.iinc 5 1, 3) := by decide +kernel
theorem dX3_isFree_58 : decode cX3_isFree 58 = .ok (.goto (-49), 3) := by decide +kernel
theorem dX3_isFree_61 : decode cX3_isFree 61 = .ok (.iconst 1, 1) := by decide +kernel
theorem dX3_isFree_62 : decode cX3_isFree 62 = .ok (.ireturn, 1) := by decide +kernel
theorem dX3_leastStop_0 : decode cX3_leastStop 0 = .ok (.iload_n 2, 1) := by decide +kernel
theorem dX3_leastStop_1 : decode cX3_leastStop 1 = .ok (.iconst 1, 1) := by decide +kernel
theorem dX3_leastStop_2 : decode cX3_leastStop 2 = .ok (.if_icmp .ge 5, 3) := by decide +kernel
theorem dX3_leastStop_5 : decode cX3_leastStop 5 = .ok (.iconst 0, 1) := by decide +kernel
theorem dX3_leastStop_6 : decode cX3_leastStop 6 = .ok (.ireturn, 1) := by decide +kernel
theorem dX3_leastStop_7 : decode cX3_leastStop 7 = .ok (.iload_n 1, 1) := by decide +kernel
theorem dX3_leastStop_8 : decode cX3_leastStop 8 = .ok (.iload_n 0, 1) := by decide +kernel
theorem dX3_leastStop_9 : decode cX3_leastStop 9 = .ok (.isub, 1) := by decide +kernel
theorem dX3_leastStop_10 : decode cX3_leastStop 10 = .ok (.iload_n 3, 1) := by decide +kernel
theorem dX3_leastStop_11 : decode cX3_leastStop 11 = .ok (.imul, 1) := by decide +kernel
theorem dX3_leastStop_12 : decode cX3_leastStop 12 = .ok (.iload_n 0, 1) := by decide +kernel
theorem dX3_leastStop_13 : decode cX3_leastStop 13 = .ok (.iload_n 2, 1) := by decide +kernel
theorem dX3_leastStop_14 : decode cX3_leastStop 14 = .ok (.imul, 1) := by decide +kernel
theorem dX3_leastStop_15 : decode cX3_leastStop 15 = .ok (.iadd, 1) := by decide +kernel
theorem dX3_leastStop_16 : decode cX3_leastStop 16 = .ok (.iload_n 2, 1) := by decide +kernel
theorem dX3_leastStop_17 : decode cX3_leastStop 17 = .ok (.iadd, 1) := by decide +kernel
theorem dX3_leastStop_18 : decode cX3_leastStop 18 = .ok (.iconst 1, 1) := by decide +kernel
theorem dX3_leastStop_19 : decode cX3_leastStop 19 = .ok (.isub, 1) := by decide +kernel
theorem dX3_leastStop_20 : decode cX3_leastStop 20 = .ok (.iload_n 2, 1) := by decide +kernel
theorem dX3_leastStop_21 : decode cX3_leastStop 21 = .ok (.idiv, 1) := by decide +kernel
theorem dX3_leastStop_22 : decode cX3_leastStop 22 = .ok (.ireturn, 1) := by decide +kernel
theorem dX3_isSeen_0 : decode cX3_isSeen 0 = .ok (.aload_n 1, 1) := by decide +kernel
theorem dX3_isSeen_1 : decode cX3_isSeen 1 = .ok (.getfield 58, 3) := by decide +kernel
theorem dX3_isSeen_4 : decode cX3_isSeen 4 = .ok (.iload_n 2, 1) := by decide +kernel
theorem dX3_isSeen_5 : decode cX3_isSeen 5 = .ok (.iaload, 1) := by decide +kernel
theorem dX3_isSeen_6 : decode cX3_isSeen 6 = .ok (.istore 5, 2) := by decide +kernel
theorem dX3_isSeen_8 : decode cX3_isSeen 8 = .ok (.iload_n 3, 1) := by decide +kernel
theorem dX3_isSeen_9 : decode cX3_isSeen 9 = .ok (.iload 5, 2) := by decide +kernel
theorem dX3_isSeen_11 : decode cX3_isSeen 11 = .ok (.if_icmp .ge 31, 3) := by decide +kernel
theorem dX3_isSeen_14 : decode cX3_isSeen 14 = .ok (.aload_n 0, 1) := by decide +kernel
theorem dX3_isSeen_15 : decode cX3_isSeen 15 = .ok (.aload_n 1, 1) := by decide +kernel
theorem dX3_isSeen_16 : decode cX3_isSeen 16 = .ok (.getfield 29, 3) := by decide +kernel
theorem dX3_isSeen_19 : decode cX3_isSeen 19 = .ok (.iload_n 3, 1) := by decide +kernel
theorem dX3_isSeen_20 : decode cX3_isSeen 20 = .ok (.iaload, 1) := by decide +kernel
theorem dX3_isSeen_21 : decode cX3_isSeen 21 = .ok (.iload 4, 2) := by decide +kernel
theorem dX3_isSeen_23 : decode cX3_isSeen 23 = .ok (.iadd, 1) := by decide +kernel
theorem dX3_isSeen_24 : decode cX3_isSeen 24 = .ok (.iload_n 3, 1) := by decide +kernel
theorem dX3_isSeen_25 : decode cX3_isSeen 25 = .ok (.aload_n 1, 1) := by decide +kernel
theorem dX3_isSeen_26 : decode cX3_isSeen 26 = .ok (.iload_n 2, 1) := by decide +kernel
theorem dX3_isSeen_27 : decode cX3_isSeen 27 = .ok (.invokevirtual 61, 3) := by decide +kernel
theorem dX3_isSeen_30 : decode cX3_isSeen 30 = .ok (.iload 5, 2) := by decide +kernel
theorem dX3_isSeen_32 : decode cX3_isSeen 32 = .ok (.invokevirtual 65, 3) := by decide +kernel
theorem dX3_isSeen_35 : decode cX3_isSeen 35 = .ok (.ifCond .eq 7, 3) := by decide +kernel
theorem dX3_isSeen_38 : decode cX3_isSeen 38 = .ok (.iconst 1, 1) := by decide +kernel
theorem dX3_isSeen_39 : decode cX3_isSeen 39 = .ok (.goto 4, 3) := by decide +kernel
theorem dX3_isSeen_42 : decode cX3_isSeen 42 = .ok (.iconst 0, 1) := by decide +kernel
theorem dX3_isSeen_43 : decode cX3_isSeen 43 = .ok (.ireturn, 1) := by decide +kernel
theorem dX3_thingsFrom_0 : decode cX3_thingsFrom 0 = .ok (.iconst 0, 1) := by decide +kernel
theorem dX3_thingsFrom_1 : decode cX3_thingsFrom 1 = .ok (.istore 4, 2) := by decide +kernel
theorem dX3_thingsFrom_3 : decode cX3_thingsFrom 3 = .ok (.iconst 0, 1) := by decide +kernel
theorem dX3_thingsFrom_4 : decode cX3_thingsFrom 4 = .ok (.istore 5, 2) := by decide +kernel
theorem dX3_thingsFrom_6 : decode cX3_thingsFrom 6 = .ok (.iload 5, 2) := by decide +kernel
theorem dX3_thingsFrom_8 : decode cX3_thingsFrom 8 = .ok (.aload_n 1, 1) := by decide +kernel
theorem dX3_thingsFrom_9 : decode cX3_thingsFrom 9 = .ok (.getfield 69, 3) := by decide +kernel
theorem dX3_thingsFrom_12 : decode cX3_thingsFrom 12 = .ok (.if_icmp .ge 30, 3) := by decide +kernel
theorem dX3_thingsFrom_15 : decode cX3_thingsFrom 15 = .ok (.aload_n 0, 1) := by decide +kernel
theorem dX3_thingsFrom_16 : decode cX3_thingsFrom 16 = .ok (.aload_n 1, 1) := by decide +kernel
theorem dX3_thingsFrom_17 : decode cX3_thingsFrom 17 = .ok (.iload 5, 2) := by decide +kernel
theorem dX3_thingsFrom_19 : decode cX3_thingsFrom 19 = .ok (.iload_n 2, 1) := by decide +kernel
theorem dX3_thingsFrom_20 : decode cX3_thingsFrom 20 = .ok (.iload_n 3, 1) := by decide +kernel
theorem dX3_thingsFrom_21 : decode cX3_thingsFrom 21 = .ok (.invokevirtual 72, 3) := by decide +kernel
theorem dX3_thingsFrom_24 : decode cX3_thingsFrom 24 = .ok (.ifCond .eq 12, 3) := by decide +kernel
theorem dX3_thingsFrom_27 : decode cX3_thingsFrom 27 = .ok (.iload 4, 2) := by decide +kernel
theorem dX3_thingsFrom_29 : decode cX3_thingsFrom 29 = .ok (.iconst 1, 1) := by decide +kernel
theorem dX3_thingsFrom_30 : decode cX3_thingsFrom 30 = .ok (.iload 5, 2) := by decide +kernel
theorem dX3_thingsFrom_32 : decode cX3_thingsFrom 32 = .ok (.ishl, 1) := by decide +kernel
theorem dX3_thingsFrom_33 : decode cX3_thingsFrom 33 = .ok (.ior, 1) := by decide +kernel
theorem dX3_thingsFrom_34 : decode cX3_thingsFrom 34 = .ok (.istore 4, 2) := by decide +kernel
theorem dX3_thingsFrom_36 : decode cX3_thingsFrom 36 = .ok (.iinc 5 1, 3) := by decide +kernel
theorem dX3_thingsFrom_39 : decode cX3_thingsFrom 39 = .ok (.goto (-33), 3) := by decide +kernel
theorem dX3_thingsFrom_42 : decode cX3_thingsFrom 42 = .ok (.iload 4, 2) := by decide +kernel
theorem dX3_thingsFrom_44 : decode cX3_thingsFrom 44 = .ok (.ireturn, 1) := by decide +kernel
theorem dX3_isDoubled_0 : decode cX3_isDoubled 0 = .ok (.aload_n 0, 1) := by decide +kernel
theorem dX3_isDoubled_1 : decode cX3_isDoubled 1 = .ok (.aload_n 1, 1) := by decide +kernel
theorem dX3_isDoubled_2 : decode cX3_isDoubled 2 = .ok (.iload_n 2, 1) := by decide +kernel
theorem dX3_isDoubled_3 : decode cX3_isDoubled 3 = .ok (.iconst 0, 1) := by decide +kernel
theorem dX3_isDoubled_4 : decode cX3_isDoubled 4 = .ok (.iload_n 3, 1) := by decide +kernel
theorem dX3_isDoubled_5 : decode cX3_isDoubled 5 = .ok (.invokevirtual 72, 3) := by decide +kernel
theorem dX3_isDoubled_8 : decode cX3_isDoubled 8 = .ok (.ifCond .ne 5, 3) := by decide +kernel
theorem dX3_isDoubled_11 : decode cX3_isDoubled 11 = .ok (.iconst 0, 1) := by decide +kernel
theorem dX3_isDoubled_12 : decode cX3_isDoubled 12 = .ok (.ireturn, 1) := by decide +kernel
theorem dX3_isDoubled_13 : decode cX3_isDoubled 13 = .ok (.aload_n 1, 1) := by decide +kernel
theorem dX3_isDoubled_14 : decode cX3_isDoubled 14 = .ok (.getfield 58, 3) := by decide +kernel
theorem dX3_isDoubled_17 : decode cX3_isDoubled 17 = .ok (.iload_n 2, 1) := by decide +kernel
theorem dX3_isDoubled_18 : decode cX3_isDoubled 18 = .ok (.iaload, 1) := by decide +kernel
theorem dX3_isDoubled_19 : decode cX3_isDoubled 19 = .ok (.istore 4, 2) := by decide +kernel
theorem dX3_isDoubled_21 : decode cX3_isDoubled 21 = .ok (.iconst 1, 1) := by decide +kernel
theorem dX3_isDoubled_22 : decode cX3_isDoubled 22 = .ok (.aload_n 1, 1) := by decide +kernel
theorem dX3_isDoubled_23 : decode cX3_isDoubled 23 = .ok (.getfield 76, 3) := by decide +kernel
theorem dX3_isDoubled_26 : decode cX3_isDoubled 26 = .ok (.invokestatic 52, 3) := by decide +kernel
theorem dX3_isDoubled_29 : decode cX3_isDoubled 29 = .ok (.istore 5, 2) := by decide +kernel
theorem dX3_isDoubled_31 : decode cX3_isDoubled 31 = .ok (.iload 5, 2) := by decide +kernel
theorem dX3_isDoubled_33 : decode cX3_isDoubled 33 = .ok (.aload_n 1, 1) := by decide +kernel
theorem dX3_isDoubled_34 : decode cX3_isDoubled 34 = .ok (.getfield 79, 3) := by decide +kernel
theorem dX3_isDoubled_37 : decode cX3_isDoubled 37 = .ok (.if_icmp .gt 66, 3) := by decide +kernel
theorem dX3_isDoubled_40 : decode cX3_isDoubled 40 = .ok (.iload 5, 2) := by decide +kernel
theorem dX3_isDoubled_42 : decode cX3_isDoubled 42 = .ok (.iload 4, 2) := by decide +kernel
theorem dX3_isDoubled_44 : decode cX3_isDoubled 44 = .ok (.if_icmp .ge 59, 3) := by decide +kernel
theorem dX3_isDoubled_47 : decode cX3_isDoubled 47 = .ok (.aload_n 0, 1) := by decide +kernel
theorem dX3_isDoubled_48 : decode cX3_isDoubled 48 = .ok (.aload_n 1, 1) := by decide +kernel
theorem dX3_isDoubled_49 : decode cX3_isDoubled 49 = .ok (.getfield 29, 3) := by decide +kernel
theorem dX3_isDoubled_52 : decode cX3_isDoubled 52 = .ok (.iconst 0, 1) := by decide +kernel
theorem dX3_isDoubled_53 : decode cX3_isDoubled 53 = .ok (.iaload, 1) := by decide +kernel
theorem dX3_isDoubled_54 : decode cX3_isDoubled 54 = .ok (.iload_n 3, 1) := by decide +kernel
theorem dX3_isDoubled_55 : decode cX3_isDoubled 55 = .ok (.iadd, 1) := by decide +kernel
theorem dX3_isDoubled_56 : decode cX3_isDoubled 56 = .ok (.iconst 0, 1) := by decide +kernel
theorem dX3_isDoubled_57 : decode cX3_isDoubled 57 = .ok (.aload_n 1, 1) := by decide +kernel
theorem dX3_isDoubled_58 : decode cX3_isDoubled 58 = .ok (.getfield 29, 3) := by decide +kernel
theorem dX3_isDoubled_61 : decode cX3_isDoubled 61 = .ok (.iload 5, 2) := by decide +kernel
theorem dX3_isDoubled_63 : decode cX3_isDoubled 63 = .ok (.iaload, 1) := by decide +kernel
theorem dX3_isDoubled_64 : decode cX3_isDoubled 64 = .ok (.iload 5, 2) := by decide +kernel
theorem dX3_isDoubled_66 : decode cX3_isDoubled 66 = .ok (.invokevirtual 65, 3) := by decide +kernel
theorem dX3_isDoubled_69 : decode cX3_isDoubled 69 = .ok (.ifCond .eq 28, 3) := by decide +kernel
theorem dX3_isDoubled_72 : decode cX3_isDoubled 72 = .ok (.aload_n 0, 1) := by decide +kernel
theorem dX3_isDoubled_73 : decode cX3_isDoubled 73 = .ok (.aload_n 1, 1) := by decide +kernel
theorem dX3_isDoubled_74 : decode cX3_isDoubled 74 = .ok (.getfield 29, 3) := by decide +kernel
theorem dX3_isDoubled_77 : decode cX3_isDoubled 77 = .ok (.iload 5, 2) := by decide +kernel
theorem dX3_isDoubled_79 : decode cX3_isDoubled 79 = .ok (.iaload, 1) := by decide +kernel
theorem dX3_isDoubled_80 : decode cX3_isDoubled 80 = .ok (.iload 5, 2) := by decide +kernel
theorem dX3_isDoubled_82 : decode cX3_isDoubled 82 = .ok (.aload_n 1, 1) := by decide +kernel
theorem dX3_isDoubled_83 : decode cX3_isDoubled 83 = .ok (.iload_n 2, 1) := by decide +kernel
theorem dX3_isDoubled_84 : decode cX3_isDoubled 84 = .ok (.invokevirtual 61, 3) := by decide +kernel
theorem dX3_isDoubled_87 : decode cX3_isDoubled 87 = .ok (.iload 4, 2) := by decide +kernel
theorem dX3_isDoubled_89 : decode cX3_isDoubled 89 = .ok (.invokevirtual 65, 3) := by decide +kernel
theorem dX3_isDoubled_92 : decode cX3_isDoubled 92 = .ok (.ifCond .eq 5, 3) := by decide +kernel
theorem dX3_isDoubled_95 : decode cX3_isDoubled 95 = .ok (.iconst 1, 1) := by decide +kernel
theorem dX3_isDoubled_96 : decode cX3_isDoubled 96 = .ok (.ireturn, 1) := by decide +kernel
theorem dX3_isDoubled_97 : decode cX3_isDoubled 97 = .ok (.iinc 5 1, 3) := by decide +kernel
theorem dX3_isDoubled_100 : decode cX3_isDoubled 100 = .ok (.goto (-69), 3) := by decide +kernel
theorem dX3_isDoubled_103 : decode cX3_isDoubled 103 = .ok (.iconst 0, 1) := by decide +kernel
theorem dX3_isDoubled_104 : decode cX3_isDoubled 104 = .ok (.ireturn, 1) := by decide +kernel
theorem dX3_wantsAreMet_0 : decode cX3_wantsAreMet 0 = .ok (.iconst 0, 1) := by decide +kernel
theorem dX3_wantsAreMet_1 : decode cX3_wantsAreMet 1 = .ok (.istore_n 3, 1) := by decide +kernel
theorem dX3_wantsAreMet_2 : decode cX3_wantsAreMet 2 = .ok (.iload_n 3, 1) := by decide +kernel
theorem dX3_wantsAreMet_3 : decode cX3_wantsAreMet 3 = .ok (.aload_n 1, 1) := by decide +kernel
theorem dX3_wantsAreMet_4 : decode cX3_wantsAreMet 4 = .ok (.getfield 69, 3) := by decide +kernel
theorem dX3_wantsAreMet_7 : decode cX3_wantsAreMet 7 = .ok (.if_icmp .ge 28, 3) := by decide +kernel
theorem dX3_wantsAreMet_10 : decode cX3_wantsAreMet 10 = .ok (.aload_n 0, 1) := by decide +kernel
theorem dX3_wantsAreMet_11 : decode cX3_wantsAreMet 11 = .ok (.aload_n 1, 1) := by decide +kernel
theorem dX3_wantsAreMet_12 : decode cX3_wantsAreMet 12 = .ok (.iload_n 3, 1) := by decide +kernel
theorem dX3_wantsAreMet_13 : decode cX3_wantsAreMet 13 = .ok (.iconst 0, 1) := by decide +kernel
theorem dX3_wantsAreMet_14 : decode cX3_wantsAreMet 14 = .ok (.iload_n 2, 1) := by decide +kernel
theorem dX3_wantsAreMet_15 : decode cX3_wantsAreMet 15 = .ok (.invokevirtual 72, 3) := by decide +kernel
theorem dX3_wantsAreMet_18 : decode cX3_wantsAreMet 18 = .ok (.aload_n 1, 1) := by decide +kernel
theorem dX3_wantsAreMet_19 : decode cX3_wantsAreMet 19 = .ok (.getfield 82, 3) := by decide +kernel
theorem dX3_wantsAreMet_22 : decode cX3_wantsAreMet 22 = .ok (.iload_n 3, 1) := by decide +kernel
theorem dX3_wantsAreMet_23 : decode cX3_wantsAreMet 23 = .ok (.baload, 1) := by decide +kernel
theorem dX3_wantsAreMet_24 : decode cX3_wantsAreMet 24 = .ok (.if_icmp .eq 5, 3) := by decide +kernel
theorem dX3_wantsAreMet_27 : decode cX3_wantsAreMet 27 = .ok (.iconst 0, 1) := by decide +kernel
theorem dX3_wantsAreMet_28 : decode cX3_wantsAreMet 28 = .ok (.ireturn, 1) := by decide +kernel
theorem dX3_wantsAreMet_29 : decode cX3_wantsAreMet 29 = .ok (.iinc 3 1, 3) := by decide +kernel
theorem dX3_wantsAreMet_32 : decode cX3_wantsAreMet 32 = .ok (.goto (-30), 3) := by decide +kernel
theorem dX3_wantsAreMet_35 : decode cX3_wantsAreMet 35 = .ok (.iconst 1, 1) := by decide +kernel
theorem dX3_wantsAreMet_36 : decode cX3_wantsAreMet 36 = .ok (.ireturn, 1) := by decide +kernel
theorem dX3_wantsAreMetForAll_0 : decode cX3_wantsAreMetForAll 0 = .ok (.iconst 0, 1) := by decide +kernel
theorem dX3_wantsAreMetForAll_1 : decode cX3_wantsAreMetForAll 1 = .ok (.istore_n 3, 1) := by decide +kernel
theorem dX3_wantsAreMetForAll_2 : decode cX3_wantsAreMetForAll 2 = .ok (.iload_n 3, 1) := by decide +kernel
theorem dX3_wantsAreMetForAll_3 : decode cX3_wantsAreMetForAll 3 = .ok (.bipush 31, 2) := by decide +kernel
theorem dX3_wantsAreMetForAll_5 : decode cX3_wantsAreMetForAll 5 = .ok (.if_icmp .ge 28, 3) := by decide +kernel
theorem dX3_wantsAreMetForAll_8 : decode cX3_wantsAreMetForAll 8 = .ok (.iload_n 2, 1) := by decide +kernel
theorem dX3_wantsAreMetForAll_9 : decode cX3_wantsAreMetForAll 9 = .ok (.iload_n 3, 1) := by decide +kernel
theorem dX3_wantsAreMetForAll_10 : decode cX3_wantsAreMetForAll 10 = .ok (.invokestatic 86, 3) := by decide +kernel
theorem dX3_wantsAreMetForAll_13 : decode cX3_wantsAreMetForAll 13 = .ok (.ifCond .eq 14, 3) := by decide +kernel
theorem dX3_wantsAreMetForAll_16 : decode cX3_wantsAreMetForAll 16 = .ok (.aload_n 0, 1) := by decide +kernel
theorem dX3_wantsAreMetForAll_17 : decode cX3_wantsAreMetForAll 17 = .ok (.aload_n 1, 1) := by decide +kernel
theorem dX3_wantsAreMetForAll_18 : decode cX3_wantsAreMetForAll 18 = .ok (.iload_n 3, 1) := by decide +kernel
theorem dX3_wantsAreMetForAll_19 : decode cX3_wantsAreMetForAll 19 = .ok (.invokevirtual 90, 3) := by decide +kernel
theorem dX3_wantsAreMetForAll_22 : decode cX3_wantsAreMetForAll 22 = .ok (.ifCond .ne 5, 3) := by decide +kernel
theorem dX3_wantsAreMetForAll_25 : decode cX3_wantsAreMetForAll 25 = .ok (.iconst 0, 1) := by decide +kernel
theorem dX3_wantsAreMetForAll_26 : decode cX3_wantsAreMetForAll 26 = .ok (.ireturn, 1) := by decide +kernel
theorem dX3_wantsAreMetForAll_27 : decode cX3_wantsAreMetForAll 27 = .ok (.iinc 3 1, 3) := by decide +kernel
theorem dX3_wantsAreMetForAll_30 : decode cX3_wantsAreMetForAll 30 = .ok (.goto (-28), 3) := by decide +kernel
theorem dX3_wantsAreMetForAll_33 : decode cX3_wantsAreMetForAll 33 = .ok (.iconst 1, 1) := by decide +kernel
theorem dX3_wantsAreMetForAll_34 : decode cX3_wantsAreMetForAll 34 = .ok (.ireturn, 1) := by decide +kernel
theorem dX4_init_0 : decode cX4_init 0 = .ok (.aload_n 0, 1) := by decide +kernel
theorem dX4_init_1 : decode cX4_init 1 = .ok (.invokespecial 3, 3) := by decide +kernel
theorem dX4_init_4 : decode cX4_init 4 = .ok (.aload_n 0, 1) := by decide +kernel
theorem dX4_init_5 : decode cX4_init 5 = .ok (.bipush 16, 2) := by decide +kernel
theorem dX4_init_7 : decode cX4_init 7 = .ok (.newarray .int, 2) := by decide +kernel
theorem dX4_init_9 : decode cX4_init 9 = .ok (.putfield 9, 3) := by decide +kernel
theorem dX4_init_12 : decode cX4_init 12 = .ok (.aload_n 0, 1) := by decide +kernel
theorem dX4_init_13 : decode cX4_init 13 = .ok (.iconst 0, 1) := by decide +kernel
theorem dX4_init_14 : decode cX4_init 14 = .ok (.putfield 15, 3) := by decide +kernel
theorem dX4_init_17 : decode cX4_init 17 = .ok (.return_, 1) := by decide +kernel
theorem dX4_note_0 : decode cX4_note 0 = .ok (.aload_n 0, 1) := by decide +kernel
theorem dX4_note_1 : decode cX4_note 1 = .ok (.getfield 15, 3) := by decide +kernel
theorem dX4_note_4 : decode cX4_note 4 = .ok (.bipush 16, 2) := by decide +kernel
theorem dX4_note_6 : decode cX4_note 6 = .ok (.if_icmp .ge 23, 3) := by decide +kernel
theorem dX4_note_9 : decode cX4_note 9 = .ok (.aload_n 0, 1) := by decide +kernel
theorem dX4_note_10 : decode cX4_note 10 = .ok (.getfield 9, 3) := by decide +kernel
theorem dX4_note_13 : decode cX4_note 13 = .ok (.aload_n 0, 1) := by decide +kernel
theorem dX4_note_14 : decode cX4_note 14 = .ok (.getfield 15, 3) := by decide +kernel
theorem dX4_note_17 : decode cX4_note 17 = .ok (.iload_n 1, 1) := by decide +kernel
theorem dX4_note_18 : decode cX4_note 18 = .ok (.iastore, 1) := by decide +kernel
theorem dX4_note_19 : decode cX4_note 19 = .ok (.aload_n 0, 1) := by decide +kernel
theorem dX4_note_20 : decode cX4_note 20 = .ok (.dup, 1) := by decide +kernel
theorem dX4_note_21 : decode cX4_note 21 = .ok (.getfield 15, 3) := by decide +kernel
theorem dX4_note_24 : decode cX4_note 24 = .ok (.iconst 1, 1) := by decide +kernel
theorem dX4_note_25 : decode cX4_note 25 = .ok (.iadd, 1) := by decide +kernel
theorem dX4_note_26 : decode cX4_note 26 = .ok (.putfield 15, 3) := by decide +kernel
theorem dX4_note_29 : decode cX4_note 29 = .ok (.return_, 1) := by decide +kernel
theorem dJ0_length_8abf5_0 : decode cJ0_length_8abf5 0 = .ok (.aload_n 0, 1) := by decide +kernel
theorem dJ0_length_8abf5_1 : decode cJ0_length_8abf5 1 = .ok (.getfield 9, 3) := by decide +kernel
theorem dJ0_length_8abf5_4 : decode cJ0_length_8abf5 4 = .ok (.arraylength, 1) := by decide +kernel
theorem dJ0_length_8abf5_5 : decode cJ0_length_8abf5 5 = .ok (.aload_n 0, 1) := by decide +kernel
theorem dJ0_length_8abf5_6 : decode cJ0_length_8abf5 6 = .ok (.invokevirtual 335, 3) := by decide +kernel
theorem dJ0_length_8abf5_9 : decode cJ0_length_8abf5 9 = .ok (.ishr, 1) := by decide +kernel
theorem dJ0_length_8abf5_10 : decode cJ0_length_8abf5 10 = .ok (.ireturn, 1) := by decide +kernel
theorem dJ0_charAt_5068e_0 : decode cJ0_charAt_5068e 0 = .ok (.aload_n 0, 1) := by decide +kernel
theorem dJ0_charAt_5068e_1 : decode cJ0_charAt_5068e 1 = .ok (.invokevirtual 492, 3) := by decide +kernel
theorem dJ0_charAt_5068e_4 : decode cJ0_charAt_5068e 4 = .ok (.ifCond .eq 12, 3) := by decide +kernel
theorem dJ0_charAt_5068e_7 : decode cJ0_charAt_5068e 7 = .ok (.aload_n 0, 1) := by decide +kernel
theorem dJ0_charAt_5068e_8 : decode cJ0_charAt_5068e 8 = .ok (.getfield 9, 3) := by decide +kernel
theorem dJ0_charAt_5068e_11 : decode cJ0_charAt_5068e 11 = .ok (.iload_n 1, 1) := by decide +kernel
theorem dJ0_charAt_5068e_12 : decode cJ0_charAt_5068e 12 = .ok (.invokestatic 495, 3) := by decide +kernel
theorem dJ0_charAt_5068e_15 : decode cJ0_charAt_5068e 15 = .ok (.ireturn, 1) := by decide +kernel
theorem dJ0_charAt_5068e_16 : decode cJ0_charAt_5068e 16 = .ok (.aload_n 0, 1) := by decide +kernel
theorem dJ0_charAt_5068e_17 : decode cJ0_charAt_5068e 17 = .ok (.getfield 9, 3) := by decide +kernel
theorem dJ0_charAt_5068e_20 : decode cJ0_charAt_5068e 20 = .ok (.iload_n 1, 1) := by decide +kernel
theorem dJ0_charAt_5068e_21 : decode cJ0_charAt_5068e 21 = .ok (.invokestatic 498, 3) := by decide +kernel
theorem dJ0_charAt_5068e_24 : decode cJ0_charAt_5068e 24 = .ok (.ireturn, 1) := by decide +kernel
theorem dJ0_coder_7d493_0 : decode cJ0_coder_7d493 0 = .ok (.getstatic 38, 3) := by decide +kernel
theorem dJ0_coder_7d493_3 : decode cJ0_coder_7d493 3 = .ok (.ifCond .eq 10, 3) := by decide +kernel
theorem dJ0_coder_7d493_6 : decode cJ0_coder_7d493 6 = .ok (.aload_n 0, 1) := by decide +kernel
theorem dJ0_coder_7d493_7 : decode cJ0_coder_7d493 7 = .ok (.getfield 15, 3) := by decide +kernel
theorem dJ0_coder_7d493_10 : decode cJ0_coder_7d493 10 = .ok (.goto 4, 3) := by decide +kernel
theorem dJ0_coder_7d493_13 : decode cJ0_coder_7d493 13 = .ok (.iconst 1, 1) := by decide +kernel
theorem dJ0_coder_7d493_14 : decode cJ0_coder_7d493 14 = .ok (.ireturn, 1) := by decide +kernel
theorem dJ0_isLatin1_aae02_0 : decode cJ0_isLatin1_aae02 0 = .ok (.getstatic 38, 3) := by decide +kernel
theorem dJ0_isLatin1_aae02_3 : decode cJ0_isLatin1_aae02 3 = .ok (.ifCond .eq 14, 3) := by decide +kernel
theorem dJ0_isLatin1_aae02_6 : decode cJ0_isLatin1_aae02 6 = .ok (.aload_n 0, 1) := by decide +kernel
theorem dJ0_isLatin1_aae02_7 : decode cJ0_isLatin1_aae02 7 = .ok (.getfield 15, 3) := by decide +kernel
theorem dJ0_isLatin1_aae02_10 : decode cJ0_isLatin1_aae02 10 = .ok (.ifCond .ne 7, 3) := by decide +kernel
theorem dJ0_isLatin1_aae02_13 : decode cJ0_isLatin1_aae02 13 = .ok (.iconst 1, 1) := by decide +kernel
theorem dJ0_isLatin1_aae02_14 : decode cJ0_isLatin1_aae02 14 = .ok (.goto 4, 3) := by decide +kernel
theorem dJ0_isLatin1_aae02_17 : decode cJ0_isLatin1_aae02 17 = .ok (.iconst 0, 1) := by decide +kernel
theorem dJ0_isLatin1_aae02_18 : decode cJ0_isLatin1_aae02 18 = .ok (.ireturn, 1) := by decide +kernel
theorem dJ0_checkIndex_df160_0 : decode cJ0_checkIndex_df160 0 = .ok (.iload_n 0, 1) := by decide +kernel
theorem dJ0_checkIndex_df160_1 : decode cJ0_checkIndex_df160 1 = .ok (.iload_n 1, 1) := by decide +kernel
theorem dJ0_checkIndex_df160_2 : decode cJ0_checkIndex_df160 2 = .ok (.getstatic 1053, 3) := by decide +kernel
theorem dJ0_checkIndex_df160_5 : decode cJ0_checkIndex_df160 5 = .ok (.invokestatic 1059, 3) := by decide +kernel
theorem dJ0_checkIndex_df160_8 : decode cJ0_checkIndex_df160 8 = .ok (.pop, 1) := by decide +kernel
theorem dJ0_checkIndex_df160_9 : decode cJ0_checkIndex_df160 9 = .ok (.return_, 1) := by decide +kernel
theorem dJ1_charAt_3b067_0 : decode cJ1_charAt_3b067 0 = .ok (.iload_n 1, 1) := by decide +kernel
theorem dJ1_charAt_3b067_1 : decode cJ1_charAt_3b067 1 = .ok (.aload_n 0, 1) := by decide +kernel
theorem dJ1_charAt_3b067_2 : decode cJ1_charAt_3b067 2 = .ok (.arraylength, 1) := by decide +kernel
theorem dJ1_charAt_3b067_3 : decode cJ1_charAt_3b067 3 = .ok (.invokestatic 9, 3) := by decide +kernel
theorem dJ1_charAt_3b067_6 : decode cJ1_charAt_3b067 6 = .ok (.aload_n 0, 1) := by decide +kernel
theorem dJ1_charAt_3b067_7 : decode cJ1_charAt_3b067 7 = .ok (.iload_n 1, 1) := by decide +kernel
theorem dJ1_charAt_3b067_8 : decode cJ1_charAt_3b067 8 = .ok (.baload, 1) := by decide +kernel
theorem dJ1_charAt_3b067_9 : decode cJ1_charAt_3b067 9 = .ok (.sipush 255, 3) := by decide +kernel
theorem dJ1_charAt_3b067_12 : decode cJ1_charAt_3b067 12 = .ok (.iand, 1) := by decide +kernel
theorem dJ1_charAt_3b067_13 : decode cJ1_charAt_3b067 13 = .ok (.i2c, 1) := by decide +kernel
theorem dJ1_charAt_3b067_14 : decode cJ1_charAt_3b067 14 = .ok (.ireturn, 1) := by decide +kernel
theorem dJ3_checkIndex_8e157_0 : decode cJ3_checkIndex_8e157 0 = .ok (.iload_n 0, 1) := by decide +kernel
theorem dJ3_checkIndex_8e157_1 : decode cJ3_checkIndex_8e157 1 = .ok (.ifCond .lt 8, 3) := by decide +kernel
theorem dJ3_checkIndex_8e157_4 : decode cJ3_checkIndex_8e157 4 = .ok (.iload_n 0, 1) := by decide +kernel
theorem dJ3_checkIndex_8e157_5 : decode cJ3_checkIndex_8e157 5 = .ok (.iload_n 1, 1) := by decide +kernel
theorem dJ3_checkIndex_8e157_6 : decode cJ3_checkIndex_8e157 6 = .ok (.if_icmp .lt 10, 3) := by decide +kernel
theorem dJ3_checkIndex_8e157_9 : decode cJ3_checkIndex_8e157 9 = .ok (.aload_n 2, 1) := by decide +kernel
theorem dJ3_checkIndex_8e157_10 : decode cJ3_checkIndex_8e157 10 = .ok (.iload_n 0, 1) := by decide +kernel
theorem dJ3_checkIndex_8e157_11 : decode cJ3_checkIndex_8e157 11 = .ok (.iload_n 1, 1) := by decide +kernel
theorem dJ3_checkIndex_8e157_12 : decode cJ3_checkIndex_8e157 12 = .ok (.invokestatic 95, 3) := by decide +kernel
theorem dJ3_checkIndex_8e157_15 : decode cJ3_checkIndex_8e157 15 = .ok (.athrow, 1) := by decide +kernel
theorem dJ3_checkIndex_8e157_16 : decode cJ3_checkIndex_8e157 16 = .ok (.iload_n 0, 1) := by decide +kernel
theorem dJ3_checkIndex_8e157_17 : decode cJ3_checkIndex_8e157 17 = .ok (.ireturn, 1) := by decide +kernel
theorem dJ7_fill_53178_0 : decode cJ7_fill_53178 0 = .ok (.iconst 0, 1) := by decide +kernel
theorem dJ7_fill_53178_1 : decode cJ7_fill_53178 1 = .ok (.istore_n 2, 1) := by decide +kernel
theorem dJ7_fill_53178_2 : decode cJ7_fill_53178 2 = .ok (.aload_n 0, 1) := by decide +kernel
theorem dJ7_fill_53178_3 : decode cJ7_fill_53178 3 = .ok (.arraylength, 1) := by decide +kernel
theorem dJ7_fill_53178_4 : decode cJ7_fill_53178 4 = .ok (.istore_n 3, 1) := by decide +kernel
theorem dJ7_fill_53178_5 : decode cJ7_fill_53178 5 = .ok (.iload_n 2, 1) := by decide +kernel
theorem dJ7_fill_53178_6 : decode cJ7_fill_53178 6 = .ok (.iload_n 3, 1) := by decide +kernel
theorem dJ7_fill_53178_7 : decode cJ7_fill_53178 7 = .ok (.if_icmp .ge 13, 3) := by decide +kernel
theorem dJ7_fill_53178_10 : decode cJ7_fill_53178 10 = .ok (.aload_n 0, 1) := by decide +kernel
theorem dJ7_fill_53178_11 : decode cJ7_fill_53178 11 = .ok (.iload_n 2, 1) := by decide +kernel
theorem dJ7_fill_53178_12 : decode cJ7_fill_53178 12 = .ok (.iload_n 1, 1) := by decide +kernel
theorem dJ7_fill_53178_13 : decode cJ7_fill_53178 13 = .ok (.iastore, 1) := by decide +kernel
theorem dJ7_fill_53178_14 : decode cJ7_fill_53178 14 = .ok (.iinc 2 1, 3) := by decide +kernel
theorem dJ7_fill_53178_17 : decode cJ7_fill_53178 17 = .ok (.goto (-12), 3) := by decide +kernel
theorem dJ7_fill_53178_20 : decode cJ7_fill_53178 20 = .ok (.return_, 1) := by decide +kernel
