theorem dX5_init_0 : decode cX5_init 0 = .ok (.aload_n 0, 1) := by decide +kernel
theorem dX5_init_1 : decode cX5_init 1 = .ok (.invokespecial 1, 3) := by decide +kernel
theorem dX5_init_4 : decode cX5_init 4 = .ok (.aload_n 0, 1) := by decide +kernel
theorem dX5_init_5 : decode cX5_init 5 = .ok (.bipush 8, 2) := by decide +kernel
theorem dX5_init_7 : decode cX5_init 7 = .ok (.anewarray 9, 3) := by decide +kernel
theorem dX5_init_10 : decode cX5_init 10 = .ok (.putfield 11, 3) := by decide +kernel
theorem dX5_init_13 : decode cX5_init 13 = .ok (.aload_n 0, 1) := by decide +kernel
theorem dX5_init_14 : decode cX5_init 14 = .ok (.new 15, 3) := by decide +kernel
theorem dX5_init_17 : decode cX5_init 17 = .ok (.dup, 1) := by decide +kernel
theorem dX5_init_18 : decode cX5_init 18 = .ok (.invokespecial 17, 3) := by decide +kernel
theorem dX5_init_21 : decode cX5_init 21 = .ok (.putfield 18, 3) := by decide +kernel
theorem dX5_init_24 : decode cX5_init 24 = .ok (.aload_n 0, 1) := by decide +kernel
theorem dX5_init_25 : decode cX5_init 25 = .ok (.new 22, 3) := by decide +kernel
theorem dX5_init_28 : decode cX5_init 28 = .ok (.dup, 1) := by decide +kernel
theorem dX5_init_29 : decode cX5_init 29 = .ok (.invokespecial 24, 3) := by decide +kernel
theorem dX5_init_32 : decode cX5_init 32 = .ok (.putfield 25, 3) := by decide +kernel
theorem dX5_init_35 : decode cX5_init 35 = .ok (.aload_n 0, 1) := by decide +kernel
theorem dX5_init_36 : decode cX5_init 36 = .ok (.new 29, 3) := by decide +kernel
theorem dX5_init_39 : decode cX5_init 39 = .ok (.dup, 1) := by decide +kernel
theorem dX5_init_40 : decode cX5_init 40 = .ok (.invokespecial 31, 3) := by decide +kernel
theorem dX5_init_43 : decode cX5_init 43 = .ok (.putfield 32, 3) := by decide +kernel
theorem dX5_init_46 : decode cX5_init 46 = .ok (.aload_n 0, 1) := by decide +kernel
theorem dX5_init_47 : decode cX5_init 47 = .ok (.new 36, 3) := by decide +kernel
theorem dX5_init_50 : decode cX5_init 50 = .ok (.dup, 1) := by decide +kernel
theorem dX5_init_51 : decode cX5_init 51 = .ok (.invokespecial 38, 3) := by decide +kernel
theorem dX5_init_54 : decode cX5_init 54 = .ok (.putfield 39, 3) := by decide +kernel
theorem dX5_init_57 : decode cX5_init 57 = .ok (.aload_n 0, 1) := by decide +kernel
theorem dX5_init_58 : decode cX5_init 58 = .ok (.new 36, 3) := by decide +kernel
theorem dX5_init_61 : decode cX5_init 61 = .ok (.dup, 1) := by decide +kernel
theorem dX5_init_62 : decode cX5_init 62 = .ok (.invokespecial 38, 3) := by decide +kernel
theorem dX5_init_65 : decode cX5_init 65 = .ok (.putfield 43, 3) := by decide +kernel
theorem dX5_init_68 : decode cX5_init 68 = .ok (.aload_n 0, 1) := by decide +kernel
theorem dX5_init_69 : decode cX5_init 69 = .ok (.iconst 0, 1) := by decide +kernel
theorem dX5_init_70 : decode cX5_init 70 = .ok (.putfield 46, 3) := by decide +kernel
theorem dX5_init_73 : decode cX5_init 73 = .ok (.aload_n 0, 1) := by decide +kernel
theorem dX5_init_74 : decode cX5_init 74 = .ok (.bipush 24, 2) := by decide +kernel
theorem dX5_init_76 : decode cX5_init 76 = .ok (.anewarray 36, 3) := by decide +kernel
theorem dX5_init_79 : decode cX5_init 79 = .ok (.putfield 50, 3) := by decide +kernel
theorem dX5_init_82 : decode cX5_init 82 = .ok (.aload_n 0, 1) := by decide +kernel
theorem dX5_init_83 : decode cX5_init 83 = .ok (.iconst 0, 1) := by decide +kernel
theorem dX5_init_84 : decode cX5_init 84 = .ok (.putfield 54, 3) := by decide +kernel
theorem dX5_init_87 : decode cX5_init 87 = .ok (.aload_n 0, 1) := by decide +kernel
theorem dX5_init_88 : decode cX5_init 88 = .ok (.iconst 0, 1) := by decide +kernel
theorem dX5_init_89 : decode cX5_init 89 = .ok (.putfield 58, 3) := by decide +kernel
theorem dX5_init_92 : decode cX5_init 92 = .ok (.aload_n 0, 1) := by decide +kernel
theorem dX5_init_93 : decode cX5_init 93 = .ok (.iconst 2, 1) := by decide +kernel
theorem dX5_init_94 : decode cX5_init 94 = .ok (.anewarray 36, 3) := by decide +kernel
theorem dX5_init_97 : decode cX5_init 97 = .ok (.putfield 61, 3) := by decide +kernel
theorem dX5_init_100 : decode cX5_init 100 = .ok (.aload_n 0, 1) := by decide +kernel
theorem dX5_init_101 : decode cX5_init 101 = .ok (.iconst 2, 1) := by decide +kernel
theorem dX5_init_102 : decode cX5_init 102 = .ok (.newarray .boolean, 2) := by decide +kernel
theorem dX5_init_104 : decode cX5_init 104 = .ok (.putfield 64, 3) := by decide +kernel
theorem dX5_init_107 : decode cX5_init 107 = .ok (.aload_n 0, 1) := by decide +kernel
theorem dX5_init_108 : decode cX5_init 108 = .ok (.iconst 0, 1) := by decide +kernel
theorem dX5_init_109 : decode cX5_init 109 = .ok (.putfield 68, 3) := by decide +kernel
theorem dX5_init_112 : decode cX5_init 112 = .ok (.aload_n 0, 1) := by decide +kernel
theorem dX5_init_113 : decode cX5_init 113 = .ok (.iconst 0, 1) := by decide +kernel
theorem dX5_init_114 : decode cX5_init 114 = .ok (.putfield 71, 3) := by decide +kernel
theorem dX5_init_117 : decode cX5_init 117 = .ok (.iconst 0, 1) := by decide +kernel
theorem dX5_init_118 : decode cX5_init 118 = .ok (.istore_n 1, 1) := by decide +kernel
theorem dX5_init_119 : decode cX5_init 119 = .ok (.iload_n 1, 1) := by decide +kernel
theorem dX5_init_120 : decode cX5_init 120 = .ok (.bipush 8, 2) := by decide +kernel
theorem dX5_init_122 : decode cX5_init 122 = .ok (.if_icmp .ge 22, 3) := by decide +kernel
theorem dX5_init_125 : decode cX5_init 125 = .ok (.aload_n 0, 1) := by decide +kernel
theorem dX5_init_126 : decode cX5_init 126 = .ok (.getfield 11, 3) := by decide +kernel
theorem dX5_init_129 : decode cX5_init 129 = .ok (.iload_n 1, 1) := by decide +kernel
theorem dX5_init_130 : decode cX5_init 130 = .ok (.new 9, 3) := by decide +kernel
theorem dX5_init_133 : decode cX5_init 133 = .ok (.dup, 1) := by decide +kernel
theorem dX5_init_134 : decode cX5_init 134 = .ok (.invokespecial 74, 3) := by decide +kernel
theorem dX5_init_137 : decode cX5_init 137 = .ok (.aastore, 1) := by decide +kernel
theorem dX5_init_138 : decode cX5_init 138 = .ok (.iinc 1 1, 3) := by decide +kernel
theorem dX5_init_141 : decode cX5_init 141 = .ok (.goto (-22), 3) := by decide +kernel
theorem dX5_init_144 : decode cX5_init 144 = .ok (.iconst 0, 1) := by decide +kernel
theorem dX5_init_145 : decode cX5_init 145 = .ok (.istore_n 1, 1) := by decide +kernel
theorem dX5_init_146 : decode cX5_init 146 = .ok (.iload_n 1, 1) := by decide +kernel
theorem dX5_init_147 : decode cX5_init 147 = .ok (.bipush 24, 2) := by decide +kernel
theorem dX5_init_149 : decode cX5_init 149 = .ok (.if_icmp .ge 22, 3) := by decide +kernel
theorem dX5_init_152 : decode cX5_init 152 = .ok (.aload_n 0, 1) := by decide +kernel
theorem dX5_init_153 : decode cX5_init 153 = .ok (.getfield 50, 3) := by decide +kernel
theorem dX5_init_156 : decode cX5_init 156 = .ok (.iload_n 1, 1) := by decide +kernel
theorem dX5_init_157 : decode cX5_init 157 = .ok (.new 36, 3) := by decide +kernel
theorem dX5_init_160 : decode cX5_init 160 = .ok (.dup, 1) := by decide +kernel
theorem dX5_init_161 : decode cX5_init 161 = .ok (.invokespecial 38, 3) := by decide +kernel
theorem dX5_init_164 : decode cX5_init 164 = .ok (.aastore, 1) := by decide +kernel
theorem dX5_init_165 : decode cX5_init 165 = .ok (.iinc 1 1, 3) := by decide +kernel
theorem dX5_init_168 : decode cX5_init 168 = .ok (.goto (-22), 3) := by decide +kernel
theorem dX5_init_171 : decode cX5_init 171 = .ok (.iconst 0, 1) := by decide +kernel
theorem dX5_init_172 : decode cX5_init 172 = .ok (.istore_n 1, 1) := by decide +kernel
theorem dX5_init_173 : decode cX5_init 173 = .ok (.iload_n 1, 1) := by decide +kernel
theorem dX5_init_174 : decode cX5_init 174 = .ok (.iconst 2, 1) := by decide +kernel
theorem dX5_init_175 : decode cX5_init 175 = .ok (.if_icmp .ge 22, 3) := by decide +kernel
theorem dX5_init_178 : decode cX5_init 178 = .ok (.aload_n 0, 1) := by decide +kernel
theorem dX5_init_179 : decode cX5_init 179 = .ok (.getfield 61, 3) := by decide +kernel
theorem dX5_init_182 : decode cX5_init 182 = .ok (.iload_n 1, 1) := by decide +kernel
theorem dX5_init_183 : decode cX5_init 183 = .ok (.new 36, 3) := by decide +kernel
theorem dX5_init_186 : decode cX5_init 186 = .ok (.dup, 1) := by decide +kernel
theorem dX5_init_187 : decode cX5_init 187 = .ok (.invokespecial 38, 3) := by decide +kernel
theorem dX5_init_190 : decode cX5_init 190 = .ok (.aastore, 1) := by decide +kernel
theorem dX5_init_191 : decode cX5_init 191 = .ok (.iinc 1 1, 3) := by decide +kernel
theorem dX5_init_194 : decode cX5_init 194 = .ok (.goto (-21), 3) := by decide +kernel
theorem dX5_init_197 : decode cX5_init 197 = .ok (.return_, 1) := by decide +kernel
theorem dX5_row_0 : decode cX5_row 0 = .ok (.iload_n 1, 1) := by decide +kernel
theorem dX5_row_1 : decode cX5_row 1 = .ok (.invokestatic 75, 3) := by decide +kernel
theorem dX5_row_4 : decode cX5_row 4 = .ok (.ifCond .eq 18, 3) := by decide +kernel
theorem dX5_row_7 : decode cX5_row 7 = .ok (.iload_n 2, 1) := by decide +kernel
theorem dX5_row_8 : decode cX5_row 8 = .ok (.ifCond .lt 14, 3) := by decide +kernel
theorem dX5_row_11 : decode cX5_row 11 = .ok (.iload_n 2, 1) := by decide +kernel
theorem dX5_row_12 : decode cX5_row 12 = .ok (.iconst 2, 1) := by decide +kernel
theorem dX5_row_13 : decode cX5_row 13 = .ok (.if_icmp .gt 9, 3) := by decide +kernel
theorem dX5_row_16 : decode cX5_row 16 = .ok (.iload_n 3, 1) := by decide +kernel
theorem dX5_row_17 : decode cX5_row 17 = .ok (.bipush 40, 2) := by decide +kernel
theorem dX5_row_19 : decode cX5_row 19 = .ok (.if_icmp .le 6, 3) := by decide +kernel
theorem dX5_row_22 : decode cX5_row 22 = .ok (.ldc 79, 2) := by decide +kernel
theorem dX5_row_24 : decode cX5_row 24 = .ok (.ireturn, 1) := by decide +kernel
theorem dX5_row_25 : decode cX5_row 25 = .ok (.iload_n 3, 1) := by decide +kernel
theorem dX5_row_26 : decode cX5_row 26 = .ok (.ifCond .ge 9, 3) := by decide +kernel
theorem dX5_row_29 : decode cX5_row 29 = .ok (.aload_n 0, 1) := by decide +kernel
theorem dX5_row_30 : decode cX5_row 30 = .ok (.iconst 4, 1) := by decide +kernel
theorem dX5_row_31 : decode cX5_row 31 = .ok (.invokevirtual 80, 3) := by decide +kernel
theorem dX5_row_34 : decode cX5_row 34 = .ok (.ireturn, 1) := by decide +kernel
theorem dX5_row_35 : decode cX5_row 35 = .ok (.aload_n 0, 1) := by decide +kernel
theorem dX5_row_36 : decode cX5_row 36 = .ok (.getfield 11, 3) := by decide +kernel
theorem dX5_row_39 : decode cX5_row 39 = .ok (.iload_n 1, 1) := by decide +kernel
theorem dX5_row_40 : decode cX5_row 40 = .ok (.aaload, 1) := by decide +kernel
theorem dX5_row_41 : decode cX5_row 41 = .ok (.iload_n 2, 1) := by decide +kernel
theorem dX5_row_42 : decode cX5_row 42 = .ok (.iload_n 3, 1) := by decide +kernel
theorem dX5_row_43 : decode cX5_row 43 = .ok (.invokevirtual 84, 3) := by decide +kernel
theorem dX5_row_46 : decode cX5_row 46 = .ok (.aload_n 0, 1) := by decide +kernel
theorem dX5_row_47 : decode cX5_row 47 = .ok (.iload_n 3, 1) := by decide +kernel
theorem dX5_row_48 : decode cX5_row 48 = .ok (.invokevirtual 88, 3) := by decide +kernel
theorem dX5_row_51 : decode cX5_row 51 = .ok (.ireturn, 1) := by decide +kernel
theorem dX5_set_0 : decode cX5_set 0 = .ok (.iload_n 1, 1) := by decide +kernel
theorem dX5_set_1 : decode cX5_set 1 = .ok (.invokestatic 75, 3) := by decide +kernel
theorem dX5_set_4 : decode cX5_set 4 = .ok (.ifCond .ne 6, 3) := by decide +kernel
theorem dX5_set_7 : decode cX5_set 7 = .ok (.ldc 79, 2) := by decide +kernel
theorem dX5_set_9 : decode cX5_set 9 = .ok (.ireturn, 1) := by decide +kernel
theorem dX5_set_10 : decode cX5_set 10 = .ok (.aload_n 0, 1) := by decide +kernel
theorem dX5_set_11 : decode cX5_set 11 = .ok (.getfield 11, 3) := by decide +kernel
theorem dX5_set_14 : decode cX5_set 14 = .ok (.iload_n 1, 1) := by decide +kernel
theorem dX5_set_15 : decode cX5_set 15 = .ok (.aaload, 1) := by decide +kernel
theorem dX5_set_16 : decode cX5_set 16 = .ok (.astore 4, 2) := by decide +kernel
theorem dX5_set_18 : decode cX5_set 18 = .ok (.aload 4, 2) := by decide +kernel
theorem dX5_set_20 : decode cX5_set 20 = .ok (.getfield 91, 3) := by decide +kernel
theorem dX5_set_23 : decode cX5_set 23 = .ok (.ifCond .ne 9, 3) := by decide +kernel
theorem dX5_set_26 : decode cX5_set 26 = .ok (.aload_n 0, 1) := by decide +kernel
theorem dX5_set_27 : decode cX5_set 27 = .ok (.iconst 1, 1) := by decide +kernel
theorem dX5_set_28 : decode cX5_set 28 = .ok (.invokevirtual 80, 3) := by decide +kernel
theorem dX5_set_31 : decode cX5_set 31 = .ok (.ireturn, 1) := by decide +kernel
theorem dX5_set_32 : decode cX5_set 32 = .ok (.iload_n 2, 1) := by decide +kernel
theorem dX5_set_33 : decode cX5_set 33 = .ok (.ifCond .lt 12, 3) := by decide +kernel
theorem dX5_set_36 : decode cX5_set 36 = .ok (.iload_n 2, 1) := by decide +kernel
theorem dX5_set_37 : decode cX5_set 37 = .ok (.aload 4, 2) := by decide +kernel
theorem dX5_set_39 : decode cX5_set 39 = .ok (.getfield 94, 3) := by decide +kernel
theorem dX5_set_42 : decode cX5_set 42 = .ok (.if_icmp .lt 9, 3) := by decide +kernel
theorem dX5_set_45 : decode cX5_set 45 = .ok (.aload_n 0, 1) := by decide +kernel
theorem dX5_set_46 : decode cX5_set 46 = .ok (.iconst 2, 1) := by decide +kernel
theorem dX5_set_47 : decode cX5_set 47 = .ok (.invokevirtual 80, 3) := by decide +kernel
theorem dX5_set_50 : decode cX5_set 50 = .ok (.ireturn, 1) := by decide +kernel
theorem dX5_set_51 : decode cX5_set 51 = .ok (.aload 4, 2) := by decide +kernel
theorem dX5_set_53 : decode cX5_set 53 = .ok (.getfield 97, 3) := by decide +kernel
theorem dX5_set_56 : decode cX5_set 56 = .ok (.iload_n 2, 1) := by decide +kernel
theorem dX5_set_57 : decode cX5_set 57 = .ok (.aload 4, 2) := by decide +kernel
theorem dX5_set_59 : decode cX5_set 59 = .ok (.iload_n 3, 1) := by decide +kernel
theorem dX5_set_60 : decode cX5_set 60 = .ok (.invokevirtual 101, 3) := by decide +kernel
theorem dX5_set_63 : decode cX5_set 63 = .ok (.iastore, 1) := by decide +kernel
theorem dX5_set_64 : decode cX5_set 64 = .ok (.aload_n 0, 1) := by decide +kernel
theorem dX5_set_65 : decode cX5_set 65 = .ok (.aload 4, 2) := by decide +kernel
theorem dX5_set_67 : decode cX5_set 67 = .ok (.getfield 97, 3) := by decide +kernel
theorem dX5_set_70 : decode cX5_set 70 = .ok (.iload_n 2, 1) := by decide +kernel
theorem dX5_set_71 : decode cX5_set 71 = .ok (.iaload, 1) := by decide +kernel
theorem dX5_set_72 : decode cX5_set 72 = .ok (.invokevirtual 88, 3) := by decide +kernel
theorem dX5_set_75 : decode cX5_set 75 = .ok (.ireturn, 1) := by decide +kernel
theorem dX5_copy_0 : decode cX5_copy 0 = .ok (.iload_n 1, 1) := by decide +kernel
theorem dX5_copy_1 : decode cX5_copy 1 = .ok (.invokestatic 75, 3) := by decide +kernel
theorem dX5_copy_4 : decode cX5_copy 4 = .ok (.ifCond .eq 10, 3) := by decide +kernel
theorem dX5_copy_7 : decode cX5_copy 7 = .ok (.iload_n 3, 1) := by decide +kernel
theorem dX5_copy_8 : decode cX5_copy 8 = .ok (.invokestatic 75, 3) := by decide +kernel
theorem dX5_copy_11 : decode cX5_copy 11 = .ok (.ifCond .ne 6, 3) := by decide +kernel
theorem dX5_copy_14 : decode cX5_copy 14 = .ok (.ldc 79, 2) := by decide +kernel
theorem dX5_copy_16 : decode cX5_copy 16 = .ok (.ireturn, 1) := by decide +kernel
theorem dX5_copy_17 : decode cX5_copy 17 = .ok (.aload_n 0, 1) := by decide +kernel
theorem dX5_copy_18 : decode cX5_copy 18 = .ok (.getfield 11, 3) := by decide +kernel
theorem dX5_copy_21 : decode cX5_copy 21 = .ok (.iload_n 1, 1) := by decide +kernel
theorem dX5_copy_22 : decode cX5_copy 22 = .ok (.aaload, 1) := by decide +kernel
theorem dX5_copy_23 : decode cX5_copy 23 = .ok (.astore 6, 2) := by decide +kernel
theorem dX5_copy_25 : decode cX5_copy 25 = .ok (.aload_n 0, 1) := by decide +kernel
theorem dX5_copy_26 : decode cX5_copy 26 = .ok (.getfield 11, 3) := by decide +kernel
theorem dX5_copy_29 : decode cX5_copy 29 = .ok (.iload_n 3, 1) := by decide +kernel
theorem dX5_copy_30 : decode cX5_copy 30 = .ok (.aaload, 1) := by decide +kernel
theorem dX5_copy_31 : decode cX5_copy 31 = .ok (.astore 7, 2) := by decide +kernel
theorem dX5_copy_33 : decode cX5_copy 33 = .ok (.aload 6, 2) := by decide +kernel
theorem dX5_copy_35 : decode cX5_copy 35 = .ok (.getfield 91, 3) := by decide +kernel
theorem dX5_copy_38 : decode cX5_copy 38 = .ok (.ifCond .eq 11, 3) := by decide +kernel
theorem dX5_copy_41 : decode cX5_copy 41 = .ok (.aload 7, 2) := by decide +kernel
theorem dX5_copy_43 : decode cX5_copy 43 = .ok (.getfield 91, 3) := by decide +kernel
theorem dX5_copy_46 : decode cX5_copy 46 = .ok (.ifCond .ne 9, 3) := by decide +kernel
theorem dX5_copy_49 : decode cX5_copy 49 = .ok (.aload_n 0, 1) := by decide +kernel
theorem dX5_copy_50 : decode cX5_copy 50 = .ok (.iconst 1, 1) := by decide +kernel
theorem dX5_copy_51 : decode cX5_copy 51 = .ok (.invokevirtual 80, 3) := by decide +kernel
theorem dX5_copy_54 : decode cX5_copy 54 = .ok (.ireturn, 1) := by decide +kernel
theorem dX5_copy_55 : decode cX5_copy 55 = .ok (.aload 6, 2) := by decide +kernel
theorem dX5_copy_57 : decode cX5_copy 57 = .ok (.getfield 104, 3) := by decide +kernel
theorem dX5_copy_60 : decode cX5_copy 60 = .ok (.aload 7, 2) := by decide +kernel
theorem dX5_copy_62 : decode cX5_copy 62 = .ok (.getfield 104, 3) := by decide +kernel
theorem dX5_copy_65 : decode cX5_copy 65 = .ok (.if_icmp .eq 9, 3) := by decide +kernel
theorem dX5_copy_68 : decode cX5_copy 68 = .ok (.aload_n 0, 1) := by decide +kernel
theorem dX5_copy_69 : decode cX5_copy 69 = .ok (.iconst 5, 1) := by decide +kernel
theorem dX5_copy_70 : decode cX5_copy 70 = .ok (.invokevirtual 80, 3) := by decide +kernel
theorem dX5_copy_73 : decode cX5_copy 73 = .ok (.ireturn, 1) := by decide +kernel
theorem dX5_copy_74 : decode cX5_copy 74 = .ok (.aload 6, 2) := by decide +kernel
theorem dX5_copy_76 : decode cX5_copy 76 = .ok (.iload_n 2, 1) := by decide +kernel
theorem dX5_copy_77 : decode cX5_copy 77 = .ok (.iload 5, 2) := by decide +kernel
theorem dX5_copy_79 : decode cX5_copy 79 = .ok (.invokevirtual 107, 3) := by decide +kernel
theorem dX5_copy_82 : decode cX5_copy 82 = .ok (.ifCond .eq 15, 3) := by decide +kernel
theorem dX5_copy_85 : decode cX5_copy 85 = .ok (.aload 7, 2) := by decide +kernel
theorem dX5_copy_87 : decode cX5_copy 87 = .ok (.iload 4, 2) := by decide +kernel
theorem dX5_copy_89 : decode cX5_copy 89 = .ok (.iload 5, 2) := by decide +kernel
theorem dX5_copy_91 : decode cX5_copy 91 = .ok (.invokevirtual 107, 3) := by decide +kernel
theorem dX5_copy_94 : decode cX5_copy 94 = .ok (.ifCond .ne 9, 3) := by decide +kernel
theorem dX5_copy_97 : decode cX5_copy 97 = .ok (.aload_n 0, 1) := by decide +kernel
theorem dX5_copy_98 : decode cX5_copy 98 = .ok (.iconst 2, 1) := by decide +kernel
theorem dX5_copy_99 : decode cX5_copy 99 = .ok (.invokevirtual 80, 3) := by decide +kernel
theorem dX5_copy_102 : decode cX5_copy 102 = .ok (.ireturn, 1) := by decide +kernel
theorem dX5_copy_103 : decode cX5_copy 103 = .ok (.aload 6, 2) := by decide +kernel
theorem dX5_copy_105 : decode cX5_copy 105 = .ok (.getfield 97, 3) := by decide +kernel
theorem dX5_copy_108 : decode cX5_copy 108 = .ok (.iload_n 2, 1) := by decide +kernel
theorem dX5_copy_109 : decode cX5_copy 109 = .ok (.aload 7, 2) := by decide +kernel
theorem dX5_copy_111 : decode cX5_copy 111 = .ok (.getfield 97, 3) := by decide +kernel
theorem dX5_copy_114 : decode cX5_copy 114 = .ok (.iload 4, 2) := by decide +kernel
theorem dX5_copy_116 : decode cX5_copy 116 = .ok (.iload 5, 2) := by decide +kernel
theorem dX5_copy_118 : decode cX5_copy 118 = .ok (.invokestatic 111, 3) := by decide +kernel
theorem dX5_copy_121 : decode cX5_copy 121 = .ok (.aload_n 0, 1) := by decide +kernel
theorem dX5_copy_122 : decode cX5_copy 122 = .ok (.iload 5, 2) := by decide +kernel
theorem dX5_copy_124 : decode cX5_copy 124 = .ok (.invokevirtual 88, 3) := by decide +kernel
theorem dX5_copy_127 : decode cX5_copy 127 = .ok (.ireturn, 1) := by decide +kernel
theorem dX5_drop_0 : decode cX5_drop 0 = .ok (.iload_n 1, 1) := by decide +kernel
theorem dX5_drop_1 : decode cX5_drop 1 = .ok (.invokestatic 75, 3) := by decide +kernel
theorem dX5_drop_4 : decode cX5_drop 4 = .ok (.ifCond .ne 6, 3) := by decide +kernel
theorem dX5_drop_7 : decode cX5_drop 7 = .ok (.ldc 79, 2) := by decide +kernel
theorem dX5_drop_9 : decode cX5_drop 9 = .ok (.ireturn, 1) := by decide +kernel
theorem dX5_drop_10 : decode cX5_drop 10 = .ok (.aload_n 0, 1) := by decide +kernel
theorem dX5_drop_11 : decode cX5_drop 11 = .ok (.getfield 11, 3) := by decide +kernel
theorem dX5_drop_14 : decode cX5_drop 14 = .ok (.iload_n 1, 1) := by decide +kernel
theorem dX5_drop_15 : decode cX5_drop 15 = .ok (.aaload, 1) := by decide +kernel
theorem dX5_drop_16 : decode cX5_drop 16 = .ok (.astore_n 2, 1) := by decide +kernel
theorem dX5_drop_17 : decode cX5_drop 17 = .ok (.aload_n 2, 1) := by decide +kernel
theorem dX5_drop_18 : decode cX5_drop 18 = .ok (.getfield 91, 3) := by decide +kernel
theorem dX5_drop_21 : decode cX5_drop 21 = .ok (.ifCond .ne 9, 3) := by decide +kernel
theorem dX5_drop_24 : decode cX5_drop 24 = .ok (.aload_n 0, 1) := by decide +kernel
theorem dX5_drop_25 : decode cX5_drop 25 = .ok (.iconst 1, 1) := by decide +kernel
theorem dX5_drop_26 : decode cX5_drop 26 = .ok (.invokevirtual 80, 3) := by decide +kernel
theorem dX5_drop_29 : decode cX5_drop 29 = .ok (.ireturn, 1) := by decide +kernel
theorem dX5_drop_30 : decode cX5_drop 30 = .ok (.aload_n 2, 1) := by decide +kernel
theorem dX5_drop_31 : decode cX5_drop 31 = .ok (.iconst 0, 1) := by decide +kernel
theorem dX5_drop_32 : decode cX5_drop 32 = .ok (.putfield 91, 3) := by decide +kernel
theorem dX5_drop_35 : decode cX5_drop 35 = .ok (.aload_n 0, 1) := by decide +kernel
theorem dX5_drop_36 : decode cX5_drop 36 = .ok (.aload_n 2, 1) := by decide +kernel
theorem dX5_drop_37 : decode cX5_drop 37 = .ok (.getfield 94, 3) := by decide +kernel
theorem dX5_drop_40 : decode cX5_drop 40 = .ok (.invokevirtual 88, 3) := by decide +kernel
theorem dX5_drop_43 : decode cX5_drop 43 = .ok (.ireturn, 1) := by decide +kernel
theorem dX5_feed_0 : decode cX5_feed 0 = .ok (.iload_n 3, 1) := by decide +kernel
theorem dX5_feed_1 : decode cX5_feed 1 = .ok (.iconst 1, 1) := by decide +kernel
theorem dX5_feed_2 : decode cX5_feed 2 = .ok (.if_icmp .lt 9, 3) := by decide +kernel
theorem dX5_feed_5 : decode cX5_feed 5 = .ok (.iload_n 3, 1) := by decide +kernel
theorem dX5_feed_6 : decode cX5_feed 6 = .ok (.bipush 8, 2) := by decide +kernel
theorem dX5_feed_8 : decode cX5_feed 8 = .ok (.if_icmp .le 6, 3) := by decide +kernel
theorem dX5_feed_11 : decode cX5_feed 11 = .ok (.ldc 79, 2) := by decide +kernel
theorem dX5_feed_13 : decode cX5_feed 13 = .ok (.ireturn, 1) := by decide +kernel
theorem dX5_feed_14 : decode cX5_feed 14 = .ok (.aload_n 0, 1) := by decide +kernel
theorem dX5_feed_15 : decode cX5_feed 15 = .ok (.getfield 18, 3) := by decide +kernel
theorem dX5_feed_18 : decode cX5_feed 18 = .ok (.getfield 117, 3) := by decide +kernel
theorem dX5_feed_21 : decode cX5_feed 21 = .ok (.iload_n 3, 1) := by decide +kernel
theorem dX5_feed_22 : decode cX5_feed 22 = .ok (.iadd, 1) := by decide +kernel
theorem dX5_feed_23 : decode cX5_feed 23 = .ok (.sipush 400, 3) := by decide +kernel
theorem dX5_feed_26 : decode cX5_feed 26 = .ok (.if_icmp .le 6, 3) := by decide +kernel
theorem dX5_feed_29 : decode cX5_feed 29 = .ok (.ldc 120, 2) := by decide +kernel
theorem dX5_feed_31 : decode cX5_feed 31 = .ok (.ireturn, 1) := by decide +kernel
theorem dX5_feed_32 : decode cX5_feed 32 = .ok (.iload_n 3, 1) := by decide +kernel
theorem dX5_feed_33 : decode cX5_feed 33 = .ok (.iconst 1, 1) := by decide +kernel
theorem dX5_feed_34 : decode cX5_feed 34 = .ok (.isub, 1) := by decide +kernel
theorem dX5_feed_35 : decode cX5_feed 35 = .ok (.istore 4, 2) := by decide +kernel
theorem dX5_feed_37 : decode cX5_feed 37 = .ok (.iload 4, 2) := by decide +kernel
theorem dX5_feed_39 : decode cX5_feed 39 = .ok (.ifCond .lt 25, 3) := by decide +kernel
theorem dX5_feed_42 : decode cX5_feed 42 = .ok (.aload_n 0, 1) := by decide +kernel
theorem dX5_feed_43 : decode cX5_feed 43 = .ok (.getfield 18, 3) := by decide +kernel
theorem dX5_feed_46 : decode cX5_feed 46 = .ok (.lload_n 1, 1) := by decide +kernel
theorem dX5_feed_47 : decode cX5_feed 47 = .ok (.bipush 8, 2) := by decide +kernel
theorem dX5_feed_49 : decode cX5_feed 49 = .ok (.iload 4, 2) := by decide +kernel
theorem dX5_feed_51 : decode cX5_feed 51 = .ok (.imul, 1) := by decide +kernel
theorem dX5_feed_52 : decode cX5_feed 52 = .ok (.lushr, 1) := by decide +kernel
theorem dX5_feed_53 : decode cX5_feed 53 = .ok (.l2i, 1) := by decide +kernel
theorem dX5_feed_54 : decode cX5_feed 54 = .ok (.i2b, 1) := by decide +kernel
theorem dX5_feed_55 : decode cX5_feed 55 = .ok (.invokevirtual 121, 3) := by decide +kernel
theorem dX5_feed_58 : decode cX5_feed 58 = .ok (.iinc 4 (-1), 3) := by decide +kernel
theorem dX5_feed_61 : decode cX5_feed 61 = .ok (.goto (-24), 3) := by decide +kernel
theorem dX5_feed_64 : decode cX5_feed 64 = .ok (.aload_n 0, 1) := by decide +kernel
theorem dX5_feed_65 : decode cX5_feed 65 = .ok (.getfield 18, 3) := by decide +kernel
theorem dX5_feed_68 : decode cX5_feed 68 = .ok (.getfield 117, 3) := by decide +kernel
theorem dX5_feed_71 : decode cX5_feed 71 = .ok (.ireturn, 1) := by decide +kernel
theorem dX5_garden_0 : decode cX5_garden 0 = .ok (.aload_n 0, 1) := by decide +kernel
theorem dX5_garden_1 : decode cX5_garden 1 = .ok (.getfield 18, 3) := by decide +kernel
theorem dX5_garden_4 : decode cX5_garden 4 = .ok (.aload_n 0, 1) := by decide +kernel
theorem dX5_garden_5 : decode cX5_garden 5 = .ok (.getfield 43, 3) := by decide +kernel
theorem dX5_garden_8 : decode cX5_garden 8 = .ok (.invokevirtual 125, 3) := by decide +kernel
theorem dX5_garden_11 : decode cX5_garden 11 = .ok (.istore_n 1, 1) := by decide +kernel
theorem dX5_garden_12 : decode cX5_garden 12 = .ok (.aload_n 0, 1) := by decide +kernel
theorem dX5_garden_13 : decode cX5_garden 13 = .ok (.getfield 18, 3) := by decide +kernel
theorem dX5_garden_16 : decode cX5_garden 16 = .ok (.iconst 0, 1) := by decide +kernel
theorem dX5_garden_17 : decode cX5_garden 17 = .ok (.putfield 117, 3) := by decide +kernel
theorem dX5_garden_20 : decode cX5_garden 20 = .ok (.iload_n 1, 1) := by decide +kernel
theorem dX5_garden_21 : decode cX5_garden 21 = .ok (.ifCond .ne 25, 3) := by decide +kernel
theorem dX5_garden_24 : decode cX5_garden 24 = .ok (.aload_n 0, 1) := by decide +kernel
theorem dX5_garden_25 : decode cX5_garden 25 = .ok (.aload_n 0, 1) := by decide +kernel
theorem dX5_garden_26 : decode cX5_garden 26 = .ok (.getfield 18, 3) := by decide +kernel
theorem dX5_garden_29 : decode cX5_garden 29 = .ok (.getfield 129, 3) := by decide +kernel
theorem dX5_garden_32 : decode cX5_garden 32 = .ok (.putfield 68, 3) := by decide +kernel
theorem dX5_garden_35 : decode cX5_garden 35 = .ok (.ldc 132, 2) := by decide +kernel
theorem dX5_garden_37 : decode cX5_garden 37 = .ok (.aload_n 0, 1) := by decide +kernel
theorem dX5_garden_38 : decode cX5_garden 38 = .ok (.getfield 18, 3) := by decide +kernel
theorem dX5_garden_41 : decode cX5_garden 41 = .ok (.getfield 133, 3) := by decide +kernel
theorem dX5_garden_44 : decode cX5_garden 44 = .ok (.isub, 1) := by decide +kernel
theorem dX5_garden_45 : decode cX5_garden 45 = .ok (.ireturn, 1) := by decide +kernel
theorem dX5_garden_46 : decode cX5_garden 46 = .ok (.aload_n 0, 1) := by decide +kernel
theorem dX5_garden_47 : decode cX5_garden 47 = .ok (.getfield 39, 3) := by decide +kernel
theorem dX5_garden_50 : decode cX5_garden 50 = .ok (.astore_n 2, 1) := by decide +kernel
theorem dX5_garden_51 : decode cX5_garden 51 = .ok (.aload_n 0, 1) := by decide +kernel
theorem dX5_garden_52 : decode cX5_garden 52 = .ok (.aload_n 0, 1) := by decide +kernel
theorem dX5_garden_53 : decode cX5_garden 53 = .ok (.getfield 43, 3) := by decide +kernel
theorem dX5_garden_56 : decode cX5_garden 56 = .ok (.putfield 39, 3) := by decide +kernel
theorem dX5_garden_59 : decode cX5_garden 59 = .ok (.aload_n 0, 1) := by decide +kernel
theorem dX5_garden_60 : decode cX5_garden 60 = .ok (.aload_n 2, 1) := by decide +kernel
theorem dX5_garden_61 : decode cX5_garden 61 = .ok (.putfield 43, 3) := by decide +kernel
theorem dX5_garden_64 : decode cX5_garden 64 = .ok (.aload_n 0, 1) := by decide +kernel
theorem dX5_garden_65 : decode cX5_garden 65 = .ok (.iconst 1, 1) := by decide +kernel
theorem dX5_garden_66 : decode cX5_garden 66 = .ok (.putfield 46, 3) := by decide +kernel
theorem dX5_garden_69 : decode cX5_garden 69 = .ok (.aload_n 0, 1) := by decide +kernel
theorem dX5_garden_70 : decode cX5_garden 70 = .ok (.iconst 0, 1) := by decide +kernel
theorem dX5_garden_71 : decode cX5_garden 71 = .ok (.putfield 58, 3) := by decide +kernel
theorem dX5_garden_74 : decode cX5_garden 74 = .ok (.aload_n 0, 1) := by decide +kernel
theorem dX5_garden_75 : decode cX5_garden 75 = .ok (.getfield 39, 3) := by decide +kernel
theorem dX5_garden_78 : decode cX5_garden 78 = .ok (.getfield 136, 3) := by decide +kernel
theorem dX5_garden_81 : decode cX5_garden 81 = .ok (.ireturn, 1) := by decide +kernel
theorem dX5_fault_0 : decode cX5_fault 0 = .ok (.aload_n 0, 1) := by decide +kernel
theorem dX5_fault_1 : decode cX5_fault 1 = .ok (.getfield 68, 3) := by decide +kernel
theorem dX5_fault_4 : decode cX5_fault 4 = .ok (.ireturn, 1) := by decide +kernel
theorem dX5_years_0 : decode cX5_years 0 = .ok (.aload_n 0, 1) := by decide +kernel
theorem dX5_years_1 : decode cX5_years 1 = .ok (.getfield 46, 3) := by decide +kernel
theorem dX5_years_4 : decode cX5_years 4 = .ok (.ifCond .ne 6, 3) := by decide +kernel
theorem dX5_years_7 : decode cX5_years 7 = .ok (.ldc 139, 2) := by decide +kernel
theorem dX5_years_9 : decode cX5_years 9 = .ok (.ireturn, 1) := by decide +kernel
theorem dX5_years_10 : decode cX5_years 10 = .ok (.iload_n 1, 1) := by decide +kernel
theorem dX5_years_11 : decode cX5_years 11 = .ok (.iconst 1, 1) := by decide +kernel
theorem dX5_years_12 : decode cX5_years 12 = .ok (.if_icmp .lt 9, 3) := by decide +kernel
theorem dX5_years_15 : decode cX5_years 15 = .ok (.iload_n 1, 1) := by decide +kernel
theorem dX5_years_16 : decode cX5_years 16 = .ok (.bipush 99, 2) := by decide +kernel
theorem dX5_years_18 : decode cX5_years 18 = .ok (.if_icmp .le 6, 3) := by decide +kernel
theorem dX5_years_21 : decode cX5_years 21 = .ok (.ldc 79, 2) := by decide +kernel
theorem dX5_years_23 : decode cX5_years 23 = .ok (.ireturn, 1) := by decide +kernel
theorem dX5_years_24 : decode cX5_years 24 = .ok (.aload_n 0, 1) := by decide +kernel
theorem dX5_years_25 : decode cX5_years 25 = .ok (.getfield 39, 3) := by decide +kernel
theorem dX5_years_28 : decode cX5_years 28 = .ok (.getfield 140, 3) := by decide +kernel
theorem dX5_years_31 : decode cX5_years 31 = .ok (.iload_n 1, 1) := by decide +kernel
theorem dX5_years_32 : decode cX5_years 32 = .ok (.iadd, 1) := by decide +kernel
theorem dX5_years_33 : decode cX5_years 33 = .ok (.sipush 999, 3) := by decide +kernel
theorem dX5_years_36 : decode cX5_years 36 = .ok (.if_icmp .le 6, 3) := by decide +kernel
theorem dX5_years_39 : decode cX5_years 39 = .ok (.ldc 120, 2) := by decide +kernel
theorem dX5_years_41 : decode cX5_years 41 = .ok (.ireturn, 1) := by decide +kernel
theorem dX5_years_42 : decode cX5_years 42 = .ok (.aload_n 0, 1) := by decide +kernel
theorem dX5_years_43 : decode cX5_years 43 = .ok (.invokevirtual 143, 3) := by decide +kernel
theorem dX5_years_46 : decode cX5_years 46 = .ok (.aload_n 0, 1) := by decide +kernel
theorem dX5_years_47 : decode cX5_years 47 = .ok (.getfield 39, 3) := by decide +kernel
theorem dX5_years_50 : decode cX5_years 50 = .ok (.dup, 1) := by decide +kernel
theorem dX5_years_51 : decode cX5_years 51 = .ok (.getfield 140, 3) := by decide +kernel
theorem dX5_years_54 : decode cX5_years 54 = .ok (.iload_n 1, 1) := by decide +kernel
theorem dX5_years_55 : decode cX5_years 55 = .ok (.iadd, 1) := by decide +kernel
theorem dX5_years_56 : decode cX5_years 56 = .ok (.putfield 140, 3) := by decide +kernel
theorem dX5_years_59 : decode cX5_years 59 = .ok (.aload_n 0, 1) := by decide +kernel
theorem dX5_years_60 : decode cX5_years 60 = .ok (.getfield 39, 3) := by decide +kernel
theorem dX5_years_63 : decode cX5_years 63 = .ok (.getfield 140, 3) := by decide +kernel
theorem dX5_years_66 : decode cX5_years 66 = .ok (.ireturn, 1) := by decide +kernel
theorem dX5_winter_0 : decode cX5_winter 0 = .ok (.aload_n 0, 1) := by decide +kernel
theorem dX5_winter_1 : decode cX5_winter 1 = .ok (.getfield 46, 3) := by decide +kernel
theorem dX5_winter_4 : decode cX5_winter 4 = .ok (.ifCond .ne 6, 3) := by decide +kernel
theorem dX5_winter_7 : decode cX5_winter 7 = .ok (.ldc 139, 2) := by decide +kernel
theorem dX5_winter_9 : decode cX5_winter 9 = .ok (.ireturn, 1) := by decide +kernel
theorem dX5_winter_10 : decode cX5_winter 10 = .ok (.iload_n 1, 1) := by decide +kernel
theorem dX5_winter_11 : decode cX5_winter 11 = .ok (.ifCond .lt 8, 3) := by decide +kernel
theorem dX5_winter_14 : decode cX5_winter 14 = .ok (.iload_n 1, 1) := by decide +kernel
theorem dX5_winter_15 : decode cX5_winter 15 = .ok (.iconst 1, 1) := by decide +kernel
theorem dX5_winter_16 : decode cX5_winter 16 = .ok (.if_icmp .le 6, 3) := by decide +kernel
theorem dX5_winter_19 : decode cX5_winter 19 = .ok (.ldc 79, 2) := by decide +kernel
theorem dX5_winter_21 : decode cX5_winter 21 = .ok (.ireturn, 1) := by decide +kernel
theorem dX5_winter_22 : decode cX5_winter 22 = .ok (.aload_n 0, 1) := by decide +kernel
theorem dX5_winter_23 : decode cX5_winter 23 = .ok (.invokevirtual 143, 3) := by decide +kernel
theorem dX5_winter_26 : decode cX5_winter 26 = .ok (.aload_n 0, 1) := by decide +kernel
theorem dX5_winter_27 : decode cX5_winter 27 = .ok (.getfield 39, 3) := by decide +kernel
theorem dX5_winter_30 : decode cX5_winter 30 = .ok (.getfield 146, 3) := by decide +kernel
theorem dX5_winter_33 : decode cX5_winter 33 = .ok (.ifCond .eq 7, 3) := by decide +kernel
theorem dX5_winter_36 : decode cX5_winter 36 = .ok (.iconst 1, 1) := by decide +kernel
theorem dX5_winter_37 : decode cX5_winter 37 = .ok (.goto 4, 3) := by decide +kernel
theorem dX5_winter_40 : decode cX5_winter 40 = .ok (.iconst 0, 1) := by decide +kernel
theorem dX5_winter_41 : decode cX5_winter 41 = .ok (.istore_n 2, 1) := by decide +kernel
theorem dX5_winter_42 : decode cX5_winter 42 = .ok (.aload_n 0, 1) := by decide +kernel
theorem dX5_winter_43 : decode cX5_winter 43 = .ok (.getfield 39, 3) := by decide +kernel
theorem dX5_winter_46 : decode cX5_winter 46 = .ok (.iload_n 1, 1) := by decide +kernel
theorem dX5_winter_47 : decode cX5_winter 47 = .ok (.iconst 1, 1) := by decide +kernel
theorem dX5_winter_48 : decode cX5_winter 48 = .ok (.if_icmp .ne 7, 3) := by decide +kernel
theorem dX5_winter_51 : decode cX5_winter 51 = .ok (.iconst 1, 1) := by decide +kernel
theorem dX5_winter_52 : decode cX5_winter 52 = .ok (.goto 4, 3) := by decide +kernel
theorem dX5_winter_55 : decode cX5_winter 55 = .ok (.iconst 0, 1) := by decide +kernel
theorem dX5_winter_56 : decode cX5_winter 56 = .ok (.putfield 146, 3) := by decide +kernel
theorem dX5_winter_59 : decode cX5_winter 59 = .ok (.iload_n 2, 1) := by decide +kernel
theorem dX5_winter_60 : decode cX5_winter 60 = .ok (.ireturn, 1) := by decide +kernel
theorem dX5_clip_0 : decode cX5_clip 0 = .ok (.aload_n 0, 1) := by decide +kernel
theorem dX5_clip_1 : decode cX5_clip 1 = .ok (.getfield 39, 3) := by decide +kernel
theorem dX5_clip_4 : decode cX5_clip 4 = .ok (.iload_n 1, 1) := by decide +kernel
theorem dX5_clip_5 : decode cX5_clip 5 = .ok (.invokevirtual 149, 3) := by decide +kernel
theorem dX5_clip_8 : decode cX5_clip 8 = .ok (.ifCond .eq 14, 3) := by decide +kernel
theorem dX5_clip_11 : decode cX5_clip 11 = .ok (.iload_n 2, 1) := by decide +kernel
theorem dX5_clip_12 : decode cX5_clip 12 = .ok (.iconst 1, 1) := by decide +kernel
theorem dX5_clip_13 : decode cX5_clip 13 = .ok (.if_icmp .lt 9, 3) := by decide +kernel
theorem dX5_clip_16 : decode cX5_clip 16 = .ok (.iload_n 2, 1) := by decide +kernel
theorem dX5_clip_17 : decode cX5_clip 17 = .ok (.bipush 99, 2) := by decide +kernel
theorem dX5_clip_19 : decode cX5_clip 19 = .ok (.if_icmp .le 6, 3) := by decide +kernel
theorem dX5_clip_22 : decode cX5_clip 22 = .ok (.ldc 79, 2) := by decide +kernel
theorem dX5_clip_24 : decode cX5_clip 24 = .ok (.ireturn, 1) := by decide +kernel
theorem dX5_clip_25 : decode cX5_clip 25 = .ok (.aload_n 0, 1) := by decide +kernel
theorem dX5_clip_26 : decode cX5_clip 26 = .ok (.getfield 39, 3) := by decide +kernel
theorem dX5_clip_29 : decode cX5_clip 29 = .ok (.iload_n 1, 1) := by decide +kernel
theorem dX5_clip_30 : decode cX5_clip 30 = .ok (.invokevirtual 152, 3) := by decide +kernel
theorem dX5_clip_33 : decode cX5_clip 33 = .ok (.ifCond .ne 6, 3) := by decide +kernel
theorem dX5_clip_36 : decode cX5_clip 36 = .ok (.ldc 139, 2) := by decide +kernel
theorem dX5_clip_38 : decode cX5_clip 38 = .ok (.ireturn, 1) := by decide +kernel
theorem dX5_clip_39 : decode cX5_clip 39 = .ok (.aload_n 0, 1) := by decide +kernel
theorem dX5_clip_40 : decode cX5_clip 40 = .ok (.invokevirtual 143, 3) := by decide +kernel
theorem dX5_clip_43 : decode cX5_clip 43 = .ok (.aload_n 0, 1) := by decide +kernel
theorem dX5_clip_44 : decode cX5_clip 44 = .ok (.getfield 39, 3) := by decide +kernel
theorem dX5_clip_47 : decode cX5_clip 47 = .ok (.getfield 155, 3) := by decide +kernel
theorem dX5_clip_50 : decode cX5_clip 50 = .ok (.iload_n 1, 1) := by decide +kernel
theorem dX5_clip_51 : decode cX5_clip 51 = .ok (.dup2, 1) := by decide +kernel
theorem dX5_clip_52 : decode cX5_clip 52 = .ok (.iaload, 1) := by decide +kernel
theorem dX5_clip_53 : decode cX5_clip 53 = .ok (.iload_n 2, 1) := by decide +kernel
theorem dX5_clip_54 : decode cX5_clip 54 = .ok (.iadd, 1) := by decide +kernel
theorem dX5_clip_55 : decode cX5_clip 55 = .ok (.iastore, 1) := by decide +kernel
theorem dX5_clip_56 : decode cX5_clip 56 = .ok (.aload_n 0, 1) := by decide +kernel
theorem dX5_clip_57 : decode cX5_clip 57 = .ok (.getfield 39, 3) := by decide +kernel
theorem dX5_clip_60 : decode cX5_clip 60 = .ok (.iload_n 1, 1) := by decide +kernel
theorem dX5_clip_61 : decode cX5_clip 61 = .ok (.invokevirtual 158, 3) := by decide +kernel
theorem dX5_clip_64 : decode cX5_clip 64 = .ok (.ireturn, 1) := by decide +kernel
theorem dX5_move_0 : decode cX5_move 0 = .ok (.aload_n 0, 1) := by decide +kernel
theorem dX5_move_1 : decode cX5_move 1 = .ok (.getfield 39, 3) := by decide +kernel
theorem dX5_move_4 : decode cX5_move 4 = .ok (.iload_n 1, 1) := by decide +kernel
theorem dX5_move_5 : decode cX5_move 5 = .ok (.invokevirtual 149, 3) := by decide +kernel
theorem dX5_move_8 : decode cX5_move 8 = .ok (.ifCond .eq 10, 3) := by decide +kernel
theorem dX5_move_11 : decode cX5_move 11 = .ok (.iload_n 2, 1) := by decide +kernel
theorem dX5_move_12 : decode cX5_move 12 = .ok (.invokestatic 161, 3) := by decide +kernel
theorem dX5_move_15 : decode cX5_move 15 = .ok (.ifCond .ne 6, 3) := by decide +kernel
theorem dX5_move_18 : decode cX5_move 18 = .ok (.ldc 79, 2) := by decide +kernel
theorem dX5_move_20 : decode cX5_move 20 = .ok (.ireturn, 1) := by decide +kernel
theorem dX5_move_21 : decode cX5_move 21 = .ok (.aload_n 0, 1) := by decide +kernel
theorem dX5_move_22 : decode cX5_move 22 = .ok (.getfield 39, 3) := by decide +kernel
theorem dX5_move_25 : decode cX5_move 25 = .ok (.iload_n 2, 1) := by decide +kernel
theorem dX5_move_26 : decode cX5_move 26 = .ok (.invokevirtual 164, 3) := by decide +kernel
theorem dX5_move_29 : decode cX5_move 29 = .ok (.ldc 167, 2) := by decide +kernel
theorem dX5_move_31 : decode cX5_move 31 = .ok (.if_icmp .eq 6, 3) := by decide +kernel
theorem dX5_move_34 : decode cX5_move 34 = .ok (.ldc 139, 2) := by decide +kernel
theorem dX5_move_36 : decode cX5_move 36 = .ok (.ireturn, 1) := by decide +kernel
theorem dX5_move_37 : decode cX5_move 37 = .ok (.aload_n 0, 1) := by decide +kernel
theorem dX5_move_38 : decode cX5_move 38 = .ok (.invokevirtual 143, 3) := by decide +kernel
theorem dX5_move_41 : decode cX5_move 41 = .ok (.aload_n 0, 1) := by decide +kernel
theorem dX5_move_42 : decode cX5_move 42 = .ok (.getfield 39, 3) := by decide +kernel
theorem dX5_move_45 : decode cX5_move 45 = .ok (.getfield 168, 3) := by decide +kernel
theorem dX5_move_48 : decode cX5_move 48 = .ok (.iload_n 1, 1) := by decide +kernel
theorem dX5_move_49 : decode cX5_move 49 = .ok (.iaload, 1) := by decide +kernel
theorem dX5_move_50 : decode cX5_move 50 = .ok (.istore_n 3, 1) := by decide +kernel
theorem dX5_move_51 : decode cX5_move 51 = .ok (.aload_n 0, 1) := by decide +kernel
theorem dX5_move_52 : decode cX5_move 52 = .ok (.getfield 39, 3) := by decide +kernel
theorem dX5_move_55 : decode cX5_move 55 = .ok (.getfield 168, 3) := by decide +kernel
theorem dX5_move_58 : decode cX5_move 58 = .ok (.iload_n 1, 1) := by decide +kernel
theorem dX5_move_59 : decode cX5_move 59 = .ok (.iload_n 2, 1) := by decide +kernel
theorem dX5_move_60 : decode cX5_move 60 = .ok (.iastore, 1) := by decide +kernel
theorem dX5_move_61 : decode cX5_move 61 = .ok (.iload_n 3, 1) := by decide +kernel
theorem dX5_move_62 : decode cX5_move 62 = .ok (.ireturn, 1) := by decide +kernel
theorem dX5_level_0 : decode cX5_level 0 = .ok (.aload_n 0, 1) := by decide +kernel
theorem dX5_level_1 : decode cX5_level 1 = .ok (.getfield 46, 3) := by decide +kernel
theorem dX5_level_4 : decode cX5_level 4 = .ok (.ifCond .ne 6, 3) := by decide +kernel
theorem dX5_level_7 : decode cX5_level 7 = .ok (.ldc 139, 2) := by decide +kernel
theorem dX5_level_9 : decode cX5_level 9 = .ok (.ireturn, 1) := by decide +kernel
theorem dX5_level_10 : decode cX5_level 10 = .ok (.iload_n 1, 1) := by decide +kernel
theorem dX5_level_11 : decode cX5_level 11 = .ok (.invokestatic 75, 3) := by decide +kernel
theorem dX5_level_14 : decode cX5_level 14 = .ok (.ifCond .ne 6, 3) := by decide +kernel
theorem dX5_level_17 : decode cX5_level 17 = .ok (.ldc 79, 2) := by decide +kernel
theorem dX5_level_19 : decode cX5_level 19 = .ok (.ireturn, 1) := by decide +kernel
theorem dX5_level_20 : decode cX5_level 20 = .ok (.aload_n 0, 1) := by decide +kernel
theorem dX5_level_21 : decode cX5_level 21 = .ok (.getfield 11, 3) := by decide +kernel
theorem dX5_level_24 : decode cX5_level 24 = .ok (.iload_n 1, 1) := by decide +kernel
theorem dX5_level_25 : decode cX5_level 25 = .ok (.aaload, 1) := by decide +kernel
theorem dX5_level_26 : decode cX5_level 26 = .ok (.astore_n 3, 1) := by decide +kernel
theorem dX5_level_27 : decode cX5_level 27 = .ok (.aload_n 3, 1) := by decide +kernel
theorem dX5_level_28 : decode cX5_level 28 = .ok (.getfield 91, 3) := by decide +kernel
theorem dX5_level_31 : decode cX5_level 31 = .ok (.ifCond .ne 9, 3) := by decide +kernel
theorem dX5_level_34 : decode cX5_level 34 = .ok (.aload_n 0, 1) := by decide +kernel
theorem dX5_level_35 : decode cX5_level 35 = .ok (.iconst 1, 1) := by decide +kernel
theorem dX5_level_36 : decode cX5_level 36 = .ok (.invokevirtual 80, 3) := by decide +kernel
theorem dX5_level_39 : decode cX5_level 39 = .ok (.ireturn, 1) := by decide +kernel
theorem dX5_level_40 : decode cX5_level 40 = .ok (.aload_n 3, 1) := by decide +kernel
theorem dX5_level_41 : decode cX5_level 41 = .ok (.iload_n 2, 1) := by decide +kernel
theorem dX5_level_42 : decode cX5_level 42 = .ok (.bipush 20, 2) := by decide +kernel
theorem dX5_level_44 : decode cX5_level 44 = .ok (.invokevirtual 107, 3) := by decide +kernel
theorem dX5_level_47 : decode cX5_level 47 = .ok (.ifCond .ne 9, 3) := by decide +kernel
theorem dX5_level_50 : decode cX5_level 50 = .ok (.aload_n 0, 1) := by decide +kernel
theorem dX5_level_51 : decode cX5_level 51 = .ok (.iconst 2, 1) := by decide +kernel
theorem dX5_level_52 : decode cX5_level 52 = .ok (.invokevirtual 80, 3) := by decide +kernel
theorem dX5_level_55 : decode cX5_level 55 = .ok (.ireturn, 1) := by decide +kernel
theorem dX5_level_56 : decode cX5_level 56 = .ok (.iconst 0, 1) := by decide +kernel
theorem dX5_level_57 : decode cX5_level 57 = .ok (.istore 4, 2) := by decide +kernel
theorem dX5_level_59 : decode cX5_level 59 = .ok (.iload 4, 2) := by decide +kernel
theorem dX5_level_61 : decode cX5_level 61 = .ok (.bipush 20, 2) := by decide +kernel
theorem dX5_level_63 : decode cX5_level 63 = .ok (.if_icmp .ge 38, 3) := by decide +kernel
theorem dX5_level_66 : decode cX5_level 66 = .ok (.aload_n 3, 1) := by decide +kernel
theorem dX5_level_67 : decode cX5_level 67 = .ok (.getfield 97, 3) := by decide +kernel
theorem dX5_level_70 : decode cX5_level 70 = .ok (.iload_n 2, 1) := by decide +kernel
theorem dX5_level_71 : decode cX5_level 71 = .ok (.iload 4, 2) := by decide +kernel
theorem dX5_level_73 : decode cX5_level 73 = .ok (.iadd, 1) := by decide +kernel
theorem dX5_level_74 : decode cX5_level 74 = .ok (.iaload, 1) := by decide +kernel
theorem dX5_level_75 : decode cX5_level 75 = .ok (.ifCond .lt 17, 3) := by decide +kernel
theorem dX5_level_78 : decode cX5_level 78 = .ok (.aload_n 3, 1) := by decide +kernel
theorem dX5_level_79 : decode cX5_level 79 = .ok (.getfield 97, 3) := by decide +kernel
theorem dX5_level_82 : decode cX5_level 82 = .ok (.iload_n 2, 1) := by decide +kernel
theorem dX5_level_83 : decode cX5_level 83 = .ok (.iload 4, 2) := by decide +kernel
theorem dX5_level_85 : decode cX5_level 85 = .ok (.iadd, 1) := by decide +kernel
theorem dX5_level_86 : decode cX5_level 86 = .ok (.iaload, 1) := by decide +kernel
theorem dX5_level_87 : decode cX5_level 87 = .ok (.bipush 60, 2) := by decide +kernel
theorem dX5_level_89 : decode cX5_level 89 = .ok (.if_icmp .le 6, 3) := by decide +kernel
theorem dX5_level_92 : decode cX5_level 92 = .ok (.ldc 79, 2) := by decide +kernel
theorem dX5_level_94 : decode cX5_level 94 = .ok (.ireturn, 1) := by decide +kernel
theorem dX5_level_95 : decode cX5_level 95 = .ok (.iinc 4 1, 3) := by decide +kernel
theorem dX5_level_98 : decode cX5_level 98 = .ok (.goto (-39), 3) := by decide +kernel
theorem dX5_level_101 : decode cX5_level 101 = .ok (.aload_n 0, 1) := by decide +kernel
theorem dX5_level_102 : decode cX5_level 102 = .ok (.invokevirtual 143, 3) := by decide +kernel
theorem dX5_level_105 : decode cX5_level 105 = .ok (.aload_n 3, 1) := by decide +kernel
theorem dX5_level_106 : decode cX5_level 106 = .ok (.getfield 97, 3) := by decide +kernel
theorem dX5_level_109 : decode cX5_level 109 = .ok (.iload_n 2, 1) := by decide +kernel
theorem dX5_level_110 : decode cX5_level 110 = .ok (.aload_n 0, 1) := by decide +kernel
theorem dX5_level_111 : decode cX5_level 111 = .ok (.getfield 39, 3) := by decide +kernel
theorem dX5_level_114 : decode cX5_level 114 = .ok (.getfield 171, 3) := by decide +kernel
theorem dX5_level_117 : decode cX5_level 117 = .ok (.iconst 0, 1) := by decide +kernel
theorem dX5_level_118 : decode cX5_level 118 = .ok (.bipush 20, 2) := by decide +kernel
theorem dX5_level_120 : decode cX5_level 120 = .ok (.invokestatic 111, 3) := by decide +kernel
theorem dX5_level_123 : decode cX5_level 123 = .ok (.aload_n 0, 1) := by decide +kernel
theorem dX5_level_124 : decode cX5_level 124 = .ok (.iconst 1, 1) := by decide +kernel
theorem dX5_level_125 : decode cX5_level 125 = .ok (.invokevirtual 88, 3) := by decide +kernel
theorem dX5_level_128 : decode cX5_level 128 = .ok (.ireturn, 1) := by decide +kernel
theorem dX5_undo_0 : decode cX5_undo 0 = .ok (.aload_n 0, 1) := by decide +kernel
theorem dX5_undo_1 : decode cX5_undo 1 = .ok (.getfield 58, 3) := by decide +kernel
theorem dX5_undo_4 : decode cX5_undo 4 = .ok (.ifCond .ne 6, 3) := by decide +kernel
theorem dX5_undo_7 : decode cX5_undo 7 = .ok (.ldc 139, 2) := by decide +kernel
theorem dX5_undo_9 : decode cX5_undo 9 = .ok (.ireturn, 1) := by decide +kernel
theorem dX5_undo_10 : decode cX5_undo 10 = .ok (.aload_n 0, 1) := by decide +kernel
theorem dX5_undo_11 : decode cX5_undo 11 = .ok (.aload_n 0, 1) := by decide +kernel
theorem dX5_undo_12 : decode cX5_undo 12 = .ok (.getfield 54, 3) := by decide +kernel
theorem dX5_undo_15 : decode cX5_undo 15 = .ok (.ifCond .ne 8, 3) := by decide +kernel
theorem dX5_undo_18 : decode cX5_undo 18 = .ok (.bipush 23, 2) := by decide +kernel
theorem dX5_undo_20 : decode cX5_undo 20 = .ok (.goto 9, 3) := by decide +kernel
theorem dX5_undo_23 : decode cX5_undo 23 = .ok (.aload_n 0, 1) := by decide +kernel
theorem dX5_undo_24 : decode cX5_undo 24 = .ok (.getfield 54, 3) := by decide +kernel
theorem dX5_undo_27 : decode cX5_undo 27 = .ok (.iconst 1, 1) := by decide +kernel
theorem dX5_undo_28 : decode cX5_undo 28 = .ok (.isub, 1) := by decide +kernel
theorem dX5_undo_29 : decode cX5_undo 29 = .ok (.putfield 54, 3) := by decide +kernel
theorem dX5_undo_32 : decode cX5_undo 32 = .ok (.aload_n 0, 1) := by decide +kernel
theorem dX5_undo_33 : decode cX5_undo 33 = .ok (.getfield 39, 3) := by decide +kernel
theorem dX5_undo_36 : decode cX5_undo 36 = .ok (.aload_n 0, 1) := by decide +kernel
theorem dX5_undo_37 : decode cX5_undo 37 = .ok (.getfield 50, 3) := by decide +kernel
theorem dX5_undo_40 : decode cX5_undo 40 = .ok (.aload_n 0, 1) := by decide +kernel
theorem dX5_undo_41 : decode cX5_undo 41 = .ok (.getfield 54, 3) := by decide +kernel
theorem dX5_undo_44 : decode cX5_undo 44 = .ok (.aaload, 1) := by decide +kernel
theorem dX5_undo_45 : decode cX5_undo 45 = .ok (.invokevirtual 174, 3) := by decide +kernel
theorem dX5_undo_48 : decode cX5_undo 48 = .ok (.aload_n 0, 1) := by decide +kernel
theorem dX5_undo_49 : decode cX5_undo 49 = .ok (.dup, 1) := by decide +kernel
theorem dX5_undo_50 : decode cX5_undo 50 = .ok (.getfield 58, 3) := by decide +kernel
theorem dX5_undo_53 : decode cX5_undo 53 = .ok (.iconst 1, 1) := by decide +kernel
theorem dX5_undo_54 : decode cX5_undo 54 = .ok (.isub, 1) := by decide +kernel
theorem dX5_undo_55 : decode cX5_undo 55 = .ok (.putfield 58, 3) := by decide +kernel
theorem dX5_undo_58 : decode cX5_undo 58 = .ok (.aload_n 0, 1) := by decide +kernel
theorem dX5_undo_59 : decode cX5_undo 59 = .ok (.getfield 58, 3) := by decide +kernel
theorem dX5_undo_62 : decode cX5_undo 62 = .ok (.ireturn, 1) := by decide +kernel
theorem dX5_tree_0 : decode cX5_tree 0 = .ok (.aload_n 0, 1) := by decide +kernel
theorem dX5_tree_1 : decode cX5_tree 1 = .ok (.getfield 39, 3) := by decide +kernel
theorem dX5_tree_4 : decode cX5_tree 4 = .ok (.iload_n 1, 1) := by decide +kernel
theorem dX5_tree_5 : decode cX5_tree 5 = .ok (.invokevirtual 149, 3) := by decide +kernel
theorem dX5_tree_8 : decode cX5_tree 8 = .ok (.ifCond .ne 6, 3) := by decide +kernel
theorem dX5_tree_11 : decode cX5_tree 11 = .ok (.ldc 79, 2) := by decide +kernel
theorem dX5_tree_13 : decode cX5_tree 13 = .ok (.ireturn, 1) := by decide +kernel
theorem dX5_tree_14 : decode cX5_tree 14 = .ok (.iload_n 2, 1) := by decide +kernel
theorem dX5_tree_15 : decode cX5_tree 15 = .ok (.tableswitch 68 0 3 #[29, 39, 48, 58], 29) := by decide +kernel
theorem dX5_tree_44 : decode cX5_tree 44 = .ok (.aload_n 0, 1) := by decide +kernel
theorem dX5_tree_45 : decode cX5_tree 45 = .ok (.getfield 39, 3) := by decide +kernel
theorem dX5_tree_48 : decode cX5_tree 48 = .ok (.getfield 168, 3) := by decide +kernel
theorem dX5_tree_51 : decode cX5_tree 51 = .ok (.iload_n 1, 1) := by decide +kernel
theorem dX5_tree_52 : decode cX5_tree 52 = .ok (.iaload, 1) := by decide +kernel
theorem dX5_tree_53 : decode cX5_tree 53 = .ok (.ireturn, 1) := by decide +kernel
theorem dX5_tree_54 : decode cX5_tree 54 = .ok (.aload_n 0, 1) := by decide +kernel
theorem dX5_tree_55 : decode cX5_tree 55 = .ok (.getfield 39, 3) := by decide +kernel
theorem dX5_tree_58 : decode cX5_tree 58 = .ok (.iload_n 1, 1) := by decide +kernel
theorem dX5_tree_59 : decode cX5_tree 59 = .ok (.invokevirtual 158, 3) := by decide +kernel
theorem dX5_tree_62 : decode cX5_tree 62 = .ok (.ireturn, 1) := by decide +kernel
theorem dX5_tree_63 : decode cX5_tree 63 = .ok (.aload_n 0, 1) := by decide +kernel
theorem dX5_tree_64 : decode cX5_tree 64 = .ok (.getfield 39, 3) := by decide +kernel
theorem dX5_tree_67 : decode cX5_tree 67 = .ok (.getfield 155, 3) := by decide +kernel
theorem dX5_tree_70 : decode cX5_tree 70 = .ok (.iload_n 1, 1) := by decide +kernel
theorem dX5_tree_71 : decode cX5_tree 71 = .ok (.iaload, 1) := by decide +kernel
theorem dX5_tree_72 : decode cX5_tree 72 = .ok (.ireturn, 1) := by decide +kernel
theorem dX5_tree_73 : decode cX5_tree 73 = .ok (.aload_n 0, 1) := by decide +kernel
theorem dX5_tree_74 : decode cX5_tree 74 = .ok (.getfield 39, 3) := by decide +kernel
theorem dX5_tree_77 : decode cX5_tree 77 = .ok (.getfield 178, 3) := by decide +kernel
theorem dX5_tree_80 : decode cX5_tree 80 = .ok (.iload_n 1, 1) := by decide +kernel
theorem dX5_tree_81 : decode cX5_tree 81 = .ok (.iaload, 1) := by decide +kernel
theorem dX5_tree_82 : decode cX5_tree 82 = .ok (.ireturn, 1) := by decide +kernel
theorem dX5_tree_83 : decode cX5_tree 83 = .ok (.ldc 79, 2) := by decide +kernel
theorem dX5_tree_85 : decode cX5_tree 85 = .ok (.ireturn, 1) := by decide +kernel
theorem dX5_site_0 : decode cX5_site 0 = .ok (.aload_n 0, 1) := by decide +kernel
theorem dX5_site_1 : decode cX5_site 1 = .ok (.getfield 46, 3) := by decide +kernel
theorem dX5_site_4 : decode cX5_site 4 = .ok (.ifCond .ne 6, 3) := by decide +kernel
theorem dX5_site_7 : decode cX5_site 7 = .ok (.ldc 139, 2) := by decide +kernel
theorem dX5_site_9 : decode cX5_site 9 = .ok (.ireturn, 1) := by decide +kernel
theorem dX5_site_10 : decode cX5_site 10 = .ok (.iload_n 1, 1) := by decide +kernel
theorem dX5_site_11 : decode cX5_site 11 = .ok (.ifCond .lt 9, 3) := by decide +kernel
theorem dX5_site_14 : decode cX5_site 14 = .ok (.iload_n 1, 1) := by decide +kernel
theorem dX5_site_15 : decode cX5_site 15 = .ok (.bipush 19, 2) := by decide +kernel
theorem dX5_site_17 : decode cX5_site 17 = .ok (.if_icmp .le 6, 3) := by decide +kernel
theorem dX5_site_20 : decode cX5_site 20 = .ok (.ldc 79, 2) := by decide +kernel
theorem dX5_site_22 : decode cX5_site 22 = .ok (.ireturn, 1) := by decide +kernel
theorem dX5_site_23 : decode cX5_site 23 = .ok (.iload_n 2, 1) := by decide +kernel
theorem dX5_site_24 : decode cX5_site 24 = .ok (.tableswitch 68 0 2 #[28, 38, 59], 28) := by decide +kernel
theorem dX5_site_52 : decode cX5_site 52 = .ok (.aload_n 0, 1) := by decide +kernel
theorem dX5_site_53 : decode cX5_site 53 = .ok (.getfield 39, 3) := by decide +kernel
theorem dX5_site_56 : decode cX5_site 56 = .ok (.getfield 171, 3) := by decide +kernel
theorem dX5_site_59 : decode cX5_site 59 = .ok (.iload_n 1, 1) := by decide +kernel
theorem dX5_site_60 : decode cX5_site 60 = .ok (.iaload, 1) := by decide +kernel
theorem dX5_site_61 : decode cX5_site 61 = .ok (.ireturn, 1) := by decide +kernel
theorem dX5_site_62 : decode cX5_site 62 = .ok (.aload_n 0, 1) := by decide +kernel
theorem dX5_site_63 : decode cX5_site 63 = .ok (.getfield 25, 3) := by decide +kernel
theorem dX5_site_66 : decode cX5_site 66 = .ok (.aload_n 0, 1) := by decide +kernel
theorem dX5_site_67 : decode cX5_site 67 = .ok (.getfield 39, 3) := by decide +kernel
theorem dX5_site_70 : decode cX5_site 70 = .ok (.invokevirtual 181, 3) := by decide +kernel
theorem dX5_site_73 : decode cX5_site 73 = .ok (.aload_n 0, 1) := by decide +kernel
theorem dX5_site_74 : decode cX5_site 74 = .ok (.getfield 25, 3) := by decide +kernel
theorem dX5_site_77 : decode cX5_site 77 = .ok (.getfield 184, 3) := by decide +kernel
theorem dX5_site_80 : decode cX5_site 80 = .ok (.iload_n 1, 1) := by decide +kernel
theorem dX5_site_81 : decode cX5_site 81 = .ok (.iaload, 1) := by decide +kernel
theorem dX5_site_82 : decode cX5_site 82 = .ok (.ireturn, 1) := by decide +kernel
theorem dX5_site_83 : decode cX5_site 83 = .ok (.aload_n 0, 1) := by decide +kernel
theorem dX5_site_84 : decode cX5_site 84 = .ok (.getfield 39, 3) := by decide +kernel
theorem dX5_site_87 : decode cX5_site 87 = .ok (.iload_n 1, 1) := by decide +kernel
theorem dX5_site_88 : decode cX5_site 88 = .ok (.invokevirtual 164, 3) := by decide +kernel
theorem dX5_site_91 : decode cX5_site 91 = .ok (.ireturn, 1) := by decide +kernel
theorem dX5_site_92 : decode cX5_site 92 = .ok (.ldc 79, 2) := by decide +kernel
theorem dX5_site_94 : decode cX5_site 94 = .ok (.ireturn, 1) := by decide +kernel
theorem dX5_seen_0 : decode cX5_seen 0 = .ok (.aload_n 0, 1) := by decide +kernel
theorem dX5_seen_1 : decode cX5_seen 1 = .ok (.getfield 46, 3) := by decide +kernel
theorem dX5_seen_4 : decode cX5_seen 4 = .ok (.ifCond .ne 6, 3) := by decide +kernel
theorem dX5_seen_7 : decode cX5_seen 7 = .ok (.ldc 139, 2) := by decide +kernel
theorem dX5_seen_9 : decode cX5_seen 9 = .ok (.ireturn, 1) := by decide +kernel
theorem dX5_seen_10 : decode cX5_seen 10 = .ok (.iload_n 1, 1) := by decide +kernel
theorem dX5_seen_11 : decode cX5_seen 11 = .ok (.ifCond .lt 16, 3) := by decide +kernel
theorem dX5_seen_14 : decode cX5_seen 14 = .ok (.iload_n 1, 1) := by decide +kernel
theorem dX5_seen_15 : decode cX5_seen 15 = .ok (.bipush 19, 2) := by decide +kernel
theorem dX5_seen_17 : decode cX5_seen 17 = .ok (.if_icmp .ge 10, 3) := by decide +kernel
theorem dX5_seen_20 : decode cX5_seen 20 = .ok (.iload_n 2, 1) := by decide +kernel
theorem dX5_seen_21 : decode cX5_seen 21 = .ok (.invokestatic 187, 3) := by decide +kernel
theorem dX5_seen_24 : decode cX5_seen 24 = .ok (.ifCond .ne 6, 3) := by decide +kernel
theorem dX5_seen_27 : decode cX5_seen 27 = .ok (.ldc 79, 2) := by decide +kernel
theorem dX5_seen_29 : decode cX5_seen 29 = .ok (.ireturn, 1) := by decide +kernel
theorem dX5_seen_30 : decode cX5_seen 30 = .ok (.aload_n 0, 1) := by decide +kernel
theorem dX5_seen_31 : decode cX5_seen 31 = .ok (.getfield 25, 3) := by decide +kernel
theorem dX5_seen_34 : decode cX5_seen 34 = .ok (.aload_n 0, 1) := by decide +kernel
theorem dX5_seen_35 : decode cX5_seen 35 = .ok (.getfield 39, 3) := by decide +kernel
theorem dX5_seen_38 : decode cX5_seen 38 = .ok (.invokevirtual 181, 3) := by decide +kernel
theorem dX5_seen_41 : decode cX5_seen 41 = .ok (.aload_n 0, 1) := by decide +kernel
theorem dX5_seen_42 : decode cX5_seen 42 = .ok (.getfield 25, 3) := by decide +kernel
theorem dX5_seen_45 : decode cX5_seen 45 = .ok (.aload_n 0, 1) := by decide +kernel
theorem dX5_seen_46 : decode cX5_seen 46 = .ok (.getfield 39, 3) := by decide +kernel
theorem dX5_seen_49 : decode cX5_seen 49 = .ok (.iload_n 1, 1) := by decide +kernel
theorem dX5_seen_50 : decode cX5_seen 50 = .ok (.iload_n 2, 1) := by decide +kernel
theorem dX5_seen_51 : decode cX5_seen 51 = .ok (.invokevirtual 190, 3) := by decide +kernel
theorem dX5_seen_54 : decode cX5_seen 54 = .ok (.ireturn, 1) := by decide +kernel
theorem dX5_doubled_0 : decode cX5_doubled 0 = .ok (.aload_n 0, 1) := by decide +kernel
theorem dX5_doubled_1 : decode cX5_doubled 1 = .ok (.getfield 46, 3) := by decide +kernel
theorem dX5_doubled_4 : decode cX5_doubled 4 = .ok (.ifCond .ne 6, 3) := by decide +kernel
theorem dX5_doubled_7 : decode cX5_doubled 7 = .ok (.ldc 139, 2) := by decide +kernel
theorem dX5_doubled_9 : decode cX5_doubled 9 = .ok (.ireturn, 1) := by decide +kernel
theorem dX5_doubled_10 : decode cX5_doubled 10 = .ok (.iload_n 1, 1) := by decide +kernel
theorem dX5_doubled_11 : decode cX5_doubled 11 = .ok (.invokestatic 187, 3) := by decide +kernel
theorem dX5_doubled_14 : decode cX5_doubled 14 = .ok (.ifCond .ne 6, 3) := by decide +kernel
theorem dX5_doubled_17 : decode cX5_doubled 17 = .ok (.ldc 79, 2) := by decide +kernel
theorem dX5_doubled_19 : decode cX5_doubled 19 = .ok (.ireturn, 1) := by decide +kernel
theorem dX5_doubled_20 : decode cX5_doubled 20 = .ok (.aload_n 0, 1) := by decide +kernel
theorem dX5_doubled_21 : decode cX5_doubled 21 = .ok (.getfield 25, 3) := by decide +kernel
theorem dX5_doubled_24 : decode cX5_doubled 24 = .ok (.aload_n 0, 1) := by decide +kernel
theorem dX5_doubled_25 : decode cX5_doubled 25 = .ok (.getfield 39, 3) := by decide +kernel
theorem dX5_doubled_28 : decode cX5_doubled 28 = .ok (.invokevirtual 181, 3) := by decide +kernel
theorem dX5_doubled_31 : decode cX5_doubled 31 = .ok (.iconst 0, 1) := by decide +kernel
theorem dX5_doubled_32 : decode cX5_doubled 32 = .ok (.istore_n 2, 1) := by decide +kernel
theorem dX5_doubled_33 : decode cX5_doubled 33 = .ok (.iconst 0, 1) := by decide +kernel
theorem dX5_doubled_34 : decode cX5_doubled 34 = .ok (.istore_n 3, 1) := by decide +kernel
theorem dX5_doubled_35 : decode cX5_doubled 35 = .ok (.iload_n 3, 1) := by decide +kernel
theorem dX5_doubled_36 : decode cX5_doubled 36 = .ok (.aload_n 0, 1) := by decide +kernel
theorem dX5_doubled_37 : decode cX5_doubled 37 = .ok (.getfield 39, 3) := by decide +kernel
theorem dX5_doubled_40 : decode cX5_doubled 40 = .ok (.getfield 194, 3) := by decide +kernel
theorem dX5_doubled_43 : decode cX5_doubled 43 = .ok (.if_icmp .ge 31, 3) := by decide +kernel
theorem dX5_doubled_46 : decode cX5_doubled 46 = .ok (.aload_n 0, 1) := by decide +kernel
theorem dX5_doubled_47 : decode cX5_doubled 47 = .ok (.getfield 25, 3) := by decide +kernel
theorem dX5_doubled_50 : decode cX5_doubled 50 = .ok (.aload_n 0, 1) := by decide +kernel
theorem dX5_doubled_51 : decode cX5_doubled 51 = .ok (.getfield 39, 3) := by decide +kernel
theorem dX5_doubled_54 : decode cX5_doubled 54 = .ok (.iload_n 3, 1) := by decide +kernel
theorem dX5_doubled_55 : decode cX5_doubled 55 = .ok (.iload_n 1, 1) := by decide +kernel
theorem dX5_doubled_56 : decode cX5_doubled 56 = .ok (.invokevirtual 197, 3) := by decide +kernel
theorem dX5_doubled_59 : decode cX5_doubled 59 = .ok (.ifCond .eq 9, 3) := by decide +kernel
theorem dX5_doubled_62 : decode cX5_doubled 62 = .ok (.iload_n 2, 1) := by decide +kernel
theorem dX5_doubled_63 : decode cX5_doubled 63 = .ok (.iconst 1, 1) := by decide +kernel
theorem dX5_doubled_64 : decode cX5_doubled 64 = .ok (.iload_n 3, 1) := by decide +kernel
theorem dX5_doubled_65 : decode cX5_doubled 65 = .ok (.ishl, 1) := by decide +kernel
theorem dX5_doubled_66 : decode cX5_doubled 66 = .ok (.ior, 1) := by decide +kernel
theorem dX5_doubled_67 : decode cX5_doubled 67 = .ok (.istore_n 2, 1) := by decide +kernel
theorem dX5_doubled_68 : decode cX5_doubled 68 = .ok (.iinc 3 1, 3) := by decide +kernel
theorem dX5_doubled_71 : decode cX5_doubled 71 = .ok (.goto (-36), 3) := by decide +kernel
theorem dX5_doubled_74 : decode cX5_doubled 74 = .ok (.iload_n 2, 1) := by decide +kernel
theorem dX5_doubled_75 : decode cX5_doubled 75 = .ok (.ireturn, 1) := by decide +kernel
theorem dX5_met_0 : decode cX5_met 0 = .ok (.aload_n 0, 1) := by decide +kernel
theorem dX5_met_1 : decode cX5_met 1 = .ok (.getfield 46, 3) := by decide +kernel
theorem dX5_met_4 : decode cX5_met 4 = .ok (.ifCond .ne 6, 3) := by decide +kernel
theorem dX5_met_7 : decode cX5_met 7 = .ok (.ldc 139, 2) := by decide +kernel
theorem dX5_met_9 : decode cX5_met 9 = .ok (.ireturn, 1) := by decide +kernel
theorem dX5_met_10 : decode cX5_met 10 = .ok (.iload_n 1, 1) := by decide +kernel
theorem dX5_met_11 : decode cX5_met 11 = .ok (.ifCond .ge 6, 3) := by decide +kernel
theorem dX5_met_14 : decode cX5_met 14 = .ok (.ldc 79, 2) := by decide +kernel
theorem dX5_met_16 : decode cX5_met 16 = .ok (.ireturn, 1) := by decide +kernel
theorem dX5_met_17 : decode cX5_met 17 = .ok (.aload_n 0, 1) := by decide +kernel
theorem dX5_met_18 : decode cX5_met 18 = .ok (.getfield 25, 3) := by decide +kernel
theorem dX5_met_21 : decode cX5_met 21 = .ok (.aload_n 0, 1) := by decide +kernel
theorem dX5_met_22 : decode cX5_met 22 = .ok (.getfield 39, 3) := by decide +kernel
theorem dX5_met_25 : decode cX5_met 25 = .ok (.invokevirtual 181, 3) := by decide +kernel
theorem dX5_met_28 : decode cX5_met 28 = .ok (.iconst 0, 1) := by decide +kernel
theorem dX5_met_29 : decode cX5_met 29 = .ok (.istore_n 2, 1) := by decide +kernel
theorem dX5_met_30 : decode cX5_met 30 = .ok (.iconst 0, 1) := by decide +kernel
theorem dX5_met_31 : decode cX5_met 31 = .ok (.istore_n 3, 1) := by decide +kernel
theorem dX5_met_32 : decode cX5_met 32 = .ok (.iload_n 3, 1) := by decide +kernel
theorem dX5_met_33 : decode cX5_met 33 = .ok (.bipush 31, 2) := by decide +kernel
theorem dX5_met_35 : decode cX5_met 35 = .ok (.if_icmp .ge 38, 3) := by decide +kernel
theorem dX5_met_38 : decode cX5_met 38 = .ok (.iload_n 1, 1) := by decide +kernel
theorem dX5_met_39 : decode cX5_met 39 = .ok (.iload_n 3, 1) := by decide +kernel
theorem dX5_met_40 : decode cX5_met 40 = .ok (.invokestatic 201, 3) := by decide +kernel
theorem dX5_met_43 : decode cX5_met 43 = .ok (.ifCond .eq 24, 3) := by decide +kernel
theorem dX5_met_46 : decode cX5_met 46 = .ok (.aload_n 0, 1) := by decide +kernel
theorem dX5_met_47 : decode cX5_met 47 = .ok (.getfield 25, 3) := by decide +kernel
theorem dX5_met_50 : decode cX5_met 50 = .ok (.aload_n 0, 1) := by decide +kernel
theorem dX5_met_51 : decode cX5_met 51 = .ok (.getfield 39, 3) := by decide +kernel
theorem dX5_met_54 : decode cX5_met 54 = .ok (.iload_n 3, 1) := by decide +kernel
theorem dX5_met_55 : decode cX5_met 55 = .ok (.invokevirtual 204, 3) := by decide +kernel
theorem dX5_met_58 : decode cX5_met 58 = .ok (.ifCond .eq 9, 3) := by decide +kernel
theorem dX5_met_61 : decode cX5_met 61 = .ok (.iload_n 2, 1) := by decide +kernel
theorem dX5_met_62 : decode cX5_met 62 = .ok (.iconst 1, 1) := by decide +kernel
theorem dX5_met_63 : decode cX5_met 63 = .ok (.iload_n 3, 1) := by decide +kernel
theorem dX5_met_64 : decode cX5_met 64 = .ok (.ishl, 1) := by decide +kernel
theorem dX5_met_65 : decode cX5_met 65 = .ok (.ior, 1) := by decide +kernel
theorem dX5_met_66 : decode cX5_met 66 = .ok (.istore_n 2, 1) := by decide +kernel
theorem dX5_met_67 : decode cX5_met 67 = .ok (.iinc 3 1, 3) := by decide +kernel
theorem dX5_met_70 : decode cX5_met 70 = .ok (.goto (-38), 3) := by decide +kernel
theorem dX5_met_73 : decode cX5_met 73 = .ok (.iload_n 2, 1) := by decide +kernel
theorem dX5_met_74 : decode cX5_met 74 = .ok (.ireturn, 1) := by decide +kernel
theorem dX5_cut_0 : decode cX5_cut 0 = .ok (.iload_n 1, 1) := by decide +kernel
theorem dX5_cut_1 : decode cX5_cut 1 = .ok (.ifCond .lt 41, 3) := by decide +kernel
theorem dX5_cut_4 : decode cX5_cut 4 = .ok (.iload 4, 2) := by decide +kernel
theorem dX5_cut_6 : decode cX5_cut 6 = .ok (.ifCond .lt 36, 3) := by decide +kernel
theorem dX5_cut_9 : decode cX5_cut 9 = .ok (.iload 4, 2) := by decide +kernel
theorem dX5_cut_11 : decode cX5_cut 11 = .ok (.iconst 1, 1) := by decide +kernel
theorem dX5_cut_12 : decode cX5_cut 12 = .ok (.if_icmp .gt 30, 3) := by decide +kernel
theorem dX5_cut_15 : decode cX5_cut 15 = .ok (.iload_n 2, 1) := by decide +kernel
theorem dX5_cut_16 : decode cX5_cut 16 = .ok (.iload_n 3, 1) := by decide +kernel
theorem dX5_cut_17 : decode cX5_cut 17 = .ok (.if_icmp .eq 25, 3) := by decide +kernel
theorem dX5_cut_20 : decode cX5_cut 20 = .ok (.aload_n 0, 1) := by decide +kernel
theorem dX5_cut_21 : decode cX5_cut 21 = .ok (.getfield 39, 3) := by decide +kernel
theorem dX5_cut_24 : decode cX5_cut 24 = .ok (.iload_n 2, 1) := by decide +kernel
theorem dX5_cut_25 : decode cX5_cut 25 = .ok (.invokevirtual 152, 3) := by decide +kernel
theorem dX5_cut_28 : decode cX5_cut 28 = .ok (.ifCond .eq 14, 3) := by decide +kernel
theorem dX5_cut_31 : decode cX5_cut 31 = .ok (.aload_n 0, 1) := by decide +kernel
theorem dX5_cut_32 : decode cX5_cut 32 = .ok (.getfield 39, 3) := by decide +kernel
theorem dX5_cut_35 : decode cX5_cut 35 = .ok (.iload_n 3, 1) := by decide +kernel
theorem dX5_cut_36 : decode cX5_cut 36 = .ok (.invokevirtual 152, 3) := by decide +kernel
theorem dX5_cut_39 : decode cX5_cut 39 = .ok (.ifCond .ne 6, 3) := by decide +kernel
theorem dX5_cut_42 : decode cX5_cut 42 = .ok (.ldc 79, 2) := by decide +kernel
theorem dX5_cut_44 : decode cX5_cut 44 = .ok (.ireturn, 1) := by decide +kernel
theorem dX5_cut_45 : decode cX5_cut 45 = .ok (.aload_n 0, 1) := by decide +kernel
theorem dX5_cut_46 : decode cX5_cut 46 = .ok (.getfield 25, 3) := by decide +kernel
theorem dX5_cut_49 : decode cX5_cut 49 = .ok (.aload_n 0, 1) := by decide +kernel
theorem dX5_cut_50 : decode cX5_cut 50 = .ok (.getfield 39, 3) := by decide +kernel
theorem dX5_cut_53 : decode cX5_cut 53 = .ok (.invokevirtual 181, 3) := by decide +kernel
theorem dX5_cut_56 : decode cX5_cut 56 = .ok (.aload_n 0, 1) := by decide +kernel
theorem dX5_cut_57 : decode cX5_cut 57 = .ok (.iload_n 1, 1) := by decide +kernel
theorem dX5_cut_58 : decode cX5_cut 58 = .ok (.iload_n 2, 1) := by decide +kernel
theorem dX5_cut_59 : decode cX5_cut 59 = .ok (.invokevirtual 208, 3) := by decide +kernel
theorem dX5_cut_62 : decode cX5_cut 62 = .ok (.istore 5, 2) := by decide +kernel
theorem dX5_cut_64 : decode cX5_cut 64 = .ok (.aload_n 0, 1) := by decide +kernel
theorem dX5_cut_65 : decode cX5_cut 65 = .ok (.iload_n 1, 1) := by decide +kernel
theorem dX5_cut_66 : decode cX5_cut 66 = .ok (.iload_n 3, 1) := by decide +kernel
theorem dX5_cut_67 : decode cX5_cut 67 = .ok (.invokevirtual 208, 3) := by decide +kernel
theorem dX5_cut_70 : decode cX5_cut 70 = .ok (.istore 6, 2) := by decide +kernel
theorem dX5_cut_72 : decode cX5_cut 72 = .ok (.iload 5, 2) := by decide +kernel
theorem dX5_cut_74 : decode cX5_cut 74 = .ok (.aload_n 0, 1) := by decide +kernel
theorem dX5_cut_75 : decode cX5_cut 75 = .ok (.getfield 39, 3) := by decide +kernel
theorem dX5_cut_78 : decode cX5_cut 78 = .ok (.iload_n 2, 1) := by decide +kernel
theorem dX5_cut_79 : decode cX5_cut 79 = .ok (.invokevirtual 158, 3) := by decide +kernel
theorem dX5_cut_82 : decode cX5_cut 82 = .ok (.if_icmp .gt 16, 3) := by decide +kernel
theorem dX5_cut_85 : decode cX5_cut 85 = .ok (.iload 6, 2) := by decide +kernel
theorem dX5_cut_87 : decode cX5_cut 87 = .ok (.aload_n 0, 1) := by decide +kernel
theorem dX5_cut_88 : decode cX5_cut 88 = .ok (.getfield 39, 3) := by decide +kernel
theorem dX5_cut_91 : decode cX5_cut 91 = .ok (.iload_n 3, 1) := by decide +kernel
theorem dX5_cut_92 : decode cX5_cut 92 = .ok (.invokevirtual 158, 3) := by decide +kernel
theorem dX5_cut_95 : decode cX5_cut 95 = .ok (.if_icmp .le 6, 3) := by decide +kernel
theorem dX5_cut_98 : decode cX5_cut 98 = .ok (.ldc 167, 2) := by decide +kernel
theorem dX5_cut_100 : decode cX5_cut 100 = .ok (.ireturn, 1) := by decide +kernel
theorem dX5_cut_101 : decode cX5_cut 101 = .ok (.aload_n 0, 1) := by decide +kernel
theorem dX5_cut_102 : decode cX5_cut 102 = .ok (.getfield 25, 3) := by decide +kernel
theorem dX5_cut_105 : decode cX5_cut 105 = .ok (.aload_n 0, 1) := by decide +kernel
theorem dX5_cut_106 : decode cX5_cut 106 = .ok (.getfield 39, 3) := by decide +kernel
theorem dX5_cut_109 : decode cX5_cut 109 = .ok (.getfield 168, 3) := by decide +kernel
theorem dX5_cut_112 : decode cX5_cut 112 = .ok (.iload_n 2, 1) := by decide +kernel
theorem dX5_cut_113 : decode cX5_cut 113 = .ok (.iaload, 1) := by decide +kernel
theorem dX5_cut_114 : decode cX5_cut 114 = .ok (.iload 5, 2) := by decide +kernel
theorem dX5_cut_116 : decode cX5_cut 116 = .ok (.ineg, 1) := by decide +kernel
theorem dX5_cut_117 : decode cX5_cut 117 = .ok (.invokevirtual 212, 3) := by decide +kernel
theorem dX5_cut_120 : decode cX5_cut 120 = .ok (.aload_n 0, 1) := by decide +kernel
theorem dX5_cut_121 : decode cX5_cut 121 = .ok (.getfield 25, 3) := by decide +kernel
theorem dX5_cut_124 : decode cX5_cut 124 = .ok (.aload_n 0, 1) := by decide +kernel
theorem dX5_cut_125 : decode cX5_cut 125 = .ok (.getfield 39, 3) := by decide +kernel
theorem dX5_cut_128 : decode cX5_cut 128 = .ok (.getfield 168, 3) := by decide +kernel
theorem dX5_cut_131 : decode cX5_cut 131 = .ok (.iload_n 3, 1) := by decide +kernel
theorem dX5_cut_132 : decode cX5_cut 132 = .ok (.iaload, 1) := by decide +kernel
theorem dX5_cut_133 : decode cX5_cut 133 = .ok (.iload 6, 2) := by decide +kernel
theorem dX5_cut_135 : decode cX5_cut 135 = .ok (.ineg, 1) := by decide +kernel
theorem dX5_cut_136 : decode cX5_cut 136 = .ok (.invokevirtual 212, 3) := by decide +kernel
theorem dX5_cut_139 : decode cX5_cut 139 = .ok (.aload_n 0, 1) := by decide +kernel
theorem dX5_cut_140 : decode cX5_cut 140 = .ok (.getfield 25, 3) := by decide +kernel
theorem dX5_cut_143 : decode cX5_cut 143 = .ok (.aload_n 0, 1) := by decide +kernel
theorem dX5_cut_144 : decode cX5_cut 144 = .ok (.getfield 39, 3) := by decide +kernel
theorem dX5_cut_147 : decode cX5_cut 147 = .ok (.iload_n 1, 1) := by decide +kernel
theorem dX5_cut_148 : decode cX5_cut 148 = .ok (.invokevirtual 215, 3) := by decide +kernel
theorem dX5_cut_151 : decode cX5_cut 151 = .ok (.ifCond .ne 6, 3) := by decide +kernel
theorem dX5_cut_154 : decode cX5_cut 154 = .ok (.ldc 167, 2) := by decide +kernel
theorem dX5_cut_156 : decode cX5_cut 156 = .ok (.ireturn, 1) := by decide +kernel
theorem dX5_cut_157 : decode cX5_cut 157 = .ok (.iload 4, 2) := by decide +kernel
theorem dX5_cut_159 : decode cX5_cut 159 = .ok (.ifCond .ne 11, 3) := by decide +kernel
theorem dX5_cut_162 : decode cX5_cut 162 = .ok (.iload 5, 2) := by decide +kernel
theorem dX5_cut_164 : decode cX5_cut 164 = .ok (.iload 6, 2) := by decide +kernel
theorem dX5_cut_166 : decode cX5_cut 166 = .ok (.iadd, 1) := by decide +kernel
theorem dX5_cut_167 : decode cX5_cut 167 = .ok (.goto 5, 3) := by decide +kernel
theorem dX5_cut_170 : decode cX5_cut 170 = .ok (.iload 5, 2) := by decide +kernel
theorem dX5_cut_172 : decode cX5_cut 172 = .ok (.ireturn, 1) := by decide +kernel
theorem dX5_plant_0 : decode cX5_plant 0 = .ok (.aload_n 0, 1) := by decide +kernel
theorem dX5_plant_1 : decode cX5_plant 1 = .ok (.getfield 46, 3) := by decide +kernel
theorem dX5_plant_4 : decode cX5_plant 4 = .ok (.ifCond .ne 6, 3) := by decide +kernel
theorem dX5_plant_7 : decode cX5_plant 7 = .ok (.ldc 139, 2) := by decide +kernel
theorem dX5_plant_9 : decode cX5_plant 9 = .ok (.ireturn, 1) := by decide +kernel
theorem dX5_plant_10 : decode cX5_plant 10 = .ok (.iload_n 1, 1) := by decide +kernel
theorem dX5_plant_11 : decode cX5_plant 11 = .ok (.ifCond .lt 34, 3) := by decide +kernel
theorem dX5_plant_14 : decode cX5_plant 14 = .ok (.iload_n 2, 1) := by decide +kernel
theorem dX5_plant_15 : decode cX5_plant 15 = .ok (.ifCond .lt 30, 3) := by decide +kernel
theorem dX5_plant_18 : decode cX5_plant 18 = .ok (.iload_n 2, 1) := by decide +kernel
theorem dX5_plant_19 : decode cX5_plant 19 = .ok (.iconst 4, 1) := by decide +kernel
theorem dX5_plant_20 : decode cX5_plant 20 = .ok (.if_icmp .gt 25, 3) := by decide +kernel
theorem dX5_plant_23 : decode cX5_plant 23 = .ok (.iload_n 3, 1) := by decide +kernel
theorem dX5_plant_24 : decode cX5_plant 24 = .ok (.ifCond .lt 21, 3) := by decide +kernel
theorem dX5_plant_27 : decode cX5_plant 27 = .ok (.iload_n 3, 1) := by decide +kernel
theorem dX5_plant_28 : decode cX5_plant 28 = .ok (.bipush 9, 2) := by decide +kernel
theorem dX5_plant_30 : decode cX5_plant 30 = .ok (.if_icmp .gt 15, 3) := by decide +kernel
theorem dX5_plant_33 : decode cX5_plant 33 = .ok (.iload 4, 2) := by decide +kernel
theorem dX5_plant_35 : decode cX5_plant 35 = .ok (.ifCond .lt 10, 3) := by decide +kernel
theorem dX5_plant_38 : decode cX5_plant 38 = .ok (.iload 4, 2) := by decide +kernel
theorem dX5_plant_40 : decode cX5_plant 40 = .ok (.bipush 99, 2) := by decide +kernel
theorem dX5_plant_42 : decode cX5_plant 42 = .ok (.if_icmp .le 6, 3) := by decide +kernel
theorem dX5_plant_45 : decode cX5_plant 45 = .ok (.ldc 79, 2) := by decide +kernel
theorem dX5_plant_47 : decode cX5_plant 47 = .ok (.ireturn, 1) := by decide +kernel
theorem dX5_plant_48 : decode cX5_plant 48 = .ok (.aload_n 0, 1) := by decide +kernel
theorem dX5_plant_49 : decode cX5_plant 49 = .ok (.getfield 39, 3) := by decide +kernel
theorem dX5_plant_52 : decode cX5_plant 52 = .ok (.getfield 136, 3) := by decide +kernel
theorem dX5_plant_55 : decode cX5_plant 55 = .ok (.bipush 6, 2) := by decide +kernel
theorem dX5_plant_57 : decode cX5_plant 57 = .ok (.if_icmp .lt 6, 3) := by decide +kernel
theorem dX5_plant_60 : decode cX5_plant 60 = .ok (.ldc 167, 2) := by decide +kernel
theorem dX5_plant_62 : decode cX5_plant 62 = .ok (.ireturn, 1) := by decide +kernel
theorem dX5_plant_63 : decode cX5_plant 63 = .ok (.iload_n 2, 1) := by decide +kernel
theorem dX5_plant_64 : decode cX5_plant 64 = .ok (.iconst 3, 1) := by decide +kernel
theorem dX5_plant_65 : decode cX5_plant 65 = .ok (.if_icmp .eq 8, 3) := by decide +kernel
theorem dX5_plant_68 : decode cX5_plant 68 = .ok (.iload_n 2, 1) := by decide +kernel
theorem dX5_plant_69 : decode cX5_plant 69 = .ok (.iconst 4, 1) := by decide +kernel
theorem dX5_plant_70 : decode cX5_plant 70 = .ok (.if_icmp .ne 7, 3) := by decide +kernel
theorem dX5_plant_73 : decode cX5_plant 73 = .ok (.iconst 1, 1) := by decide +kernel
theorem dX5_plant_74 : decode cX5_plant 74 = .ok (.goto 4, 3) := by decide +kernel
theorem dX5_plant_77 : decode cX5_plant 77 = .ok (.iconst 0, 1) := by decide +kernel
theorem dX5_plant_78 : decode cX5_plant 78 = .ok (.istore 5, 2) := by decide +kernel
theorem dX5_plant_80 : decode cX5_plant 80 = .ok (.iload 5, 2) := by decide +kernel
theorem dX5_plant_82 : decode cX5_plant 82 = .ok (.ifCond .eq 7, 3) := by decide +kernel
theorem dX5_plant_85 : decode cX5_plant 85 = .ok (.iconst 5, 1) := by decide +kernel
theorem dX5_plant_86 : decode cX5_plant 86 = .ok (.goto 14, 3) := by decide +kernel
theorem dX5_plant_89 : decode cX5_plant 89 = .ok (.bipush 99, 2) := by decide +kernel
theorem dX5_plant_91 : decode cX5_plant 91 = .ok (.iconst 5, 1) := by decide +kernel
theorem dX5_plant_92 : decode cX5_plant 92 = .ok (.iload_n 3, 1) := by decide +kernel
theorem dX5_plant_93 : decode cX5_plant 93 = .ok (.iload 4, 2) := by decide +kernel
theorem dX5_plant_95 : decode cX5_plant 95 = .ok (.imul, 1) := by decide +kernel
theorem dX5_plant_96 : decode cX5_plant 96 = .ok (.iadd, 1) := by decide +kernel
theorem dX5_plant_97 : decode cX5_plant 97 = .ok (.invokestatic 218, 3) := by decide +kernel
theorem dX5_plant_100 : decode cX5_plant 100 = .ok (.istore 6, 2) := by decide +kernel
theorem dX5_plant_102 : decode cX5_plant 102 = .ok (.aload_n 0, 1) := by decide +kernel
theorem dX5_plant_103 : decode cX5_plant 103 = .ok (.getfield 25, 3) := by decide +kernel
theorem dX5_plant_106 : decode cX5_plant 106 = .ok (.aload_n 0, 1) := by decide +kernel
theorem dX5_plant_107 : decode cX5_plant 107 = .ok (.getfield 39, 3) := by decide +kernel
theorem dX5_plant_110 : decode cX5_plant 110 = .ok (.aload_n 0, 1) := by decide +kernel
theorem dX5_plant_111 : decode cX5_plant 111 = .ok (.getfield 39, 3) := by decide +kernel
theorem dX5_plant_114 : decode cX5_plant 114 = .ok (.getfield 140, 3) := by decide +kernel
theorem dX5_plant_117 : decode cX5_plant 117 = .ok (.iload 4, 2) := by decide +kernel
theorem dX5_plant_119 : decode cX5_plant 119 = .ok (.iadd, 1) := by decide +kernel
theorem dX5_plant_120 : decode cX5_plant 120 = .ok (.iconst 0, 1) := by decide +kernel
theorem dX5_plant_121 : decode cX5_plant 121 = .ok (.invokevirtual 223, 3) := by decide +kernel
theorem dX5_plant_124 : decode cX5_plant 124 = .ok (.iconst 1, 1) := by decide +kernel
theorem dX5_plant_125 : decode cX5_plant 125 = .ok (.istore 7, 2) := by decide +kernel
theorem dX5_plant_127 : decode cX5_plant 127 = .ok (.iload 7, 2) := by decide +kernel
theorem dX5_plant_129 : decode cX5_plant 129 = .ok (.bipush 19, 2) := by decide +kernel
theorem dX5_plant_131 : decode cX5_plant 131 = .ok (.if_icmp .ge 68, 3) := by decide +kernel
theorem dX5_plant_134 : decode cX5_plant 134 = .ok (.aload_n 0, 1) := by decide +kernel
theorem dX5_plant_135 : decode cX5_plant 135 = .ok (.getfield 39, 3) := by decide +kernel
theorem dX5_plant_138 : decode cX5_plant 138 = .ok (.iload 7, 2) := by decide +kernel
theorem dX5_plant_140 : decode cX5_plant 140 = .ok (.invokevirtual 164, 3) := by decide +kernel
theorem dX5_plant_143 : decode cX5_plant 143 = .ok (.ldc 167, 2) := by decide +kernel
theorem dX5_plant_145 : decode cX5_plant 145 = .ok (.if_icmp .ne 48, 3) := by decide +kernel
theorem dX5_plant_148 : decode cX5_plant 148 = .ok (.aload_n 0, 1) := by decide +kernel
theorem dX5_plant_149 : decode cX5_plant 149 = .ok (.getfield 25, 3) := by decide +kernel
theorem dX5_plant_152 : decode cX5_plant 152 = .ok (.iload 7, 2) := by decide +kernel
theorem dX5_plant_154 : decode cX5_plant 154 = .ok (.iload 6, 2) := by decide +kernel
theorem dX5_plant_156 : decode cX5_plant 156 = .ok (.invokevirtual 212, 3) := by decide +kernel
theorem dX5_plant_159 : decode cX5_plant 159 = .ok (.aload_n 0, 1) := by decide +kernel
theorem dX5_plant_160 : decode cX5_plant 160 = .ok (.getfield 25, 3) := by decide +kernel
theorem dX5_plant_163 : decode cX5_plant 163 = .ok (.aload_n 0, 1) := by decide +kernel
theorem dX5_plant_164 : decode cX5_plant 164 = .ok (.getfield 39, 3) := by decide +kernel
theorem dX5_plant_167 : decode cX5_plant 167 = .ok (.iload_n 1, 1) := by decide +kernel
theorem dX5_plant_168 : decode cX5_plant 168 = .ok (.invokevirtual 215, 3) := by decide +kernel
theorem dX5_plant_171 : decode cX5_plant 171 = .ok (.istore 8, 2) := by decide +kernel
theorem dX5_plant_173 : decode cX5_plant 173 = .ok (.aload_n 0, 1) := by decide +kernel
theorem dX5_plant_174 : decode cX5_plant 174 = .ok (.getfield 25, 3) := by decide +kernel
theorem dX5_plant_177 : decode cX5_plant 177 = .ok (.iload 7, 2) := by decide +kernel
theorem dX5_plant_179 : decode cX5_plant 179 = .ok (.iload 6, 2) := by decide +kernel
theorem dX5_plant_181 : decode cX5_plant 181 = .ok (.ineg, 1) := by decide +kernel
theorem dX5_plant_182 : decode cX5_plant 182 = .ok (.invokevirtual 212, 3) := by decide +kernel
theorem dX5_plant_185 : decode cX5_plant 185 = .ok (.iload 8, 2) := by decide +kernel
theorem dX5_plant_187 : decode cX5_plant 187 = .ok (.ifCond .eq 6, 3) := by decide +kernel
theorem dX5_plant_190 : decode cX5_plant 190 = .ok (.iload 7, 2) := by decide +kernel
theorem dX5_plant_192 : decode cX5_plant 192 = .ok (.ireturn, 1) := by decide +kernel
theorem dX5_plant_193 : decode cX5_plant 193 = .ok (.iinc 7 1, 3) := by decide +kernel
theorem dX5_plant_196 : decode cX5_plant 196 = .ok (.goto (-69), 3) := by decide +kernel
theorem dX5_plant_199 : decode cX5_plant 199 = .ok (.ldc 167, 2) := by decide +kernel
theorem dX5_plant_201 : decode cX5_plant 201 = .ok (.ireturn, 1) := by decide +kernel
theorem dX5_moon_0 : decode cX5_moon 0 = .ok (.aload_n 0, 1) := by decide +kernel
theorem dX5_moon_1 : decode cX5_moon 1 = .ok (.getfield 46, 3) := by decide +kernel
theorem dX5_moon_4 : decode cX5_moon 4 = .ok (.ifCond .ne 6, 3) := by decide +kernel
theorem dX5_moon_7 : decode cX5_moon 7 = .ok (.ldc 139, 2) := by decide +kernel
theorem dX5_moon_9 : decode cX5_moon 9 = .ok (.ireturn, 1) := by decide +kernel
theorem dX5_moon_10 : decode cX5_moon 10 = .ok (.iload_n 1, 1) := by decide +kernel
theorem dX5_moon_11 : decode cX5_moon 11 = .ok (.invokestatic 187, 3) := by decide +kernel
theorem dX5_moon_14 : decode cX5_moon 14 = .ok (.ifCond .ne 6, 3) := by decide +kernel
theorem dX5_moon_17 : decode cX5_moon 17 = .ok (.ldc 79, 2) := by decide +kernel
theorem dX5_moon_19 : decode cX5_moon 19 = .ok (.ireturn, 1) := by decide +kernel
theorem dX5_moon_20 : decode cX5_moon 20 = .ok (.aload_n 0, 1) := by decide +kernel
theorem dX5_moon_21 : decode cX5_moon 21 = .ok (.getfield 25, 3) := by decide +kernel
theorem dX5_moon_24 : decode cX5_moon 24 = .ok (.aload_n 0, 1) := by decide +kernel
theorem dX5_moon_25 : decode cX5_moon 25 = .ok (.getfield 39, 3) := by decide +kernel
theorem dX5_moon_28 : decode cX5_moon 28 = .ok (.invokevirtual 181, 3) := by decide +kernel
theorem dX5_moon_31 : decode cX5_moon 31 = .ok (.aload_n 0, 1) := by decide +kernel
theorem dX5_moon_32 : decode cX5_moon 32 = .ok (.getfield 39, 3) := by decide +kernel
theorem dX5_moon_35 : decode cX5_moon 35 = .ok (.getfield 171, 3) := by decide +kernel
theorem dX5_moon_38 : decode cX5_moon 38 = .ok (.iconst 0, 1) := by decide +kernel
theorem dX5_moon_39 : decode cX5_moon 39 = .ok (.iaload, 1) := by decide +kernel
theorem dX5_moon_40 : decode cX5_moon 40 = .ok (.iload_n 1, 1) := by decide +kernel
theorem dX5_moon_41 : decode cX5_moon 41 = .ok (.iadd, 1) := by decide +kernel
theorem dX5_moon_42 : decode cX5_moon 42 = .ok (.istore_n 2, 1) := by decide +kernel
theorem dX5_moon_43 : decode cX5_moon 43 = .ok (.iconst 0, 1) := by decide +kernel
theorem dX5_moon_44 : decode cX5_moon 44 = .ok (.istore_n 3, 1) := by decide +kernel
theorem dX5_moon_45 : decode cX5_moon 45 = .ok (.iconst 0, 1) := by decide +kernel
theorem dX5_moon_46 : decode cX5_moon 46 = .ok (.istore 4, 2) := by decide +kernel
theorem dX5_moon_48 : decode cX5_moon 48 = .ok (.iload 4, 2) := by decide +kernel
theorem dX5_moon_50 : decode cX5_moon 50 = .ok (.bipush 13, 2) := by decide +kernel
theorem dX5_moon_52 : decode cX5_moon 52 = .ok (.if_icmp .ge 52, 3) := by decide +kernel
theorem dX5_moon_55 : decode cX5_moon 55 = .ok (.aload_n 0, 1) := by decide +kernel
theorem dX5_moon_56 : decode cX5_moon 56 = .ok (.getfield 39, 3) := by decide +kernel
theorem dX5_moon_59 : decode cX5_moon 59 = .ok (.getfield 171, 3) := by decide +kernel
theorem dX5_moon_62 : decode cX5_moon 62 = .ok (.bipush 19, 2) := by decide +kernel
theorem dX5_moon_64 : decode cX5_moon 64 = .ok (.iaload, 1) := by decide +kernel
theorem dX5_moon_65 : decode cX5_moon 65 = .ok (.bipush 20, 2) := by decide +kernel
theorem dX5_moon_67 : decode cX5_moon 67 = .ok (.iadd, 1) := by decide +kernel
theorem dX5_moon_68 : decode cX5_moon 68 = .ok (.iconst 3, 1) := by decide +kernel
theorem dX5_moon_69 : decode cX5_moon 69 = .ok (.iload 4, 2) := by decide +kernel
theorem dX5_moon_71 : decode cX5_moon 71 = .ok (.imul, 1) := by decide +kernel
theorem dX5_moon_72 : decode cX5_moon 72 = .ok (.iadd, 1) := by decide +kernel
theorem dX5_moon_73 : decode cX5_moon 73 = .ok (.istore 5, 2) := by decide +kernel
theorem dX5_moon_75 : decode cX5_moon 75 = .ok (.aload_n 0, 1) := by decide +kernel
theorem dX5_moon_76 : decode cX5_moon 76 = .ok (.getfield 25, 3) := by decide +kernel
theorem dX5_moon_79 : decode cX5_moon 79 = .ok (.iload_n 2, 1) := by decide +kernel
theorem dX5_moon_80 : decode cX5_moon 80 = .ok (.iconst 0, 1) := by decide +kernel
theorem dX5_moon_81 : decode cX5_moon 81 = .ok (.iload 5, 2) := by decide +kernel
theorem dX5_moon_83 : decode cX5_moon 83 = .ok (.bipush 19, 2) := by decide +kernel
theorem dX5_moon_85 : decode cX5_moon 85 = .ok (.invokevirtual 227, 3) := by decide +kernel
theorem dX5_moon_88 : decode cX5_moon 88 = .ok (.ifCond .eq 10, 3) := by decide +kernel
theorem dX5_moon_91 : decode cX5_moon 91 = .ok (.iload_n 3, 1) := by decide +kernel
theorem dX5_moon_92 : decode cX5_moon 92 = .ok (.iconst 1, 1) := by decide +kernel
theorem dX5_moon_93 : decode cX5_moon 93 = .ok (.iload 4, 2) := by decide +kernel
theorem dX5_moon_95 : decode cX5_moon 95 = .ok (.ishl, 1) := by decide +kernel
theorem dX5_moon_96 : decode cX5_moon 96 = .ok (.ior, 1) := by decide +kernel
theorem dX5_moon_97 : decode cX5_moon 97 = .ok (.istore_n 3, 1) := by decide +kernel
theorem dX5_moon_98 : decode cX5_moon 98 = .ok (.iinc 4 1, 3) := by decide +kernel
theorem dX5_moon_101 : decode cX5_moon 101 = .ok (.goto (-53), 3) := by decide +kernel
theorem dX5_moon_104 : decode cX5_moon 104 = .ok (.iload_n 3, 1) := by decide +kernel
theorem dX5_moon_105 : decode cX5_moon 105 = .ok (.ireturn, 1) := by decide +kernel
theorem dX5_path_0 : decode cX5_path 0 = .ok (.aload_n 0, 1) := by decide +kernel
theorem dX5_path_1 : decode cX5_path 1 = .ok (.getfield 46, 3) := by decide +kernel
theorem dX5_path_4 : decode cX5_path 4 = .ok (.ifCond .ne 6, 3) := by decide +kernel
theorem dX5_path_7 : decode cX5_path 7 = .ok (.ldc 139, 2) := by decide +kernel
theorem dX5_path_9 : decode cX5_path 9 = .ok (.ireturn, 1) := by decide +kernel
theorem dX5_path_10 : decode cX5_path 10 = .ok (.iload_n 1, 1) := by decide +kernel
theorem dX5_path_11 : decode cX5_path 11 = .ok (.invokestatic 187, 3) := by decide +kernel
theorem dX5_path_14 : decode cX5_path 14 = .ok (.ifCond .eq 14, 3) := by decide +kernel
theorem dX5_path_17 : decode cX5_path 17 = .ok (.aload_n 0, 1) := by decide +kernel
theorem dX5_path_18 : decode cX5_path 18 = .ok (.getfield 39, 3) := by decide +kernel
theorem dX5_path_21 : decode cX5_path 21 = .ok (.iload_n 2, 1) := by decide +kernel
theorem dX5_path_22 : decode cX5_path 22 = .ok (.invokevirtual 231, 3) := by decide +kernel
theorem dX5_path_25 : decode cX5_path 25 = .ok (.ifCond .ne 6, 3) := by decide +kernel
theorem dX5_path_28 : decode cX5_path 28 = .ok (.ldc 79, 2) := by decide +kernel
theorem dX5_path_30 : decode cX5_path 30 = .ok (.ireturn, 1) := by decide +kernel
theorem dX5_path_31 : decode cX5_path 31 = .ok (.aload_n 0, 1) := by decide +kernel
theorem dX5_path_32 : decode cX5_path 32 = .ok (.iload_n 1, 1) := by decide +kernel
theorem dX5_path_33 : decode cX5_path 33 = .ok (.iload_n 2, 1) := by decide +kernel
theorem dX5_path_34 : decode cX5_path 34 = .ok (.iconst 0, 1) := by decide +kernel
theorem dX5_path_35 : decode cX5_path 35 = .ok (.invokevirtual 234, 3) := by decide +kernel
theorem dX5_path_38 : decode cX5_path 38 = .ok (.ireturn, 1) := by decide +kernel
theorem dX5_picture_0 : decode cX5_picture 0 = .ok (.aload_n 0, 1) := by decide +kernel
theorem dX5_picture_1 : decode cX5_picture 1 = .ok (.getfield 46, 3) := by decide +kernel
theorem dX5_picture_4 : decode cX5_picture 4 = .ok (.ifCond .ne 6, 3) := by decide +kernel
theorem dX5_picture_7 : decode cX5_picture 7 = .ok (.ldc 139, 2) := by decide +kernel
theorem dX5_picture_9 : decode cX5_picture 9 = .ok (.ireturn, 1) := by decide +kernel
theorem dX5_picture_10 : decode cX5_picture 10 = .ok (.iload_n 1, 1) := by decide +kernel
theorem dX5_picture_11 : decode cX5_picture 11 = .ok (.invokestatic 187, 3) := by decide +kernel
theorem dX5_picture_14 : decode cX5_picture 14 = .ok (.ifCond .eq 14, 3) := by decide +kernel
theorem dX5_picture_17 : decode cX5_picture 17 = .ok (.aload_n 0, 1) := by decide +kernel
theorem dX5_picture_18 : decode cX5_picture 18 = .ok (.getfield 39, 3) := by decide +kernel
theorem dX5_picture_21 : decode cX5_picture 21 = .ok (.iload_n 2, 1) := by decide +kernel
theorem dX5_picture_22 : decode cX5_picture 22 = .ok (.invokevirtual 231, 3) := by decide +kernel
theorem dX5_picture_25 : decode cX5_picture 25 = .ok (.ifCond .ne 6, 3) := by decide +kernel
theorem dX5_picture_28 : decode cX5_picture 28 = .ok (.ldc 79, 2) := by decide +kernel
theorem dX5_picture_30 : decode cX5_picture 30 = .ok (.ireturn, 1) := by decide +kernel
theorem dX5_picture_31 : decode cX5_picture 31 = .ok (.aload_n 0, 1) := by decide +kernel
theorem dX5_picture_32 : decode cX5_picture 32 = .ok (.iload_n 1, 1) := by decide +kernel
theorem dX5_picture_33 : decode cX5_picture 33 = .ok (.bipush 63, 2) := by decide +kernel
theorem dX5_picture_35 : decode cX5_picture 35 = .ok (.iload_n 2, 1) := by decide +kernel
theorem dX5_picture_36 : decode cX5_picture 36 = .ok (.invokevirtual 234, 3) := by decide +kernel
theorem dX5_picture_39 : decode cX5_picture 39 = .ok (.ireturn, 1) := by decide +kernel
theorem dX5_rival_0 : decode cX5_rival 0 = .ok (.aload_n 0, 1) := by decide +kernel
theorem dX5_rival_1 : decode cX5_rival 1 = .ok (.getfield 46, 3) := by decide +kernel
theorem dX5_rival_4 : decode cX5_rival 4 = .ok (.ifCond .ne 6, 3) := by decide +kernel
theorem dX5_rival_7 : decode cX5_rival 7 = .ok (.ldc 139, 2) := by decide +kernel
theorem dX5_rival_9 : decode cX5_rival 9 = .ok (.ireturn, 1) := by decide +kernel
theorem dX5_rival_10 : decode cX5_rival 10 = .ok (.iload_n 1, 1) := by decide +kernel
theorem dX5_rival_11 : decode cX5_rival 11 = .ok (.invokestatic 187, 3) := by decide +kernel
theorem dX5_rival_14 : decode cX5_rival 14 = .ok (.ifCond .eq 14, 3) := by decide +kernel
theorem dX5_rival_17 : decode cX5_rival 17 = .ok (.iload_n 2, 1) := by decide +kernel
theorem dX5_rival_18 : decode cX5_rival 18 = .ok (.iconst 1, 1) := by decide +kernel
theorem dX5_rival_19 : decode cX5_rival 19 = .ok (.if_icmp .lt 9, 3) := by decide +kernel
theorem dX5_rival_22 : decode cX5_rival 22 = .ok (.iload_n 2, 1) := by decide +kernel
theorem dX5_rival_23 : decode cX5_rival 23 = .ok (.bipush 9, 2) := by decide +kernel
theorem dX5_rival_25 : decode cX5_rival 25 = .ok (.if_icmp .le 6, 3) := by decide +kernel
theorem dX5_rival_28 : decode cX5_rival 28 = .ok (.ldc 79, 2) := by decide +kernel
theorem dX5_rival_30 : decode cX5_rival 30 = .ok (.ireturn, 1) := by decide +kernel
theorem dX5_rival_31 : decode cX5_rival 31 = .ok (.aload_n 0, 1) := by decide +kernel
theorem dX5_rival_32 : decode cX5_rival 32 = .ok (.getfield 25, 3) := by decide +kernel
theorem dX5_rival_35 : decode cX5_rival 35 = .ok (.aload_n 0, 1) := by decide +kernel
theorem dX5_rival_36 : decode cX5_rival 36 = .ok (.getfield 39, 3) := by decide +kernel
theorem dX5_rival_39 : decode cX5_rival 39 = .ok (.invokevirtual 181, 3) := by decide +kernel
theorem dX5_rival_42 : decode cX5_rival 42 = .ok (.aload_n 0, 1) := by decide +kernel
theorem dX5_rival_43 : decode cX5_rival 43 = .ok (.getfield 39, 3) := by decide +kernel
theorem dX5_rival_46 : decode cX5_rival 46 = .ok (.getfield 171, 3) := by decide +kernel
theorem dX5_rival_49 : decode cX5_rival 49 = .ok (.iconst 0, 1) := by decide +kernel
theorem dX5_rival_50 : decode cX5_rival 50 = .ok (.iaload, 1) := by decide +kernel
theorem dX5_rival_51 : decode cX5_rival 51 = .ok (.iload_n 1, 1) := by decide +kernel
theorem dX5_rival_52 : decode cX5_rival 52 = .ok (.iadd, 1) := by decide +kernel
theorem dX5_rival_53 : decode cX5_rival 53 = .ok (.istore_n 3, 1) := by decide +kernel
theorem dX5_rival_54 : decode cX5_rival 54 = .ok (.iconst 0, 1) := by decide +kernel
theorem dX5_rival_55 : decode cX5_rival 55 = .ok (.istore 4, 2) := by decide +kernel
theorem dX5_rival_57 : decode cX5_rival 57 = .ok (.iconst 1, 1) := by decide +kernel
theorem dX5_rival_58 : decode cX5_rival 58 = .ok (.istore 5, 2) := by decide +kernel
theorem dX5_rival_60 : decode cX5_rival 60 = .ok (.iload 5, 2) := by decide +kernel
theorem dX5_rival_62 : decode cX5_rival 62 = .ok (.iload_n 2, 1) := by decide +kernel
theorem dX5_rival_63 : decode cX5_rival 63 = .ok (.if_icmp .gt 99, 3) := by decide +kernel
theorem dX5_rival_66 : decode cX5_rival 66 = .ok (.aload_n 0, 1) := by decide +kernel
theorem dX5_rival_67 : decode cX5_rival 67 = .ok (.getfield 39, 3) := by decide +kernel
theorem dX5_rival_70 : decode cX5_rival 70 = .ok (.getfield 171, 3) := by decide +kernel
theorem dX5_rival_73 : decode cX5_rival 73 = .ok (.bipush 18, 2) := by decide +kernel
theorem dX5_rival_75 : decode cX5_rival 75 = .ok (.iaload, 1) := by decide +kernel
theorem dX5_rival_76 : decode cX5_rival 76 = .ok (.bipush 10, 2) := by decide +kernel
theorem dX5_rival_78 : decode cX5_rival 78 = .ok (.iload 5, 2) := by decide +kernel
theorem dX5_rival_80 : decode cX5_rival 80 = .ok (.imul, 1) := by decide +kernel
theorem dX5_rival_81 : decode cX5_rival 81 = .ok (.iadd, 1) := by decide +kernel
theorem dX5_rival_82 : decode cX5_rival 82 = .ok (.istore 6, 2) := by decide +kernel
theorem dX5_rival_84 : decode cX5_rival 84 = .ok (.aload_n 0, 1) := by decide +kernel
theorem dX5_rival_85 : decode cX5_rival 85 = .ok (.getfield 25, 3) := by decide +kernel
theorem dX5_rival_88 : decode cX5_rival 88 = .ok (.iload_n 3, 1) := by decide +kernel
theorem dX5_rival_89 : decode cX5_rival 89 = .ok (.iconst 0, 1) := by decide +kernel
theorem dX5_rival_90 : decode cX5_rival 90 = .ok (.iload 6, 2) := by decide +kernel
theorem dX5_rival_92 : decode cX5_rival 92 = .ok (.bipush 18, 2) := by decide +kernel
theorem dX5_rival_94 : decode cX5_rival 94 = .ok (.invokevirtual 227, 3) := by decide +kernel
theorem dX5_rival_97 : decode cX5_rival 97 = .ok (.ifCond .eq 59, 3) := by decide +kernel
theorem dX5_rival_100 : decode cX5_rival 100 = .ok (.aload_n 0, 1) := by decide +kernel
theorem dX5_rival_101 : decode cX5_rival 101 = .ok (.iload_n 3, 1) := by decide +kernel
theorem dX5_rival_102 : decode cX5_rival 102 = .ok (.iload 6, 2) := by decide +kernel
theorem dX5_rival_104 : decode cX5_rival 104 = .ok (.invokevirtual 238, 3) := by decide +kernel
theorem dX5_rival_107 : decode cX5_rival 107 = .ok (.istore 7, 2) := by decide +kernel
theorem dX5_rival_109 : decode cX5_rival 109 = .ok (.iload 7, 2) := by decide +kernel
theorem dX5_rival_111 : decode cX5_rival 111 = .ok (.ldc 167, 2) := by decide +kernel
theorem dX5_rival_113 : decode cX5_rival 113 = .ok (.if_icmp .ne 6, 3) := by decide +kernel
theorem dX5_rival_116 : decode cX5_rival 116 = .ok (.ldc 167, 2) := by decide +kernel
theorem dX5_rival_118 : decode cX5_rival 118 = .ok (.ireturn, 1) := by decide +kernel
theorem dX5_rival_119 : decode cX5_rival 119 = .ok (.aload_n 0, 1) := by decide +kernel
theorem dX5_rival_120 : decode cX5_rival 120 = .ok (.iload 7, 2) := by decide +kernel
theorem dX5_rival_122 : decode cX5_rival 122 = .ok (.iload_n 3, 1) := by decide +kernel
theorem dX5_rival_123 : decode cX5_rival 123 = .ok (.iload 6, 2) := by decide +kernel
theorem dX5_rival_125 : decode cX5_rival 125 = .ok (.invokevirtual 241, 3) := by decide +kernel
theorem dX5_rival_128 : decode cX5_rival 128 = .ok (.istore 8, 2) := by decide +kernel
theorem dX5_rival_130 : decode cX5_rival 130 = .ok (.aload_n 0, 1) := by decide +kernel
theorem dX5_rival_131 : decode cX5_rival 131 = .ok (.getfield 25, 3) := by decide +kernel
theorem dX5_rival_134 : decode cX5_rival 134 = .ok (.aload_n 0, 1) := by decide +kernel
theorem dX5_rival_135 : decode cX5_rival 135 = .ok (.getfield 39, 3) := by decide +kernel
theorem dX5_rival_138 : decode cX5_rival 138 = .ok (.getfield 168, 3) := by decide +kernel
theorem dX5_rival_141 : decode cX5_rival 141 = .ok (.iload 7, 2) := by decide +kernel
theorem dX5_rival_143 : decode cX5_rival 143 = .ok (.iaload, 1) := by decide +kernel
theorem dX5_rival_144 : decode cX5_rival 144 = .ok (.iload 8, 2) := by decide +kernel
theorem dX5_rival_146 : decode cX5_rival 146 = .ok (.invokevirtual 212, 3) := by decide +kernel
theorem dX5_rival_149 : decode cX5_rival 149 = .ok (.iload 4, 2) := by decide +kernel
theorem dX5_rival_151 : decode cX5_rival 151 = .ok (.iload 8, 2) := by decide +kernel
theorem dX5_rival_153 : decode cX5_rival 153 = .ok (.iadd, 1) := by decide +kernel
theorem dX5_rival_154 : decode cX5_rival 154 = .ok (.istore 4, 2) := by decide +kernel
theorem dX5_rival_156 : decode cX5_rival 156 = .ok (.iinc 5 1, 3) := by decide +kernel
theorem dX5_rival_159 : decode cX5_rival 159 = .ok (.goto (-99), 3) := by decide +kernel
theorem dX5_rival_162 : decode cX5_rival 162 = .ok (.iload 4, 2) := by decide +kernel
theorem dX5_rival_164 : decode cX5_rival 164 = .ok (.ireturn, 1) := by decide +kernel
theorem dX5_image_0 : decode cX5_image 0 = .ok (.iload_n 1, 1) := by decide +kernel
theorem dX5_image_1 : decode cX5_image 1 = .ok (.ifCond .lt 8, 3) := by decide +kernel
theorem dX5_image_4 : decode cX5_image 4 = .ok (.iload_n 1, 1) := by decide +kernel
theorem dX5_image_5 : decode cX5_image 5 = .ok (.iconst 2, 1) := by decide +kernel
theorem dX5_image_6 : decode cX5_image 6 = .ok (.if_icmp .lt 6, 3) := by decide +kernel
theorem dX5_image_9 : decode cX5_image 9 = .ok (.ldc 79, 2) := by decide +kernel
theorem dX5_image_11 : decode cX5_image 11 = .ok (.ireturn, 1) := by decide +kernel
theorem dX5_image_12 : decode cX5_image 12 = .ok (.aload_n 0, 1) := by decide +kernel
theorem dX5_image_13 : decode cX5_image 13 = .ok (.getfield 46, 3) := by decide +kernel
theorem dX5_image_16 : decode cX5_image 16 = .ok (.ifCond .ne 6, 3) := by decide +kernel
theorem dX5_image_19 : decode cX5_image 19 = .ok (.ldc 139, 2) := by decide +kernel
theorem dX5_image_21 : decode cX5_image 21 = .ok (.ireturn, 1) := by decide +kernel
theorem dX5_image_22 : decode cX5_image 22 = .ok (.aload_n 0, 1) := by decide +kernel
theorem dX5_image_23 : decode cX5_image 23 = .ok (.getfield 61, 3) := by decide +kernel
theorem dX5_image_26 : decode cX5_image 26 = .ok (.iload_n 1, 1) := by decide +kernel
theorem dX5_image_27 : decode cX5_image 27 = .ok (.aaload, 1) := by decide +kernel
theorem dX5_image_28 : decode cX5_image 28 = .ok (.aload_n 0, 1) := by decide +kernel
theorem dX5_image_29 : decode cX5_image 29 = .ok (.getfield 39, 3) := by decide +kernel
theorem dX5_image_32 : decode cX5_image 32 = .ok (.invokevirtual 174, 3) := by decide +kernel
theorem dX5_image_35 : decode cX5_image 35 = .ok (.aload_n 0, 1) := by decide +kernel
theorem dX5_image_36 : decode cX5_image 36 = .ok (.getfield 64, 3) := by decide +kernel
theorem dX5_image_39 : decode cX5_image 39 = .ok (.iload_n 1, 1) := by decide +kernel
theorem dX5_image_40 : decode cX5_image 40 = .ok (.iconst 1, 1) := by decide +kernel
theorem dX5_image_41 : decode cX5_image 41 = .ok (.bastore, 1) := by decide +kernel
theorem dX5_image_42 : decode cX5_image 42 = .ok (.iconst 1, 1) := by decide +kernel
theorem dX5_image_43 : decode cX5_image 43 = .ok (.ireturn, 1) := by decide +kernel
theorem dX5_restore_0 : decode cX5_restore 0 = .ok (.iload_n 1, 1) := by decide +kernel
theorem dX5_restore_1 : decode cX5_restore 1 = .ok (.ifCond .lt 8, 3) := by decide +kernel
theorem dX5_restore_4 : decode cX5_restore 4 = .ok (.iload_n 1, 1) := by decide +kernel
theorem dX5_restore_5 : decode cX5_restore 5 = .ok (.iconst 2, 1) := by decide +kernel
theorem dX5_restore_6 : decode cX5_restore 6 = .ok (.if_icmp .lt 6, 3) := by decide +kernel
theorem dX5_restore_9 : decode cX5_restore 9 = .ok (.ldc 79, 2) := by decide +kernel
theorem dX5_restore_11 : decode cX5_restore 11 = .ok (.ireturn, 1) := by decide +kernel
theorem dX5_restore_12 : decode cX5_restore 12 = .ok (.aload_n 0, 1) := by decide +kernel
theorem dX5_restore_13 : decode cX5_restore 13 = .ok (.getfield 64, 3) := by decide +kernel
theorem dX5_restore_16 : decode cX5_restore 16 = .ok (.iload_n 1, 1) := by decide +kernel
theorem dX5_restore_17 : decode cX5_restore 17 = .ok (.baload, 1) := by decide +kernel
theorem dX5_restore_18 : decode cX5_restore 18 = .ok (.ifCond .ne 6, 3) := by decide +kernel
theorem dX5_restore_21 : decode cX5_restore 21 = .ok (.ldc 139, 2) := by decide +kernel
theorem dX5_restore_23 : decode cX5_restore 23 = .ok (.ireturn, 1) := by decide +kernel
theorem dX5_restore_24 : decode cX5_restore 24 = .ok (.aload_n 0, 1) := by decide +kernel
theorem dX5_restore_25 : decode cX5_restore 25 = .ok (.getfield 39, 3) := by decide +kernel
theorem dX5_restore_28 : decode cX5_restore 28 = .ok (.aload_n 0, 1) := by decide +kernel
theorem dX5_restore_29 : decode cX5_restore 29 = .ok (.getfield 61, 3) := by decide +kernel
theorem dX5_restore_32 : decode cX5_restore 32 = .ok (.iload_n 1, 1) := by decide +kernel
theorem dX5_restore_33 : decode cX5_restore 33 = .ok (.aaload, 1) := by decide +kernel
theorem dX5_restore_34 : decode cX5_restore 34 = .ok (.invokevirtual 174, 3) := by decide +kernel
theorem dX5_restore_37 : decode cX5_restore 37 = .ok (.aload_n 0, 1) := by decide +kernel
theorem dX5_restore_38 : decode cX5_restore 38 = .ok (.iconst 0, 1) := by decide +kernel
theorem dX5_restore_39 : decode cX5_restore 39 = .ok (.putfield 58, 3) := by decide +kernel
theorem dX5_restore_42 : decode cX5_restore 42 = .ok (.iconst 1, 1) := by decide +kernel
theorem dX5_restore_43 : decode cX5_restore 43 = .ok (.ireturn, 1) := by decide +kernel
theorem dX5_kind_0 : decode cX5_kind 0 = .ok (.aload_n 0, 1) := by decide +kernel
theorem dX5_kind_1 : decode cX5_kind 1 = .ok (.getfield 39, 3) := by decide +kernel
theorem dX5_kind_4 : decode cX5_kind 4 = .ok (.iload_n 1, 1) := by decide +kernel
theorem dX5_kind_5 : decode cX5_kind 5 = .ok (.invokevirtual 149, 3) := by decide +kernel
theorem dX5_kind_8 : decode cX5_kind 8 = .ok (.ifCond .eq 15, 3) := by decide +kernel
theorem dX5_kind_11 : decode cX5_kind 11 = .ok (.aload_n 0, 1) := by decide +kernel
theorem dX5_kind_12 : decode cX5_kind 12 = .ok (.getfield 39, 3) := by decide +kernel
theorem dX5_kind_15 : decode cX5_kind 15 = .ok (.getfield 244, 3) := by decide +kernel
theorem dX5_kind_18 : decode cX5_kind 18 = .ok (.iload_n 1, 1) := by decide +kernel
theorem dX5_kind_19 : decode cX5_kind 19 = .ok (.iaload, 1) := by decide +kernel
theorem dX5_kind_20 : decode cX5_kind 20 = .ok (.goto 5, 3) := by decide +kernel
theorem dX5_kind_23 : decode cX5_kind 23 = .ok (.ldc 79, 2) := by decide +kernel
theorem dX5_kind_25 : decode cX5_kind 25 = .ok (.ireturn, 1) := by decide +kernel
theorem dX5_as_0 : decode cX5_as 0 = .ok (.aload_n 0, 1) := by decide +kernel
theorem dX5_as_1 : decode cX5_as 1 = .ok (.getfield 39, 3) := by decide +kernel
theorem dX5_as_4 : decode cX5_as 4 = .ok (.iload_n 1, 1) := by decide +kernel
theorem dX5_as_5 : decode cX5_as 5 = .ok (.invokevirtual 149, 3) := by decide +kernel
theorem dX5_as_8 : decode cX5_as 8 = .ok (.ifCond .eq 12, 3) := by decide +kernel
theorem dX5_as_11 : decode cX5_as 11 = .ok (.iload_n 2, 1) := by decide +kernel
theorem dX5_as_12 : decode cX5_as 12 = .ok (.ifCond .lt 8, 3) := by decide +kernel
theorem dX5_as_15 : decode cX5_as 15 = .ok (.iload_n 2, 1) := by decide +kernel
theorem dX5_as_16 : decode cX5_as 16 = .ok (.iconst 5, 1) := by decide +kernel
theorem dX5_as_17 : decode cX5_as 17 = .ok (.if_icmp .le 6, 3) := by decide +kernel
theorem dX5_as_20 : decode cX5_as 20 = .ok (.ldc 79, 2) := by decide +kernel
theorem dX5_as_22 : decode cX5_as 22 = .ok (.ireturn, 1) := by decide +kernel
theorem dX5_as_23 : decode cX5_as 23 = .ok (.aload_n 0, 1) := by decide +kernel
theorem dX5_as_24 : decode cX5_as 24 = .ok (.getfield 39, 3) := by decide +kernel
theorem dX5_as_27 : decode cX5_as 27 = .ok (.getfield 244, 3) := by decide +kernel
theorem dX5_as_30 : decode cX5_as 30 = .ok (.iload_n 1, 1) := by decide +kernel
theorem dX5_as_31 : decode cX5_as 31 = .ok (.iaload, 1) := by decide +kernel
theorem dX5_as_32 : decode cX5_as 32 = .ok (.iload_n 2, 1) := by decide +kernel
theorem dX5_as_33 : decode cX5_as 33 = .ok (.invokestatic 247, 3) := by decide +kernel
theorem dX5_as_36 : decode cX5_as 36 = .ok (.ifCond .eq 11, 3) := by decide +kernel
theorem dX5_as_39 : decode cX5_as 39 = .ok (.aload_n 0, 1) := by decide +kernel
theorem dX5_as_40 : decode cX5_as 40 = .ok (.iload_n 1, 1) := by decide +kernel
theorem dX5_as_41 : decode cX5_as 41 = .ok (.invokevirtual 88, 3) := by decide +kernel
theorem dX5_as_44 : decode cX5_as 44 = .ok (.goto 8, 3) := by decide +kernel
theorem dX5_as_47 : decode cX5_as 47 = .ok (.aload_n 0, 1) := by decide +kernel
theorem dX5_as_48 : decode cX5_as 48 = .ok (.iconst 3, 1) := by decide +kernel
theorem dX5_as_49 : decode cX5_as 49 = .ok (.invokevirtual 80, 3) := by decide +kernel
theorem dX5_as_52 : decode cX5_as 52 = .ok (.ireturn, 1) := by decide +kernel
theorem dX5_ask_0 : decode cX5_ask 0 = .ok (.aload_n 0, 1) := by decide +kernel
theorem dX5_ask_1 : decode cX5_ask 1 = .ok (.getfield 39, 3) := by decide +kernel
theorem dX5_ask_4 : decode cX5_ask 4 = .ok (.iload_n 1, 1) := by decide +kernel
theorem dX5_ask_5 : decode cX5_ask 5 = .ok (.invokevirtual 149, 3) := by decide +kernel
theorem dX5_ask_8 : decode cX5_ask 8 = .ok (.ifCond .eq 12, 3) := by decide +kernel
theorem dX5_ask_11 : decode cX5_ask 11 = .ok (.iload_n 2, 1) := by decide +kernel
theorem dX5_ask_12 : decode cX5_ask 12 = .ok (.ifCond .lt 8, 3) := by decide +kernel
theorem dX5_ask_15 : decode cX5_ask 15 = .ok (.iload_n 2, 1) := by decide +kernel
theorem dX5_ask_16 : decode cX5_ask 16 = .ok (.iconst 1, 1) := by decide +kernel
theorem dX5_ask_17 : decode cX5_ask 17 = .ok (.if_icmp .le 6, 3) := by decide +kernel
theorem dX5_ask_20 : decode cX5_ask 20 = .ok (.ldc 79, 2) := by decide +kernel
theorem dX5_ask_22 : decode cX5_ask 22 = .ok (.ireturn, 1) := by decide +kernel
theorem dX5_ask_23 : decode cX5_ask 23 = .ok (.aload_n 0, 1) := by decide +kernel
theorem dX5_ask_24 : decode cX5_ask 24 = .ok (.getfield 32, 3) := by decide +kernel
theorem dX5_ask_27 : decode cX5_ask 27 = .ok (.iconst 0, 1) := by decide +kernel
theorem dX5_ask_28 : decode cX5_ask 28 = .ok (.putfield 250, 3) := by decide +kernel
theorem dX5_ask_31 : decode cX5_ask 31 = .ok (.iload_n 2, 1) := by decide +kernel
theorem dX5_ask_32 : decode cX5_ask 32 = .ok (.ifCond .ne 18, 3) := by decide +kernel
theorem dX5_ask_35 : decode cX5_ask 35 = .ok (.aload_n 0, 1) := by decide +kernel
theorem dX5_ask_36 : decode cX5_ask 36 = .ok (.getfield 39, 3) := by decide +kernel
theorem dX5_ask_39 : decode cX5_ask 39 = .ok (.getfield 244, 3) := by decide +kernel
theorem dX5_ask_42 : decode cX5_ask 42 = .ok (.iload_n 1, 1) := by decide +kernel
theorem dX5_ask_43 : decode cX5_ask 43 = .ok (.iaload, 1) := by decide +kernel
theorem dX5_ask_44 : decode cX5_ask 44 = .ok (.invokestatic 253, 3) := by decide +kernel
theorem dX5_ask_47 : decode cX5_ask 47 = .ok (.goto 15, 3) := by decide +kernel
theorem dX5_ask_50 : decode cX5_ask 50 = .ok (.aload_n 0, 1) := by decide +kernel
theorem dX5_ask_51 : decode cX5_ask 51 = .ok (.getfield 39, 3) := by decide +kernel
theorem dX5_ask_54 : decode cX5_ask 54 = .ok (.getfield 244, 3) := by decide +kernel
theorem dX5_ask_57 : decode cX5_ask 57 = .ok (.iload_n 1, 1) := by decide +kernel
theorem dX5_ask_58 : decode cX5_ask 58 = .ok (.iaload, 1) := by decide +kernel
theorem dX5_ask_59 : decode cX5_ask 59 = .ok (.invokestatic 256, 3) := by decide +kernel
theorem dX5_ask_62 : decode cX5_ask 62 = .ok (.istore_n 3, 1) := by decide +kernel
theorem dX5_ask_63 : decode cX5_ask 63 = .ok (.aload_n 0, 1) := by decide +kernel
theorem dX5_ask_64 : decode cX5_ask 64 = .ok (.getfield 39, 3) := by decide +kernel
theorem dX5_ask_67 : decode cX5_ask 67 = .ok (.aload_n 0, 1) := by decide +kernel
theorem dX5_ask_68 : decode cX5_ask 68 = .ok (.getfield 32, 3) := by decide +kernel
theorem dX5_ask_71 : decode cX5_ask 71 = .ok (.iload_n 1, 1) := by decide +kernel
theorem dX5_ask_72 : decode cX5_ask 72 = .ok (.iload_n 3, 1) := by decide +kernel
theorem dX5_ask_73 : decode cX5_ask 73 = .ok (.iconst 0, 1) := by decide +kernel
theorem dX5_ask_74 : decode cX5_ask 74 = .ok (.invokestatic 259, 3) := by decide +kernel
theorem dX5_ask_77 : decode cX5_ask 77 = .ok (.ireturn, 1) := by decide +kernel
theorem dX5_trace_0 : decode cX5_trace 0 = .ok (.iload_n 1, 1) := by decide +kernel
theorem dX5_trace_1 : decode cX5_trace 1 = .ok (.ifCond .lt 26, 3) := by decide +kernel
theorem dX5_trace_4 : decode cX5_trace 4 = .ok (.iload_n 1, 1) := by decide +kernel
theorem dX5_trace_5 : decode cX5_trace 5 = .ok (.aload_n 0, 1) := by decide +kernel
theorem dX5_trace_6 : decode cX5_trace 6 = .ok (.getfield 32, 3) := by decide +kernel
theorem dX5_trace_9 : decode cX5_trace 9 = .ok (.getfield 250, 3) := by decide +kernel
theorem dX5_trace_12 : decode cX5_trace 12 = .ok (.if_icmp .ge 15, 3) := by decide +kernel
theorem dX5_trace_15 : decode cX5_trace 15 = .ok (.aload_n 0, 1) := by decide +kernel
theorem dX5_trace_16 : decode cX5_trace 16 = .ok (.getfield 32, 3) := by decide +kernel
theorem dX5_trace_19 : decode cX5_trace 19 = .ok (.getfield 263, 3) := by decide +kernel
theorem dX5_trace_22 : decode cX5_trace 22 = .ok (.iload_n 1, 1) := by decide +kernel
theorem dX5_trace_23 : decode cX5_trace 23 = .ok (.iaload, 1) := by decide +kernel
theorem dX5_trace_24 : decode cX5_trace 24 = .ok (.goto 5, 3) := by decide +kernel
theorem dX5_trace_27 : decode cX5_trace 27 = .ok (.ldc 167, 2) := by decide +kernel
theorem dX5_trace_29 : decode cX5_trace 29 = .ok (.ireturn, 1) := by decide +kernel
theorem dX5_count_0 : decode cX5_count 0 = .ok (.iload_n 1, 1) := by decide +kernel
theorem dX5_count_1 : decode cX5_count 1 = .ok (.tableswitch 101 0 6 #[43, 48, 56, 64, 72, 77, 93], 43) := by decide +kernel
theorem dX5_count_44 : decode cX5_count 44 = .ok (.aload_n 0, 1) := by decide +kernel
theorem dX5_count_45 : decode cX5_count 45 = .ok (.invokevirtual 266, 3) := by decide +kernel
theorem dX5_count_48 : decode cX5_count 48 = .ok (.ireturn, 1) := by decide +kernel
theorem dX5_count_49 : decode cX5_count 49 = .ok (.aload_n 0, 1) := by decide +kernel
theorem dX5_count_50 : decode cX5_count 50 = .ok (.getfield 39, 3) := by decide +kernel
theorem dX5_count_53 : decode cX5_count 53 = .ok (.getfield 136, 3) := by decide +kernel
theorem dX5_count_56 : decode cX5_count 56 = .ok (.ireturn, 1) := by decide +kernel
theorem dX5_count_57 : decode cX5_count 57 = .ok (.aload_n 0, 1) := by decide +kernel
theorem dX5_count_58 : decode cX5_count 58 = .ok (.getfield 39, 3) := by decide +kernel
theorem dX5_count_61 : decode cX5_count 61 = .ok (.getfield 194, 3) := by decide +kernel
theorem dX5_count_64 : decode cX5_count 64 = .ok (.ireturn, 1) := by decide +kernel
theorem dX5_count_65 : decode cX5_count 65 = .ok (.aload_n 0, 1) := by decide +kernel
theorem dX5_count_66 : decode cX5_count 66 = .ok (.getfield 39, 3) := by decide +kernel
theorem dX5_count_69 : decode cX5_count 69 = .ok (.getfield 140, 3) := by decide +kernel
theorem dX5_count_72 : decode cX5_count 72 = .ok (.ireturn, 1) := by decide +kernel
theorem dX5_count_73 : decode cX5_count 73 = .ok (.aload_n 0, 1) := by decide +kernel
theorem dX5_count_74 : decode cX5_count 74 = .ok (.getfield 58, 3) := by decide +kernel
theorem dX5_count_77 : decode cX5_count 77 = .ok (.ireturn, 1) := by decide +kernel
theorem dX5_count_78 : decode cX5_count 78 = .ok (.aload_n 0, 1) := by decide +kernel
theorem dX5_count_79 : decode cX5_count 79 = .ok (.getfield 39, 3) := by decide +kernel
theorem dX5_count_82 : decode cX5_count 82 = .ok (.getfield 146, 3) := by decide +kernel
theorem dX5_count_85 : decode cX5_count 85 = .ok (.ifCond .eq 7, 3) := by decide +kernel
theorem dX5_count_88 : decode cX5_count 88 = .ok (.iconst 1, 1) := by decide +kernel
theorem dX5_count_89 : decode cX5_count 89 = .ok (.goto 4, 3) := by decide +kernel
theorem dX5_count_92 : decode cX5_count 92 = .ok (.iconst 0, 1) := by decide +kernel
theorem dX5_count_93 : decode cX5_count 93 = .ok (.ireturn, 1) := by decide +kernel
theorem dX5_count_94 : decode cX5_count 94 = .ok (.aload_n 0, 1) := by decide +kernel
theorem dX5_count_95 : decode cX5_count 95 = .ok (.getfield 18, 3) := by decide +kernel
theorem dX5_count_98 : decode cX5_count 98 = .ok (.getfield 117, 3) := by decide +kernel
theorem dX5_count_101 : decode cX5_count 101 = .ok (.ireturn, 1) := by decide +kernel
theorem dX5_count_102 : decode cX5_count 102 = .ok (.ldc 79, 2) := by decide +kernel
theorem dX5_count_104 : decode cX5_count 104 = .ok (.ireturn, 1) := by decide +kernel
theorem dX5_status_0 : decode cX5_status 0 = .ok (.aload_n 0, 1) := by decide +kernel
theorem dX5_status_1 : decode cX5_status 1 = .ok (.getfield 71, 3) := by decide +kernel
theorem dX5_status_4 : decode cX5_status 4 = .ok (.ireturn, 1) := by decide +kernel
theorem dX5_found_0 : decode cX5_found 0 = .ok (.aload_n 0, 1) := by decide +kernel
theorem dX5_found_1 : decode cX5_found 1 = .ok (.iload_n 1, 1) := by decide +kernel
theorem dX5_found_2 : decode cX5_found 2 = .ok (.putfield 71, 3) := by decide +kernel
theorem dX5_found_5 : decode cX5_found 5 = .ok (.ldc_w 270, 3) := by decide +kernel
theorem dX5_found_8 : decode cX5_found 8 = .ok (.iload_n 1, 1) := by decide +kernel
theorem dX5_found_9 : decode cX5_found 9 = .ok (.isub, 1) := by decide +kernel
theorem dX5_found_10 : decode cX5_found 10 = .ok (.ireturn, 1) := by decide +kernel
theorem dX5_unfound_0 : decode cX5_unfound 0 = .ok (.aload_n 0, 1) := by decide +kernel
theorem dX5_unfound_1 : decode cX5_unfound 1 = .ok (.iconst 0, 1) := by decide +kernel
theorem dX5_unfound_2 : decode cX5_unfound 2 = .ok (.putfield 71, 3) := by decide +kernel
theorem dX5_unfound_5 : decode cX5_unfound 5 = .ok (.iload_n 1, 1) := by decide +kernel
theorem dX5_unfound_6 : decode cX5_unfound 6 = .ok (.ireturn, 1) := by decide +kernel
theorem dX5_isRow_0 : decode cX5_isRow 0 = .ok (.iload_n 0, 1) := by decide +kernel
theorem dX5_isRow_1 : decode cX5_isRow 1 = .ok (.ifCond .lt 13, 3) := by decide +kernel
theorem dX5_isRow_4 : decode cX5_isRow 4 = .ok (.iload_n 0, 1) := by decide +kernel
theorem dX5_isRow_5 : decode cX5_isRow 5 = .ok (.bipush 8, 2) := by decide +kernel
theorem dX5_isRow_7 : decode cX5_isRow 7 = .ok (.if_icmp .ge 7, 3) := by decide +kernel
theorem dX5_isRow_10 : decode cX5_isRow 10 = .ok (.iconst 1, 1) := by decide +kernel
theorem dX5_isRow_11 : decode cX5_isRow 11 = .ok (.goto 4, 3) := by decide +kernel
theorem dX5_isRow_14 : decode cX5_isRow 14 = .ok (.iconst 0, 1) := by decide +kernel
theorem dX5_isRow_15 : decode cX5_isRow 15 = .ok (.ireturn, 1) := by decide +kernel
theorem dX5_isEye_0 : decode cX5_isEye 0 = .ok (.iload_n 0, 1) := by decide +kernel
theorem dX5_isEye_1 : decode cX5_isEye 1 = .ok (.ifCond .lt 13, 3) := by decide +kernel
theorem dX5_isEye_4 : decode cX5_isEye 4 = .ok (.iload_n 0, 1) := by decide +kernel
theorem dX5_isEye_5 : decode cX5_isEye 5 = .ok (.bipush 30, 2) := by decide +kernel
theorem dX5_isEye_7 : decode cX5_isEye 7 = .ok (.if_icmp .gt 7, 3) := by decide +kernel
theorem dX5_isEye_10 : decode cX5_isEye 10 = .ok (.iconst 1, 1) := by decide +kernel
theorem dX5_isEye_11 : decode cX5_isEye 11 = .ok (.goto 4, 3) := by decide +kernel
theorem dX5_isEye_14 : decode cX5_isEye 14 = .ok (.iconst 0, 1) := by decide +kernel
theorem dX5_isEye_15 : decode cX5_isEye 15 = .ok (.ireturn, 1) := by decide +kernel
theorem dX5_isInnerSite_0 : decode cX5_isInnerSite 0 = .ok (.iload_n 0, 1) := by decide +kernel
theorem dX5_isInnerSite_1 : decode cX5_isInnerSite 1 = .ok (.ifCond .le 13, 3) := by decide +kernel
theorem dX5_isInnerSite_4 : decode cX5_isInnerSite 4 = .ok (.iload_n 0, 1) := by decide +kernel
theorem dX5_isInnerSite_5 : decode cX5_isInnerSite 5 = .ok (.bipush 19, 2) := by decide +kernel
theorem dX5_isInnerSite_7 : decode cX5_isInnerSite 7 = .ok (.if_icmp .ge 7, 3) := by decide +kernel
theorem dX5_isInnerSite_10 : decode cX5_isInnerSite 10 = .ok (.iconst 1, 1) := by decide +kernel
theorem dX5_isInnerSite_11 : decode cX5_isInnerSite 11 = .ok (.goto 4, 3) := by decide +kernel
theorem dX5_isInnerSite_14 : decode cX5_isInnerSite 14 = .ok (.iconst 0, 1) := by decide +kernel
theorem dX5_isInnerSite_15 : decode cX5_isInnerSite 15 = .ok (.ireturn, 1) := by decide +kernel
theorem dX5_isIn_0 : decode cX5_isIn 0 = .ok (.iload_n 0, 1) := by decide +kernel
theorem dX5_isIn_1 : decode cX5_isIn 1 = .ok (.iload_n 1, 1) := by decide +kernel
theorem dX5_isIn_2 : decode cX5_isIn 2 = .ok (.ishr, 1) := by decide +kernel
theorem dX5_isIn_3 : decode cX5_isIn 3 = .ok (.iconst 1, 1) := by decide +kernel
theorem dX5_isIn_4 : decode cX5_isIn 4 = .ok (.iand, 1) := by decide +kernel
theorem dX5_isIn_5 : decode cX5_isIn 5 = .ok (.ifCond .eq 7, 3) := by decide +kernel
theorem dX5_isIn_8 : decode cX5_isIn 8 = .ok (.iconst 1, 1) := by decide +kernel
theorem dX5_isIn_9 : decode cX5_isIn 9 = .ok (.goto 4, 3) := by decide +kernel
theorem dX5_isIn_12 : decode cX5_isIn 12 = .ok (.iconst 0, 1) := by decide +kernel
theorem dX5_isIn_13 : decode cX5_isIn 13 = .ok (.ireturn, 1) := by decide +kernel
theorem dX5_rowsThere_0 : decode cX5_rowsThere 0 = .ok (.iconst 0, 1) := by decide +kernel
theorem dX5_rowsThere_1 : decode cX5_rowsThere 1 = .ok (.istore_n 1, 1) := by decide +kernel
theorem dX5_rowsThere_2 : decode cX5_rowsThere 2 = .ok (.iconst 0, 1) := by decide +kernel
theorem dX5_rowsThere_3 : decode cX5_rowsThere 3 = .ok (.istore_n 2, 1) := by decide +kernel
theorem dX5_rowsThere_4 : decode cX5_rowsThere 4 = .ok (.iload_n 2, 1) := by decide +kernel
theorem dX5_rowsThere_5 : decode cX5_rowsThere 5 = .ok (.bipush 8, 2) := by decide +kernel
theorem dX5_rowsThere_7 : decode cX5_rowsThere 7 = .ok (.if_icmp .ge 24, 3) := by decide +kernel
theorem dX5_rowsThere_10 : decode cX5_rowsThere 10 = .ok (.aload_n 0, 1) := by decide +kernel
theorem dX5_rowsThere_11 : decode cX5_rowsThere 11 = .ok (.getfield 11, 3) := by decide +kernel
theorem dX5_rowsThere_14 : decode cX5_rowsThere 14 = .ok (.iload_n 2, 1) := by decide +kernel
theorem dX5_rowsThere_15 : decode cX5_rowsThere 15 = .ok (.aaload, 1) := by decide +kernel
theorem dX5_rowsThere_16 : decode cX5_rowsThere 16 = .ok (.getfield 91, 3) := by decide +kernel
theorem dX5_rowsThere_19 : decode cX5_rowsThere 19 = .ok (.ifCond .eq 6, 3) := by decide +kernel
theorem dX5_rowsThere_22 : decode cX5_rowsThere 22 = .ok (.iinc 1 1, 3) := by decide +kernel
theorem dX5_rowsThere_25 : decode cX5_rowsThere 25 = .ok (.iinc 2 1, 3) := by decide +kernel
theorem dX5_rowsThere_28 : decode cX5_rowsThere 28 = .ok (.goto (-24), 3) := by decide +kernel
theorem dX5_rowsThere_31 : decode cX5_rowsThere 31 = .ok (.iload_n 1, 1) := by decide +kernel
theorem dX5_rowsThere_32 : decode cX5_rowsThere 32 = .ok (.ireturn, 1) := by decide +kernel
theorem dX5_keepDay_0 : decode cX5_keepDay 0 = .ok (.aload_n 0, 1) := by decide +kernel
theorem dX5_keepDay_1 : decode cX5_keepDay 1 = .ok (.getfield 50, 3) := by decide +kernel
theorem dX5_keepDay_4 : decode cX5_keepDay 4 = .ok (.aload_n 0, 1) := by decide +kernel
theorem dX5_keepDay_5 : decode cX5_keepDay 5 = .ok (.getfield 54, 3) := by decide +kernel
theorem dX5_keepDay_8 : decode cX5_keepDay 8 = .ok (.aaload, 1) := by decide +kernel
theorem dX5_keepDay_9 : decode cX5_keepDay 9 = .ok (.aload_n 0, 1) := by decide +kernel
theorem dX5_keepDay_10 : decode cX5_keepDay 10 = .ok (.getfield 39, 3) := by decide +kernel
theorem dX5_keepDay_13 : decode cX5_keepDay 13 = .ok (.invokevirtual 174, 3) := by decide +kernel
theorem dX5_keepDay_16 : decode cX5_keepDay 16 = .ok (.aload_n 0, 1) := by decide +kernel
theorem dX5_keepDay_17 : decode cX5_keepDay 17 = .ok (.aload_n 0, 1) := by decide +kernel
theorem dX5_keepDay_18 : decode cX5_keepDay 18 = .ok (.getfield 54, 3) := by decide +kernel
theorem dX5_keepDay_21 : decode cX5_keepDay 21 = .ok (.bipush 23, 2) := by decide +kernel
theorem dX5_keepDay_23 : decode cX5_keepDay 23 = .ok (.if_icmp .ne 7, 3) := by decide +kernel
theorem dX5_keepDay_26 : decode cX5_keepDay 26 = .ok (.iconst 0, 1) := by decide +kernel
theorem dX5_keepDay_27 : decode cX5_keepDay 27 = .ok (.goto 9, 3) := by decide +kernel
theorem dX5_keepDay_30 : decode cX5_keepDay 30 = .ok (.aload_n 0, 1) := by decide +kernel
theorem dX5_keepDay_31 : decode cX5_keepDay 31 = .ok (.getfield 54, 3) := by decide +kernel
theorem dX5_keepDay_34 : decode cX5_keepDay 34 = .ok (.iconst 1, 1) := by decide +kernel
theorem dX5_keepDay_35 : decode cX5_keepDay 35 = .ok (.iadd, 1) := by decide +kernel
theorem dX5_keepDay_36 : decode cX5_keepDay 36 = .ok (.putfield 54, 3) := by decide +kernel
theorem dX5_keepDay_39 : decode cX5_keepDay 39 = .ok (.aload_n 0, 1) := by decide +kernel
theorem dX5_keepDay_40 : decode cX5_keepDay 40 = .ok (.bipush 24, 2) := by decide +kernel
theorem dX5_keepDay_42 : decode cX5_keepDay 42 = .ok (.aload_n 0, 1) := by decide +kernel
theorem dX5_keepDay_43 : decode cX5_keepDay 43 = .ok (.getfield 58, 3) := by decide +kernel
theorem dX5_keepDay_46 : decode cX5_keepDay 46 = .ok (.iconst 1, 1) := by decide +kernel
theorem dX5_keepDay_47 : decode cX5_keepDay 47 = .ok (.iadd, 1) := by decide +kernel
theorem dX5_keepDay_48 : decode cX5_keepDay 48 = .ok (.invokestatic 218, 3) := by decide +kernel
theorem dX5_keepDay_51 : decode cX5_keepDay 51 = .ok (.putfield 58, 3) := by decide +kernel
theorem dX5_keepDay_54 : decode cX5_keepDay 54 = .ok (.return_, 1) := by decide +kernel
theorem dX5_placesSeeing_0 : decode cX5_placesSeeing 0 = .ok (.aload_n 0, 1) := by decide +kernel
theorem dX5_placesSeeing_1 : decode cX5_placesSeeing 1 = .ok (.getfield 25, 3) := by decide +kernel
theorem dX5_placesSeeing_4 : decode cX5_placesSeeing 4 = .ok (.aload_n 0, 1) := by decide +kernel
theorem dX5_placesSeeing_5 : decode cX5_placesSeeing 5 = .ok (.getfield 39, 3) := by decide +kernel
theorem dX5_placesSeeing_8 : decode cX5_placesSeeing 8 = .ok (.invokevirtual 181, 3) := by decide +kernel
theorem dX5_placesSeeing_11 : decode cX5_placesSeeing 11 = .ok (.iconst 0, 1) := by decide +kernel
theorem dX5_placesSeeing_12 : decode cX5_placesSeeing 12 = .ok (.istore 4, 2) := by decide +kernel
theorem dX5_placesSeeing_14 : decode cX5_placesSeeing 14 = .ok (.iconst 0, 1) := by decide +kernel
theorem dX5_placesSeeing_15 : decode cX5_placesSeeing 15 = .ok (.istore 5, 2) := by decide +kernel
theorem dX5_placesSeeing_17 : decode cX5_placesSeeing 17 = .ok (.iload 5, 2) := by decide +kernel
theorem dX5_placesSeeing_19 : decode cX5_placesSeeing 19 = .ok (.bipush 19, 2) := by decide +kernel
theorem dX5_placesSeeing_21 : decode cX5_placesSeeing 21 = .ok (.if_icmp .ge 38, 3) := by decide +kernel
theorem dX5_placesSeeing_24 : decode cX5_placesSeeing 24 = .ok (.aload_n 0, 1) := by decide +kernel
theorem dX5_placesSeeing_25 : decode cX5_placesSeeing 25 = .ok (.getfield 25, 3) := by decide +kernel
theorem dX5_placesSeeing_28 : decode cX5_placesSeeing 28 = .ok (.aload_n 0, 1) := by decide +kernel
theorem dX5_placesSeeing_29 : decode cX5_placesSeeing 29 = .ok (.getfield 39, 3) := by decide +kernel
theorem dX5_placesSeeing_32 : decode cX5_placesSeeing 32 = .ok (.iload 5, 2) := by decide +kernel
theorem dX5_placesSeeing_34 : decode cX5_placesSeeing 34 = .ok (.iload_n 1, 1) := by decide +kernel
theorem dX5_placesSeeing_35 : decode cX5_placesSeeing 35 = .ok (.invokevirtual 190, 3) := by decide +kernel
theorem dX5_placesSeeing_38 : decode cX5_placesSeeing 38 = .ok (.iload_n 2, 1) := by decide +kernel
theorem dX5_placesSeeing_39 : decode cX5_placesSeeing 39 = .ok (.iand, 1) := by decide +kernel
theorem dX5_placesSeeing_40 : decode cX5_placesSeeing 40 = .ok (.iload_n 3, 1) := by decide +kernel
theorem dX5_placesSeeing_41 : decode cX5_placesSeeing 41 = .ok (.if_icmp .ne 12, 3) := by decide +kernel
theorem dX5_placesSeeing_44 : decode cX5_placesSeeing 44 = .ok (.iload 4, 2) := by decide +kernel
theorem dX5_placesSeeing_46 : decode cX5_placesSeeing 46 = .ok (.iconst 1, 1) := by decide +kernel
theorem dX5_placesSeeing_47 : decode cX5_placesSeeing 47 = .ok (.iload 5, 2) := by decide +kernel
theorem dX5_placesSeeing_49 : decode cX5_placesSeeing 49 = .ok (.ishl, 1) := by decide +kernel
theorem dX5_placesSeeing_50 : decode cX5_placesSeeing 50 = .ok (.ior, 1) := by decide +kernel
theorem dX5_placesSeeing_51 : decode cX5_placesSeeing 51 = .ok (.istore 4, 2) := by decide +kernel
theorem dX5_placesSeeing_53 : decode cX5_placesSeeing 53 = .ok (.iinc 5 1, 3) := by decide +kernel
theorem dX5_placesSeeing_56 : decode cX5_placesSeeing 56 = .ok (.goto (-39), 3) := by decide +kernel
theorem dX5_placesSeeing_59 : decode cX5_placesSeeing 59 = .ok (.iload 4, 2) := by decide +kernel
theorem dX5_placesSeeing_61 : decode cX5_placesSeeing 61 = .ok (.ireturn, 1) := by decide +kernel
theorem dX5_leastCut_0 : decode cX5_leastCut 0 = .ok (.aload_n 0, 1) := by decide +kernel
theorem dX5_leastCut_1 : decode cX5_leastCut 1 = .ok (.getfield 39, 3) := by decide +kernel
theorem dX5_leastCut_4 : decode cX5_leastCut 4 = .ok (.getfield 168, 3) := by decide +kernel
theorem dX5_leastCut_7 : decode cX5_leastCut 7 = .ok (.iload_n 2, 1) := by decide +kernel
theorem dX5_leastCut_8 : decode cX5_leastCut 8 = .ok (.iaload, 1) := by decide +kernel
theorem dX5_leastCut_9 : decode cX5_leastCut 9 = .ok (.istore_n 3, 1) := by decide +kernel
theorem dX5_leastCut_10 : decode cX5_leastCut 10 = .ok (.iconst 0, 1) := by decide +kernel
theorem dX5_leastCut_11 : decode cX5_leastCut 11 = .ok (.istore 4, 2) := by decide +kernel
theorem dX5_leastCut_13 : decode cX5_leastCut 13 = .ok (.iconst 0, 1) := by decide +kernel
theorem dX5_leastCut_14 : decode cX5_leastCut 14 = .ok (.istore 5, 2) := by decide +kernel
theorem dX5_leastCut_16 : decode cX5_leastCut 16 = .ok (.iload 5, 2) := by decide +kernel
theorem dX5_leastCut_18 : decode cX5_leastCut 18 = .ok (.aload_n 0, 1) := by decide +kernel
theorem dX5_leastCut_19 : decode cX5_leastCut 19 = .ok (.getfield 39, 3) := by decide +kernel
theorem dX5_leastCut_22 : decode cX5_leastCut 22 = .ok (.getfield 194, 3) := by decide +kernel
theorem dX5_leastCut_25 : decode cX5_leastCut 25 = .ok (.if_icmp .ge 119, 3) := by decide +kernel
theorem dX5_leastCut_28 : decode cX5_leastCut 28 = .ok (.aload_n 0, 1) := by decide +kernel
theorem dX5_leastCut_29 : decode cX5_leastCut 29 = .ok (.getfield 39, 3) := by decide +kernel
theorem dX5_leastCut_32 : decode cX5_leastCut 32 = .ok (.getfield 271, 3) := by decide +kernel
theorem dX5_leastCut_35 : decode cX5_leastCut 35 = .ok (.iload 5, 2) := by decide +kernel
theorem dX5_leastCut_37 : decode cX5_leastCut 37 = .ok (.iaload, 1) := by decide +kernel
theorem dX5_leastCut_38 : decode cX5_leastCut 38 = .ok (.istore 6, 2) := by decide +kernel
theorem dX5_leastCut_40 : decode cX5_leastCut 40 = .ok (.aload_n 0, 1) := by decide +kernel
theorem dX5_leastCut_41 : decode cX5_leastCut 41 = .ok (.getfield 39, 3) := by decide +kernel
theorem dX5_leastCut_44 : decode cX5_leastCut 44 = .ok (.getfield 274, 3) := by decide +kernel
theorem dX5_leastCut_47 : decode cX5_leastCut 47 = .ok (.iload 5, 2) := by decide +kernel
theorem dX5_leastCut_49 : decode cX5_leastCut 49 = .ok (.baload, 1) := by decide +kernel
theorem dX5_leastCut_50 : decode cX5_leastCut 50 = .ok (.ifCond .eq 88, 3) := by decide +kernel
theorem dX5_leastCut_53 : decode cX5_leastCut 53 = .ok (.iload_n 3, 1) := by decide +kernel
theorem dX5_leastCut_54 : decode cX5_leastCut 54 = .ok (.ifCond .le 84, 3) := by decide +kernel
theorem dX5_leastCut_57 : decode cX5_leastCut 57 = .ok (.iload_n 3, 1) := by decide +kernel
theorem dX5_leastCut_58 : decode cX5_leastCut 58 = .ok (.iload 6, 2) := by decide +kernel
theorem dX5_leastCut_60 : decode cX5_leastCut 60 = .ok (.if_icmp .ge 78, 3) := by decide +kernel
theorem dX5_leastCut_63 : decode cX5_leastCut 63 = .ok (.iconst 0, 1) := by decide +kernel
theorem dX5_leastCut_64 : decode cX5_leastCut 64 = .ok (.istore 7, 2) := by decide +kernel
theorem dX5_leastCut_66 : decode cX5_leastCut 66 = .ok (.iload 7, 2) := by decide +kernel
theorem dX5_leastCut_68 : decode cX5_leastCut 68 = .ok (.bipush 31, 2) := by decide +kernel
theorem dX5_leastCut_70 : decode cX5_leastCut 70 = .ok (.if_icmp .ge 68, 3) := by decide +kernel
theorem dX5_leastCut_73 : decode cX5_leastCut 73 = .ok (.iload_n 1, 1) := by decide +kernel
theorem dX5_leastCut_74 : decode cX5_leastCut 74 = .ok (.iload 7, 2) := by decide +kernel
theorem dX5_leastCut_76 : decode cX5_leastCut 76 = .ok (.invokestatic 201, 3) := by decide +kernel
theorem dX5_leastCut_79 : decode cX5_leastCut 79 = .ok (.ifCond .eq 53, 3) := by decide +kernel
theorem dX5_leastCut_82 : decode cX5_leastCut 82 = .ok (.aload_n 0, 1) := by decide +kernel
theorem dX5_leastCut_83 : decode cX5_leastCut 83 = .ok (.getfield 39, 3) := by decide +kernel
theorem dX5_leastCut_86 : decode cX5_leastCut 86 = .ok (.getfield 171, 3) := by decide +kernel
theorem dX5_leastCut_89 : decode cX5_leastCut 89 = .ok (.iconst 0, 1) := by decide +kernel
theorem dX5_leastCut_90 : decode cX5_leastCut 90 = .ok (.iaload, 1) := by decide +kernel
theorem dX5_leastCut_91 : decode cX5_leastCut 91 = .ok (.iload 7, 2) := by decide +kernel
theorem dX5_leastCut_93 : decode cX5_leastCut 93 = .ok (.iadd, 1) := by decide +kernel
theorem dX5_leastCut_94 : decode cX5_leastCut 94 = .ok (.aload_n 0, 1) := by decide +kernel
theorem dX5_leastCut_95 : decode cX5_leastCut 95 = .ok (.getfield 39, 3) := by decide +kernel
theorem dX5_leastCut_98 : decode cX5_leastCut 98 = .ok (.iload 5, 2) := by decide +kernel
theorem dX5_leastCut_100 : decode cX5_leastCut 100 = .ok (.invokevirtual 277, 3) := by decide +kernel
theorem dX5_leastCut_103 : decode cX5_leastCut 103 = .ok (.iload 6, 2) := by decide +kernel
theorem dX5_leastCut_105 : decode cX5_leastCut 105 = .ok (.iload_n 3, 1) := by decide +kernel
theorem dX5_leastCut_106 : decode cX5_leastCut 106 = .ok (.invokestatic 280, 3) := by decide +kernel
theorem dX5_leastCut_109 : decode cX5_leastCut 109 = .ok (.istore 8, 2) := by decide +kernel
theorem dX5_leastCut_111 : decode cX5_leastCut 111 = .ok (.iload 4, 2) := by decide +kernel
theorem dX5_leastCut_113 : decode cX5_leastCut 113 = .ok (.aload_n 0, 1) := by decide +kernel
theorem dX5_leastCut_114 : decode cX5_leastCut 114 = .ok (.getfield 25, 3) := by decide +kernel
theorem dX5_leastCut_117 : decode cX5_leastCut 117 = .ok (.getfield 184, 3) := by decide +kernel
theorem dX5_leastCut_120 : decode cX5_leastCut 120 = .ok (.iload_n 3, 1) := by decide +kernel
theorem dX5_leastCut_121 : decode cX5_leastCut 121 = .ok (.iaload, 1) := by decide +kernel
theorem dX5_leastCut_122 : decode cX5_leastCut 122 = .ok (.iload 8, 2) := by decide +kernel
theorem dX5_leastCut_124 : decode cX5_leastCut 124 = .ok (.isub, 1) := by decide +kernel
theorem dX5_leastCut_125 : decode cX5_leastCut 125 = .ok (.iconst 1, 1) := by decide +kernel
theorem dX5_leastCut_126 : decode cX5_leastCut 126 = .ok (.iadd, 1) := by decide +kernel
theorem dX5_leastCut_127 : decode cX5_leastCut 127 = .ok (.invokestatic 284, 3) := by decide +kernel
theorem dX5_leastCut_130 : decode cX5_leastCut 130 = .ok (.istore 4, 2) := by decide +kernel
theorem dX5_leastCut_132 : decode cX5_leastCut 132 = .ok (.iinc 7 1, 3) := by decide +kernel
theorem dX5_leastCut_135 : decode cX5_leastCut 135 = .ok (.goto (-69), 3) := by decide +kernel
theorem dX5_leastCut_138 : decode cX5_leastCut 138 = .ok (.iinc 5 1, 3) := by decide +kernel
theorem dX5_leastCut_141 : decode cX5_leastCut 141 = .ok (.goto (-125), 3) := by decide +kernel
theorem dX5_leastCut_144 : decode cX5_leastCut 144 = .ok (.iload 4, 2) := by decide +kernel
theorem dX5_leastCut_146 : decode cX5_leastCut 146 = .ok (.ireturn, 1) := by decide +kernel
theorem dX5_leastHider_0 : decode cX5_leastHider 0 = .ok (.ldc 167, 2) := by decide +kernel
theorem dX5_leastHider_2 : decode cX5_leastHider 2 = .ok (.istore_n 3, 1) := by decide +kernel
theorem dX5_leastHider_3 : decode cX5_leastHider 3 = .ok (.sipush 1000, 3) := by decide +kernel
theorem dX5_leastHider_6 : decode cX5_leastHider 6 = .ok (.istore 4, 2) := by decide +kernel
theorem dX5_leastHider_8 : decode cX5_leastHider 8 = .ok (.iconst 0, 1) := by decide +kernel
theorem dX5_leastHider_9 : decode cX5_leastHider 9 = .ok (.istore 5, 2) := by decide +kernel
theorem dX5_leastHider_11 : decode cX5_leastHider 11 = .ok (.iload 5, 2) := by decide +kernel
theorem dX5_leastHider_13 : decode cX5_leastHider 13 = .ok (.aload_n 0, 1) := by decide +kernel
theorem dX5_leastHider_14 : decode cX5_leastHider 14 = .ok (.getfield 39, 3) := by decide +kernel
theorem dX5_leastHider_17 : decode cX5_leastHider 17 = .ok (.getfield 136, 3) := by decide +kernel
theorem dX5_leastHider_20 : decode cX5_leastHider 20 = .ok (.if_icmp .ge 33, 3) := by decide +kernel
theorem dX5_leastHider_23 : decode cX5_leastHider 23 = .ok (.aload_n 0, 1) := by decide +kernel
theorem dX5_leastHider_24 : decode cX5_leastHider 24 = .ok (.iload 5, 2) := by decide +kernel
theorem dX5_leastHider_26 : decode cX5_leastHider 26 = .ok (.iload_n 1, 1) := by decide +kernel
theorem dX5_leastHider_27 : decode cX5_leastHider 27 = .ok (.iload_n 2, 1) := by decide +kernel
theorem dX5_leastHider_28 : decode cX5_leastHider 28 = .ok (.invokevirtual 241, 3) := by decide +kernel
theorem dX5_leastHider_31 : decode cX5_leastHider 31 = .ok (.istore 6, 2) := by decide +kernel
theorem dX5_leastHider_33 : decode cX5_leastHider 33 = .ok (.iload 6, 2) := by decide +kernel
theorem dX5_leastHider_35 : decode cX5_leastHider 35 = .ok (.iload 4, 2) := by decide +kernel
theorem dX5_leastHider_37 : decode cX5_leastHider 37 = .ok (.if_icmp .ge 10, 3) := by decide +kernel
theorem dX5_leastHider_40 : decode cX5_leastHider 40 = .ok (.iload 6, 2) := by decide +kernel
theorem dX5_leastHider_42 : decode cX5_leastHider 42 = .ok (.istore 4, 2) := by decide +kernel
theorem dX5_leastHider_44 : decode cX5_leastHider 44 = .ok (.iload 5, 2) := by decide +kernel
theorem dX5_leastHider_46 : decode cX5_leastHider 46 = .ok (.istore_n 3, 1) := by decide +kernel
theorem dX5_leastHider_47 : decode cX5_leastHider 47 = .ok (.iinc 5 1, 3) := by decide +kernel
theorem dX5_leastHider_50 : decode cX5_leastHider 50 = .ok (.goto (-39), 3) := by decide +kernel
theorem dX5_leastHider_53 : decode cX5_leastHider 53 = .ok (.iload_n 3, 1) := by decide +kernel
theorem dX5_leastHider_54 : decode cX5_leastHider 54 = .ok (.ireturn, 1) := by decide +kernel
theorem dX5_hidingBy_0 : decode cX5_hidingBy 0 = .ok (.aload_n 0, 1) := by decide +kernel
theorem dX5_hidingBy_1 : decode cX5_hidingBy 1 = .ok (.getfield 39, 3) := by decide +kernel
theorem dX5_hidingBy_4 : decode cX5_hidingBy 4 = .ok (.getfield 168, 3) := by decide +kernel
theorem dX5_hidingBy_7 : decode cX5_hidingBy 7 = .ok (.iload_n 1, 1) := by decide +kernel
theorem dX5_hidingBy_8 : decode cX5_hidingBy 8 = .ok (.iaload, 1) := by decide +kernel
theorem dX5_hidingBy_9 : decode cX5_hidingBy 9 = .ok (.istore 4, 2) := by decide +kernel
theorem dX5_hidingBy_11 : decode cX5_hidingBy 11 = .ok (.aload_n 0, 1) := by decide +kernel
theorem dX5_hidingBy_12 : decode cX5_hidingBy 12 = .ok (.getfield 39, 3) := by decide +kernel
theorem dX5_hidingBy_15 : decode cX5_hidingBy 15 = .ok (.getfield 146, 3) := by decide +kernel
theorem dX5_hidingBy_18 : decode cX5_hidingBy 18 = .ok (.ifCond .eq 20, 3) := by decide +kernel
theorem dX5_hidingBy_21 : decode cX5_hidingBy 21 = .ok (.aload_n 0, 1) := by decide +kernel
theorem dX5_hidingBy_22 : decode cX5_hidingBy 22 = .ok (.getfield 39, 3) := by decide +kernel
theorem dX5_hidingBy_25 : decode cX5_hidingBy 25 = .ok (.getfield 244, 3) := by decide +kernel
theorem dX5_hidingBy_28 : decode cX5_hidingBy 28 = .ok (.iload_n 1, 1) := by decide +kernel
theorem dX5_hidingBy_29 : decode cX5_hidingBy 29 = .ok (.iaload, 1) := by decide +kernel
theorem dX5_hidingBy_30 : decode cX5_hidingBy 30 = .ok (.iconst 1, 1) := by decide +kernel
theorem dX5_hidingBy_31 : decode cX5_hidingBy 31 = .ok (.if_icmp .ne 7, 3) := by decide +kernel
theorem dX5_hidingBy_34 : decode cX5_hidingBy 34 = .ok (.iconst 1, 1) := by decide +kernel
theorem dX5_hidingBy_35 : decode cX5_hidingBy 35 = .ok (.goto 4, 3) := by decide +kernel
theorem dX5_hidingBy_38 : decode cX5_hidingBy 38 = .ok (.iconst 0, 1) := by decide +kernel
theorem dX5_hidingBy_39 : decode cX5_hidingBy 39 = .ok (.istore 5, 2) := by decide +kernel
theorem dX5_hidingBy_41 : decode cX5_hidingBy 41 = .ok (.iload 4, 2) := by decide +kernel
theorem dX5_hidingBy_43 : decode cX5_hidingBy 43 = .ok (.iconst 1, 1) := by decide +kernel
theorem dX5_hidingBy_44 : decode cX5_hidingBy 44 = .ok (.if_icmp .lt 26, 3) := by decide +kernel
theorem dX5_hidingBy_47 : decode cX5_hidingBy 47 = .ok (.iload 4, 2) := by decide +kernel
theorem dX5_hidingBy_49 : decode cX5_hidingBy 49 = .ok (.bipush 18, 2) := by decide +kernel
theorem dX5_hidingBy_51 : decode cX5_hidingBy 51 = .ok (.if_icmp .ge 19, 3) := by decide +kernel
theorem dX5_hidingBy_54 : decode cX5_hidingBy 54 = .ok (.iload 5, 2) := by decide +kernel
theorem dX5_hidingBy_56 : decode cX5_hidingBy 56 = .ok (.ifCond .ne 14, 3) := by decide +kernel
theorem dX5_hidingBy_59 : decode cX5_hidingBy 59 = .ok (.aload_n 0, 1) := by decide +kernel
theorem dX5_hidingBy_60 : decode cX5_hidingBy 60 = .ok (.getfield 39, 3) := by decide +kernel
theorem dX5_hidingBy_63 : decode cX5_hidingBy 63 = .ok (.iload_n 1, 1) := by decide +kernel
theorem dX5_hidingBy_64 : decode cX5_hidingBy 64 = .ok (.invokevirtual 152, 3) := by decide +kernel
theorem dX5_hidingBy_67 : decode cX5_hidingBy 67 = .ok (.ifCond .ne 7, 3) := by decide +kernel
theorem dX5_hidingBy_70 : decode cX5_hidingBy 70 = .ok (.sipush 1000, 3) := by decide +kernel
theorem dX5_hidingBy_73 : decode cX5_hidingBy 73 = .ok (.ireturn, 1) := by decide +kernel
theorem dX5_hidingBy_74 : decode cX5_hidingBy 74 = .ok (.iload_n 2, 1) := by decide +kernel
theorem dX5_hidingBy_75 : decode cX5_hidingBy 75 = .ok (.iload_n 3, 1) := by decide +kernel
theorem dX5_hidingBy_76 : decode cX5_hidingBy 76 = .ok (.bipush 18, 2) := by decide +kernel
theorem dX5_hidingBy_78 : decode cX5_hidingBy 78 = .ok (.iload 4, 2) := by decide +kernel
theorem dX5_hidingBy_80 : decode cX5_hidingBy 80 = .ok (.invokestatic 280, 3) := by decide +kernel
theorem dX5_hidingBy_83 : decode cX5_hidingBy 83 = .ok (.istore 6, 2) := by decide +kernel
theorem dX5_hidingBy_85 : decode cX5_hidingBy 85 = .ok (.iload 6, 2) := by decide +kernel
theorem dX5_hidingBy_87 : decode cX5_hidingBy 87 = .ok (.aload_n 0, 1) := by decide +kernel
theorem dX5_hidingBy_88 : decode cX5_hidingBy 88 = .ok (.getfield 39, 3) := by decide +kernel
theorem dX5_hidingBy_91 : decode cX5_hidingBy 91 = .ok (.getfield 171, 3) := by decide +kernel
theorem dX5_hidingBy_94 : decode cX5_hidingBy 94 = .ok (.iload 4, 2) := by decide +kernel
theorem dX5_hidingBy_96 : decode cX5_hidingBy 96 = .ok (.iaload, 1) := by decide +kernel
theorem dX5_hidingBy_97 : decode cX5_hidingBy 97 = .ok (.isub, 1) := by decide +kernel
theorem dX5_hidingBy_98 : decode cX5_hidingBy 98 = .ok (.bipush 99, 2) := by decide +kernel
theorem dX5_hidingBy_100 : decode cX5_hidingBy 100 = .ok (.if_icmp .le 9, 3) := by decide +kernel
theorem dX5_hidingBy_103 : decode cX5_hidingBy 103 = .ok (.sipush 1000, 3) := by decide +kernel
theorem dX5_hidingBy_106 : decode cX5_hidingBy 106 = .ok (.goto 16, 3) := by decide +kernel
theorem dX5_hidingBy_109 : decode cX5_hidingBy 109 = .ok (.iload 6, 2) := by decide +kernel
theorem dX5_hidingBy_111 : decode cX5_hidingBy 111 = .ok (.aload_n 0, 1) := by decide +kernel
theorem dX5_hidingBy_112 : decode cX5_hidingBy 112 = .ok (.getfield 25, 3) := by decide +kernel
theorem dX5_hidingBy_115 : decode cX5_hidingBy 115 = .ok (.getfield 184, 3) := by decide +kernel
theorem dX5_hidingBy_118 : decode cX5_hidingBy 118 = .ok (.iload 4, 2) := by decide +kernel
theorem dX5_hidingBy_120 : decode cX5_hidingBy 120 = .ok (.iaload, 1) := by decide +kernel
theorem dX5_hidingBy_121 : decode cX5_hidingBy 121 = .ok (.isub, 1) := by decide +kernel
theorem dX5_hidingBy_122 : decode cX5_hidingBy 122 = .ok (.ireturn, 1) := by decide +kernel
theorem dX5_isOfKind_0 : decode cX5_isOfKind 0 = .ok (.iload_n 1, 1) := by decide +kernel
theorem dX5_isOfKind_1 : decode cX5_isOfKind 1 = .ok (.ifCond .eq 28, 3) := by decide +kernel
theorem dX5_isOfKind_4 : decode cX5_isOfKind 4 = .ok (.iload_n 1, 1) := by decide +kernel
theorem dX5_isOfKind_5 : decode cX5_isOfKind 5 = .ok (.iload_n 0, 1) := by decide +kernel
theorem dX5_isOfKind_6 : decode cX5_isOfKind 6 = .ok (.if_icmp .eq 23, 3) := by decide +kernel
theorem dX5_isOfKind_9 : decode cX5_isOfKind 9 = .ok (.iload_n 1, 1) := by decide +kernel
theorem dX5_isOfKind_10 : decode cX5_isOfKind 10 = .ok (.iconst 1, 1) := by decide +kernel
theorem dX5_isOfKind_11 : decode cX5_isOfKind 11 = .ok (.if_icmp .ne 8, 3) := by decide +kernel
theorem dX5_isOfKind_14 : decode cX5_isOfKind 14 = .ok (.iload_n 0, 1) := by decide +kernel
theorem dX5_isOfKind_15 : decode cX5_isOfKind 15 = .ok (.iconst 2, 1) := by decide +kernel
theorem dX5_isOfKind_16 : decode cX5_isOfKind 16 = .ok (.if_icmp .eq 13, 3) := by decide +kernel
theorem dX5_isOfKind_19 : decode cX5_isOfKind 19 = .ok (.iload_n 1, 1) := by decide +kernel
theorem dX5_isOfKind_20 : decode cX5_isOfKind 20 = .ok (.iconst 4, 1) := by decide +kernel
theorem dX5_isOfKind_21 : decode cX5_isOfKind 21 = .ok (.if_icmp .ne 12, 3) := by decide +kernel
theorem dX5_isOfKind_24 : decode cX5_isOfKind 24 = .ok (.iload_n 0, 1) := by decide +kernel
theorem dX5_isOfKind_25 : decode cX5_isOfKind 25 = .ok (.iconst 5, 1) := by decide +kernel
theorem dX5_isOfKind_26 : decode cX5_isOfKind 26 = .ok (.if_icmp .ne 7, 3) := by decide +kernel
theorem dX5_isOfKind_29 : decode cX5_isOfKind 29 = .ok (.iconst 1, 1) := by decide +kernel
theorem dX5_isOfKind_30 : decode cX5_isOfKind 30 = .ok (.goto 4, 3) := by decide +kernel
theorem dX5_isOfKind_33 : decode cX5_isOfKind 33 = .ok (.iconst 0, 1) := by decide +kernel
theorem dX5_isOfKind_34 : decode cX5_isOfKind 34 = .ok (.ireturn, 1) := by decide +kernel
theorem dX5_bodyOfSize_0 : decode cX5_bodyOfSize 0 = .ok (.iload_n 0, 1) := by decide +kernel
theorem dX5_bodyOfSize_1 : decode cX5_bodyOfSize 1 = .ok (.tableswitch 47 1 5 #[35, 38, 47, 41, 44], 35) := by decide +kernel
theorem dX5_bodyOfSize_36 : decode cX5_bodyOfSize 36 = .ok (.bipush 11, 2) := by decide +kernel
theorem dX5_bodyOfSize_38 : decode cX5_bodyOfSize 38 = .ok (.ireturn, 1) := by decide +kernel
theorem dX5_bodyOfSize_39 : decode cX5_bodyOfSize 39 = .ok (.bipush 12, 2) := by decide +kernel
theorem dX5_bodyOfSize_41 : decode cX5_bodyOfSize 41 = .ok (.ireturn, 1) := by decide +kernel
theorem dX5_bodyOfSize_42 : decode cX5_bodyOfSize 42 = .ok (.bipush 13, 2) := by decide +kernel
theorem dX5_bodyOfSize_44 : decode cX5_bodyOfSize 44 = .ok (.ireturn, 1) := by decide +kernel
theorem dX5_bodyOfSize_45 : decode cX5_bodyOfSize 45 = .ok (.bipush 14, 2) := by decide +kernel
theorem dX5_bodyOfSize_47 : decode cX5_bodyOfSize 47 = .ok (.ireturn, 1) := by decide +kernel
theorem dX5_bodyOfSize_48 : decode cX5_bodyOfSize 48 = .ok (.bipush 10, 2) := by decide +kernel
theorem dX5_bodyOfSize_50 : decode cX5_bodyOfSize 50 = .ok (.ireturn, 1) := by decide +kernel
theorem dX5_bodyOfMark_0 : decode cX5_bodyOfMark 0 = .ok (.iload_n 0, 1) := by decide +kernel
theorem dX5_bodyOfMark_1 : decode cX5_bodyOfMark 1 = .ok (.tableswitch 47 1 5 #[35, 38, 41, 44, 44], 35) := by decide +kernel
theorem dX5_bodyOfMark_36 : decode cX5_bodyOfMark 36 = .ok (.bipush 21, 2) := by decide +kernel
theorem dX5_bodyOfMark_38 : decode cX5_bodyOfMark 38 = .ok (.ireturn, 1) := by decide +kernel
theorem dX5_bodyOfMark_39 : decode cX5_bodyOfMark 39 = .ok (.bipush 24, 2) := by decide +kernel
theorem dX5_bodyOfMark_41 : decode cX5_bodyOfMark 41 = .ok (.ireturn, 1) := by decide +kernel
theorem dX5_bodyOfMark_42 : decode cX5_bodyOfMark 42 = .ok (.bipush 22, 2) := by decide +kernel
theorem dX5_bodyOfMark_44 : decode cX5_bodyOfMark 44 = .ok (.ireturn, 1) := by decide +kernel
theorem dX5_bodyOfMark_45 : decode cX5_bodyOfMark 45 = .ok (.bipush 23, 2) := by decide +kernel
theorem dX5_bodyOfMark_47 : decode cX5_bodyOfMark 47 = .ok (.ireturn, 1) := by decide +kernel
theorem dX5_bodyOfMark_48 : decode cX5_bodyOfMark 48 = .ok (.bipush 20, 2) := by decide +kernel
theorem dX5_bodyOfMark_50 : decode cX5_bodyOfMark 50 = .ok (.ireturn, 1) := by decide +kernel
theorem dX5_bodyGives_0 : decode cX5_bodyGives 0 = .ok (.iload 4, 2) := by decide +kernel
theorem dX5_bodyGives_2 : decode cX5_bodyGives 2 = .ok (.bipush 8, 2) := by decide +kernel
theorem dX5_bodyGives_4 : decode cX5_bodyGives 4 = .ok (.if_icmp .gt 11, 3) := by decide +kernel
theorem dX5_bodyGives_7 : decode cX5_bodyGives 7 = .ok (.aload_n 0, 1) := by decide +kernel
theorem dX5_bodyGives_8 : decode cX5_bodyGives 8 = .ok (.iload_n 2, 1) := by decide +kernel
theorem dX5_bodyGives_9 : decode cX5_bodyGives 9 = .ok (.invokevirtual 149, 3) := by decide +kernel
theorem dX5_bodyGives_12 : decode cX5_bodyGives 12 = .ok (.ifCond .ne 5, 3) := by decide +kernel
theorem dX5_bodyGives_15 : decode cX5_bodyGives 15 = .ok (.iconst 0, 1) := by decide +kernel
theorem dX5_bodyGives_16 : decode cX5_bodyGives 16 = .ok (.ireturn, 1) := by decide +kernel
theorem dX5_bodyGives_17 : decode cX5_bodyGives 17 = .ok (.aload_n 1, 1) := by decide +kernel
theorem dX5_bodyGives_18 : decode cX5_bodyGives 18 = .ok (.iload_n 3, 1) := by decide +kernel
theorem dX5_bodyGives_19 : decode cX5_bodyGives 19 = .ok (.invokevirtual 287, 3) := by decide +kernel
theorem dX5_bodyGives_22 : decode cX5_bodyGives 22 = .ok (.iload 4, 2) := by decide +kernel
theorem dX5_bodyGives_24 : decode cX5_bodyGives 24 = .ok (.iconst 1, 1) := by decide +kernel
theorem dX5_bodyGives_25 : decode cX5_bodyGives 25 = .ok (.iadd, 1) := by decide +kernel
theorem dX5_bodyGives_26 : decode cX5_bodyGives 26 = .ok (.istore 5, 2) := by decide +kernel
theorem dX5_bodyGives_28 : decode cX5_bodyGives 28 = .ok (.iload_n 3, 1) := by decide +kernel
theorem dX5_bodyGives_29 : decode cX5_bodyGives 29 = .ok (.tableswitch 231 10 24 #[75, 81, 110, 122, 136, 231, 231, 231, 231, 231, 149, 151, 169, 198, 216], 75) := by decide +kernel
theorem dX5_bodyGives_104 : decode cX5_bodyGives 104 = .ok (.aload_n 0, 1) := by decide +kernel
theorem dX5_bodyGives_105 : decode cX5_bodyGives 105 = .ok (.iload_n 2, 1) := by decide +kernel
theorem dX5_bodyGives_106 : decode cX5_bodyGives 106 = .ok (.invokevirtual 158, 3) := by decide +kernel
theorem dX5_bodyGives_109 : decode cX5_bodyGives 109 = .ok (.ireturn, 1) := by decide +kernel
theorem dX5_bodyGives_110 : decode cX5_bodyGives 110 = .ok (.aload_n 0, 1) := by decide +kernel
theorem dX5_bodyGives_111 : decode cX5_bodyGives 111 = .ok (.aload_n 1, 1) := by decide +kernel
theorem dX5_bodyGives_112 : decode cX5_bodyGives 112 = .ok (.iload_n 2, 1) := by decide +kernel
theorem dX5_bodyGives_113 : decode cX5_bodyGives 113 = .ok (.bipush 10, 2) := by decide +kernel
theorem dX5_bodyGives_115 : decode cX5_bodyGives 115 = .ok (.iload 5, 2) := by decide +kernel
theorem dX5_bodyGives_117 : decode cX5_bodyGives 117 = .ok (.invokestatic 259, 3) := by decide +kernel
theorem dX5_bodyGives_120 : decode cX5_bodyGives 120 = .ok (.aload_n 0, 1) := by decide +kernel
theorem dX5_bodyGives_121 : decode cX5_bodyGives 121 = .ok (.aload_n 1, 1) := by decide +kernel
theorem dX5_bodyGives_122 : decode cX5_bodyGives 122 = .ok (.iload_n 2, 1) := by decide +kernel
theorem dX5_bodyGives_123 : decode cX5_bodyGives 123 = .ok (.aload_n 0, 1) := by decide +kernel
theorem dX5_bodyGives_124 : decode cX5_bodyGives 124 = .ok (.getfield 244, 3) := by decide +kernel
theorem dX5_bodyGives_127 : decode cX5_bodyGives 127 = .ok (.iload_n 2, 1) := by decide +kernel
theorem dX5_bodyGives_128 : decode cX5_bodyGives 128 = .ok (.iaload, 1) := by decide +kernel
theorem dX5_bodyGives_129 : decode cX5_bodyGives 129 = .ok (.invokestatic 256, 3) := by decide +kernel
theorem dX5_bodyGives_132 : decode cX5_bodyGives 132 = .ok (.iload 5, 2) := by decide +kernel
theorem dX5_bodyGives_134 : decode cX5_bodyGives 134 = .ok (.invokestatic 259, 3) := by decide +kernel
theorem dX5_bodyGives_137 : decode cX5_bodyGives 137 = .ok (.iadd, 1) := by decide +kernel
theorem dX5_bodyGives_138 : decode cX5_bodyGives 138 = .ok (.ireturn, 1) := by decide +kernel
theorem dX5_bodyGives_139 : decode cX5_bodyGives 139 = .ok (.aload_n 0, 1) := by decide +kernel
theorem dX5_bodyGives_140 : decode cX5_bodyGives 140 = .ok (.aload_n 1, 1) := by decide +kernel
theorem dX5_bodyGives_141 : decode cX5_bodyGives 141 = .ok (.iload_n 2, 1) := by decide +kernel
theorem dX5_bodyGives_142 : decode cX5_bodyGives 142 = .ok (.bipush 11, 2) := by decide +kernel
theorem dX5_bodyGives_144 : decode cX5_bodyGives 144 = .ok (.iload 5, 2) := by decide +kernel
theorem dX5_bodyGives_146 : decode cX5_bodyGives 146 = .ok (.invokestatic 259, 3) := by decide +kernel
theorem dX5_bodyGives_149 : decode cX5_bodyGives 149 = .ok (.ineg, 1) := by decide +kernel
theorem dX5_bodyGives_150 : decode cX5_bodyGives 150 = .ok (.ireturn, 1) := by decide +kernel
theorem dX5_bodyGives_151 : decode cX5_bodyGives 151 = .ok (.aload_n 0, 1) := by decide +kernel
theorem dX5_bodyGives_152 : decode cX5_bodyGives 152 = .ok (.aload_n 1, 1) := by decide +kernel
theorem dX5_bodyGives_153 : decode cX5_bodyGives 153 = .ok (.iload_n 2, 1) := by decide +kernel
theorem dX5_bodyGives_154 : decode cX5_bodyGives 154 = .ok (.bipush 10, 2) := by decide +kernel
theorem dX5_bodyGives_156 : decode cX5_bodyGives 156 = .ok (.iload 5, 2) := by decide +kernel
theorem dX5_bodyGives_158 : decode cX5_bodyGives 158 = .ok (.invokestatic 259, 3) := by decide +kernel
theorem dX5_bodyGives_161 : decode cX5_bodyGives 161 = .ok (.bipush 100, 2) := by decide +kernel
theorem dX5_bodyGives_163 : decode cX5_bodyGives 163 = .ok (.isub, 1) := by decide +kernel
theorem dX5_bodyGives_164 : decode cX5_bodyGives 164 = .ok (.ireturn, 1) := by decide +kernel
theorem dX5_bodyGives_165 : decode cX5_bodyGives 165 = .ok (.iconst 2, 1) := by decide +kernel
theorem dX5_bodyGives_166 : decode cX5_bodyGives 166 = .ok (.aload_n 0, 1) := by decide +kernel
theorem dX5_bodyGives_167 : decode cX5_bodyGives 167 = .ok (.aload_n 1, 1) := by decide +kernel
theorem dX5_bodyGives_168 : decode cX5_bodyGives 168 = .ok (.iload_n 2, 1) := by decide +kernel
theorem dX5_bodyGives_169 : decode cX5_bodyGives 169 = .ok (.bipush 13, 2) := by decide +kernel
theorem dX5_bodyGives_171 : decode cX5_bodyGives 171 = .ok (.iload 5, 2) := by decide +kernel
theorem dX5_bodyGives_173 : decode cX5_bodyGives 173 = .ok (.invokestatic 259, 3) := by decide +kernel
theorem dX5_bodyGives_176 : decode cX5_bodyGives 176 = .ok (.imul, 1) := by decide +kernel
theorem dX5_bodyGives_177 : decode cX5_bodyGives 177 = .ok (.ireturn, 1) := by decide +kernel
theorem dX5_bodyGives_178 : decode cX5_bodyGives 178 = .ok (.iload_n 2, 1) := by decide +kernel
theorem dX5_bodyGives_179 : decode cX5_bodyGives 179 = .ok (.ireturn, 1) := by decide +kernel
theorem dX5_bodyGives_180 : decode cX5_bodyGives 180 = .ok (.aload_n 0, 1) := by decide +kernel
theorem dX5_bodyGives_181 : decode cX5_bodyGives 181 = .ok (.aload_n 1, 1) := by decide +kernel
theorem dX5_bodyGives_182 : decode cX5_bodyGives 182 = .ok (.iload_n 2, 1) := by decide +kernel
theorem dX5_bodyGives_183 : decode cX5_bodyGives 183 = .ok (.bipush 20, 2) := by decide +kernel
theorem dX5_bodyGives_185 : decode cX5_bodyGives 185 = .ok (.iload 5, 2) := by decide +kernel
theorem dX5_bodyGives_187 : decode cX5_bodyGives 187 = .ok (.invokestatic 259, 3) := by decide +kernel
theorem dX5_bodyGives_190 : decode cX5_bodyGives 190 = .ok (.aload_n 0, 1) := by decide +kernel
theorem dX5_bodyGives_191 : decode cX5_bodyGives 191 = .ok (.getfield 168, 3) := by decide +kernel
theorem dX5_bodyGives_194 : decode cX5_bodyGives 194 = .ok (.iload_n 2, 1) := by decide +kernel
theorem dX5_bodyGives_195 : decode cX5_bodyGives 195 = .ok (.iaload, 1) := by decide +kernel
theorem dX5_bodyGives_196 : decode cX5_bodyGives 196 = .ok (.iadd, 1) := by decide +kernel
theorem dX5_bodyGives_197 : decode cX5_bodyGives 197 = .ok (.ireturn, 1) := by decide +kernel
theorem dX5_bodyGives_198 : decode cX5_bodyGives 198 = .ok (.aload_n 0, 1) := by decide +kernel
theorem dX5_bodyGives_199 : decode cX5_bodyGives 199 = .ok (.aload_n 1, 1) := by decide +kernel
theorem dX5_bodyGives_200 : decode cX5_bodyGives 200 = .ok (.iload_n 2, 1) := by decide +kernel
theorem dX5_bodyGives_201 : decode cX5_bodyGives 201 = .ok (.bipush 20, 2) := by decide +kernel
theorem dX5_bodyGives_203 : decode cX5_bodyGives 203 = .ok (.iload 5, 2) := by decide +kernel
theorem dX5_bodyGives_205 : decode cX5_bodyGives 205 = .ok (.invokestatic 259, 3) := by decide +kernel
theorem dX5_bodyGives_208 : decode cX5_bodyGives 208 = .ok (.aload_n 0, 1) := by decide +kernel
theorem dX5_bodyGives_209 : decode cX5_bodyGives 209 = .ok (.aload_n 1, 1) := by decide +kernel
theorem dX5_bodyGives_210 : decode cX5_bodyGives 210 = .ok (.iload_n 2, 1) := by decide +kernel
theorem dX5_bodyGives_211 : decode cX5_bodyGives 211 = .ok (.aload_n 0, 1) := by decide +kernel
theorem dX5_bodyGives_212 : decode cX5_bodyGives 212 = .ok (.getfield 244, 3) := by decide +kernel
theorem dX5_bodyGives_215 : decode cX5_bodyGives 215 = .ok (.iload_n 2, 1) := by decide +kernel
theorem dX5_bodyGives_216 : decode cX5_bodyGives 216 = .ok (.iaload, 1) := by decide +kernel
theorem dX5_bodyGives_217 : decode cX5_bodyGives 217 = .ok (.invokestatic 253, 3) := by decide +kernel
theorem dX5_bodyGives_220 : decode cX5_bodyGives 220 = .ok (.iload 5, 2) := by decide +kernel
theorem dX5_bodyGives_222 : decode cX5_bodyGives 222 = .ok (.invokestatic 259, 3) := by decide +kernel
theorem dX5_bodyGives_225 : decode cX5_bodyGives 225 = .ok (.isub, 1) := by decide +kernel
theorem dX5_bodyGives_226 : decode cX5_bodyGives 226 = .ok (.ireturn, 1) := by decide +kernel
theorem dX5_bodyGives_227 : decode cX5_bodyGives 227 = .ok (.aload_n 0, 1) := by decide +kernel
theorem dX5_bodyGives_228 : decode cX5_bodyGives 228 = .ok (.aload_n 1, 1) := by decide +kernel
theorem dX5_bodyGives_229 : decode cX5_bodyGives 229 = .ok (.iload_n 2, 1) := by decide +kernel
theorem dX5_bodyGives_230 : decode cX5_bodyGives 230 = .ok (.bipush 20, 2) := by decide +kernel
theorem dX5_bodyGives_232 : decode cX5_bodyGives 232 = .ok (.iload 5, 2) := by decide +kernel
theorem dX5_bodyGives_234 : decode cX5_bodyGives 234 = .ok (.invokestatic 259, 3) := by decide +kernel
theorem dX5_bodyGives_237 : decode cX5_bodyGives 237 = .ok (.aload_n 0, 1) := by decide +kernel
theorem dX5_bodyGives_238 : decode cX5_bodyGives 238 = .ok (.getfield 178, 3) := by decide +kernel
theorem dX5_bodyGives_241 : decode cX5_bodyGives 241 = .ok (.iload_n 2, 1) := by decide +kernel
theorem dX5_bodyGives_242 : decode cX5_bodyGives 242 = .ok (.iaload, 1) := by decide +kernel
theorem dX5_bodyGives_243 : decode cX5_bodyGives 243 = .ok (.iadd, 1) := by decide +kernel
theorem dX5_bodyGives_244 : decode cX5_bodyGives 244 = .ok (.ireturn, 1) := by decide +kernel
theorem dX5_bodyGives_245 : decode cX5_bodyGives 245 = .ok (.aload_n 0, 1) := by decide +kernel
theorem dX5_bodyGives_246 : decode cX5_bodyGives 246 = .ok (.aload_n 1, 1) := by decide +kernel
theorem dX5_bodyGives_247 : decode cX5_bodyGives 247 = .ok (.iload_n 2, 1) := by decide +kernel
theorem dX5_bodyGives_248 : decode cX5_bodyGives 248 = .ok (.bipush 21, 2) := by decide +kernel
theorem dX5_bodyGives_250 : decode cX5_bodyGives 250 = .ok (.iload 5, 2) := by decide +kernel
theorem dX5_bodyGives_252 : decode cX5_bodyGives 252 = .ok (.invokestatic 259, 3) := by decide +kernel
theorem dX5_bodyGives_255 : decode cX5_bodyGives 255 = .ok (.sipush 1000, 3) := by decide +kernel
theorem dX5_bodyGives_258 : decode cX5_bodyGives 258 = .ok (.iadd, 1) := by decide +kernel
theorem dX5_bodyGives_259 : decode cX5_bodyGives 259 = .ok (.ireturn, 1) := by decide +kernel
theorem dX5_bodyGives_260 : decode cX5_bodyGives 260 = .ok (.iconst 0, 1) := by decide +kernel
theorem dX5_bodyGives_261 : decode cX5_bodyGives 261 = .ok (.ireturn, 1) := by decide +kernel
