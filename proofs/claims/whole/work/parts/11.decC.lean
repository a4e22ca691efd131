theorem dX6_init_0 : decode cX6_init 0 = .ok (.aload_n 0, 1) := by decide +kernel
theorem dX6_init_1 : decode cX6_init 1 = .ok (.invokespecial 1, 3) := by decide +kernel
theorem dX6_init_4 : decode cX6_init 4 = .ok (.aload_n 0, 1) := by decide +kernel
theorem dX6_init_5 : decode cX6_init 5 = .ok (.bipush 8, 2) := by decide +kernel
theorem dX6_init_7 : decode cX6_init 7 = .ok (.newarray .int, 2) := by decide +kernel
theorem dX6_init_9 : decode cX6_init 9 = .ok (.dup, 1) := by decide +kernel
theorem dX6_init_10 : decode cX6_init 10 = .ok (.iconst 0, 1) := by decide +kernel
theorem dX6_init_11 : decode cX6_init 11 = .ok (.iconst (-1), 1) := by decide +kernel
theorem dX6_init_12 : decode cX6_init 12 = .ok (.iastore, 1) := by decide +kernel
theorem dX6_init_13 : decode cX6_init 13 = .ok (.dup, 1) := by decide +kernel
theorem dX6_init_14 : decode cX6_init 14 = .ok (.iconst 1, 1) := by decide +kernel
theorem dX6_init_15 : decode cX6_init 15 = .ok (.iconst (-1), 1) := by decide +kernel
theorem dX6_init_16 : decode cX6_init 16 = .ok (.iastore, 1) := by decide +kernel
theorem dX6_init_17 : decode cX6_init 17 = .ok (.dup, 1) := by decide +kernel
theorem dX6_init_18 : decode cX6_init 18 = .ok (.iconst 2, 1) := by decide +kernel
theorem dX6_init_19 : decode cX6_init 19 = .ok (.iconst (-1), 1) := by decide +kernel
theorem dX6_init_20 : decode cX6_init 20 = .ok (.iastore, 1) := by decide +kernel
theorem dX6_init_21 : decode cX6_init 21 = .ok (.dup, 1) := by decide +kernel
theorem dX6_init_22 : decode cX6_init 22 = .ok (.iconst 3, 1) := by decide +kernel
theorem dX6_init_23 : decode cX6_init 23 = .ok (.iconst (-1), 1) := by decide +kernel
theorem dX6_init_24 : decode cX6_init 24 = .ok (.iastore, 1) := by decide +kernel
theorem dX6_init_25 : decode cX6_init 25 = .ok (.dup, 1) := by decide +kernel
theorem dX6_init_26 : decode cX6_init 26 = .ok (.iconst 4, 1) := by decide +kernel
theorem dX6_init_27 : decode cX6_init 27 = .ok (.iconst (-1), 1) := by decide +kernel
theorem dX6_init_28 : decode cX6_init 28 = .ok (.iastore, 1) := by decide +kernel
theorem dX6_init_29 : decode cX6_init 29 = .ok (.dup, 1) := by decide +kernel
theorem dX6_init_30 : decode cX6_init 30 = .ok (.iconst 5, 1) := by decide +kernel
theorem dX6_init_31 : decode cX6_init 31 = .ok (.iconst (-1), 1) := by decide +kernel
theorem dX6_init_32 : decode cX6_init 32 = .ok (.iastore, 1) := by decide +kernel
theorem dX6_init_33 : decode cX6_init 33 = .ok (.dup, 1) := by decide +kernel
theorem dX6_init_34 : decode cX6_init 34 = .ok (.bipush 6, 2) := by decide +kernel
theorem dX6_init_36 : decode cX6_init 36 = .ok (.iconst (-1), 1) := by decide +kernel
theorem dX6_init_37 : decode cX6_init 37 = .ok (.iastore, 1) := by decide +kernel
theorem dX6_init_38 : decode cX6_init 38 = .ok (.dup, 1) := by decide +kernel
theorem dX6_init_39 : decode cX6_init 39 = .ok (.bipush 7, 2) := by decide +kernel
theorem dX6_init_41 : decode cX6_init 41 = .ok (.iconst (-1), 1) := by decide +kernel
theorem dX6_init_42 : decode cX6_init 42 = .ok (.iastore, 1) := by decide +kernel
theorem dX6_init_43 : decode cX6_init 43 = .ok (.putfield 7, 3) := by decide +kernel
theorem dX6_init_46 : decode cX6_init 46 = .ok (.aload_n 0, 1) := by decide +kernel
theorem dX6_init_47 : decode cX6_init 47 = .ok (.bipush 8, 2) := by decide +kernel
theorem dX6_init_49 : decode cX6_init 49 = .ok (.newarray .int, 2) := by decide +kernel
theorem dX6_init_51 : decode cX6_init 51 = .ok (.putfield 13, 3) := by decide +kernel
theorem dX6_init_54 : decode cX6_init 54 = .ok (.aload_n 0, 1) := by decide +kernel
theorem dX6_init_55 : decode cX6_init 55 = .ok (.sipush 320, 3) := by decide +kernel
theorem dX6_init_58 : decode cX6_init 58 = .ok (.newarray .int, 2) := by decide +kernel
theorem dX6_init_60 : decode cX6_init 60 = .ok (.putfield 16, 3) := by decide +kernel
theorem dX6_init_63 : decode cX6_init 63 = .ok (.aload_n 0, 1) := by decide +kernel
theorem dX6_init_64 : decode cX6_init 64 = .ok (.bipush 74, 2) := by decide +kernel
theorem dX6_init_66 : decode cX6_init 66 = .ok (.newarray .int, 2) := by decide +kernel
theorem dX6_init_68 : decode cX6_init 68 = .ok (.putfield 19, 3) := by decide +kernel
theorem dX6_init_71 : decode cX6_init 71 = .ok (.aload_n 0, 1) := by decide +kernel
theorem dX6_init_72 : decode cX6_init 72 = .ok (.bipush 74, 2) := by decide +kernel
theorem dX6_init_74 : decode cX6_init 74 = .ok (.newarray .int, 2) := by decide +kernel
theorem dX6_init_76 : decode cX6_init 76 = .ok (.putfield 22, 3) := by decide +kernel
theorem dX6_init_79 : decode cX6_init 79 = .ok (.aload_n 0, 1) := by decide +kernel
theorem dX6_init_80 : decode cX6_init 80 = .ok (.sipush 1776, 3) := by decide +kernel
theorem dX6_init_83 : decode cX6_init 83 = .ok (.newarray .int, 2) := by decide +kernel
theorem dX6_init_85 : decode cX6_init 85 = .ok (.putfield 25, 3) := by decide +kernel
theorem dX6_init_88 : decode cX6_init 88 = .ok (.aload_n 0, 1) := by decide +kernel
theorem dX6_init_89 : decode cX6_init 89 = .ok (.sipush 400, 3) := by decide +kernel
theorem dX6_init_92 : decode cX6_init 92 = .ok (.newarray .int, 2) := by decide +kernel
theorem dX6_init_94 : decode cX6_init 94 = .ok (.putfield 28, 3) := by decide +kernel
theorem dX6_init_97 : decode cX6_init 97 = .ok (.aload_n 0, 1) := by decide +kernel
theorem dX6_init_98 : decode cX6_init 98 = .ok (.bipush 7, 2) := by decide +kernel
theorem dX6_init_100 : decode cX6_init 100 = .ok (.newarray .int, 2) := by decide +kernel
theorem dX6_init_102 : decode cX6_init 102 = .ok (.putfield 31, 3) := by decide +kernel
theorem dX6_init_105 : decode cX6_init 105 = .ok (.aload_n 0, 1) := by decide +kernel
theorem dX6_init_106 : decode cX6_init 106 = .ok (.iconst 2, 1) := by decide +kernel
theorem dX6_init_107 : decode cX6_init 107 = .ok (.newarray .boolean, 2) := by decide +kernel
theorem dX6_init_109 : decode cX6_init 109 = .ok (.putfield 34, 3) := by decide +kernel
theorem dX6_init_112 : decode cX6_init 112 = .ok (.aload_n 0, 1) := by decide +kernel
theorem dX6_init_113 : decode cX6_init 113 = .ok (.sipush 148, 3) := by decide +kernel
theorem dX6_init_116 : decode cX6_init 116 = .ok (.newarray .int, 2) := by decide +kernel
theorem dX6_init_118 : decode cX6_init 118 = .ok (.putfield 38, 3) := by decide +kernel
theorem dX6_init_121 : decode cX6_init 121 = .ok (.aload_n 0, 1) := by decide +kernel
theorem dX6_init_122 : decode cX6_init 122 = .ok (.bipush 16, 2) := by decide +kernel
theorem dX6_init_124 : decode cX6_init 124 = .ok (.newarray .int, 2) := by decide +kernel
theorem dX6_init_126 : decode cX6_init 126 = .ok (.putfield 41, 3) := by decide +kernel
theorem dX6_init_129 : decode cX6_init 129 = .ok (.return_, 1) := by decide +kernel
theorem dX6_in_0 : decode cX6_in 0 = .ok (.lload_n 0, 1) := by decide +kernel
theorem dX6_in_1 : decode cX6_in 1 = .ok (.lload_n 2, 1) := by decide +kernel
theorem dX6_in_2 : decode cX6_in 2 = .ok (.lcmp, 1) := by decide +kernel
theorem dX6_in_3 : decode cX6_in 3 = .ok (.ifCond .lt 14, 3) := by decide +kernel
theorem dX6_in_6 : decode cX6_in 6 = .ok (.lload_n 0, 1) := by decide +kernel
theorem dX6_in_7 : decode cX6_in 7 = .ok (.lload 4, 2) := by decide +kernel
theorem dX6_in_9 : decode cX6_in 9 = .ok (.lcmp, 1) := by decide +kernel
theorem dX6_in_10 : decode cX6_in 10 = .ok (.ifCond .gt 7, 3) := by decide +kernel
theorem dX6_in_13 : decode cX6_in 13 = .ok (.iconst 1, 1) := by decide +kernel
theorem dX6_in_14 : decode cX6_in 14 = .ok (.goto 4, 3) := by decide +kernel
theorem dX6_in_17 : decode cX6_in 17 = .ok (.iconst 0, 1) := by decide +kernel
theorem dX6_in_18 : decode cX6_in 18 = .ok (.ireturn, 1) := by decide +kernel
theorem dX6_finding_0 : decode cX6_finding 0 = .ok (.aload_n 0, 1) := by decide +kernel
theorem dX6_finding_1 : decode cX6_finding 1 = .ok (.iload_n 1, 1) := by decide +kernel
theorem dX6_finding_2 : decode cX6_finding 2 = .ok (.putfield 48, 3) := by decide +kernel
theorem dX6_finding_5 : decode cX6_finding 5 = .ok (.ldc 51, 2) := by decide +kernel
theorem dX6_finding_7 : decode cX6_finding 7 = .ok (.iload_n 1, 1) := by decide +kernel
theorem dX6_finding_8 : decode cX6_finding 8 = .ok (.isub, 1) := by decide +kernel
theorem dX6_finding_9 : decode cX6_finding 9 = .ok (.ireturn, 1) := by decide +kernel
theorem dX6_isRow_0 : decode cX6_isRow 0 = .ok (.iload_n 0, 1) := by decide +kernel
theorem dX6_isRow_1 : decode cX6_isRow 1 = .ok (.i2l, 1) := by decide +kernel
theorem dX6_isRow_2 : decode cX6_isRow 2 = .ok (.lconst 0, 1) := by decide +kernel
theorem dX6_isRow_3 : decode cX6_isRow 3 = .ok (.ldc2_w 52, 3) := by decide +kernel
theorem dX6_isRow_6 : decode cX6_isRow 6 = .ok (.invokestatic 54, 3) := by decide +kernel
theorem dX6_isRow_9 : decode cX6_isRow 9 = .ok (.ireturn, 1) := by decide +kernel
theorem dX6_row_0 : decode cX6_row 0 = .ok (.aload_n 0, 1) := by decide +kernel
theorem dX6_row_1 : decode cX6_row 1 = .ok (.iconst 0, 1) := by decide +kernel
theorem dX6_row_2 : decode cX6_row 2 = .ok (.putfield 44, 3) := by decide +kernel
theorem dX6_row_5 : decode cX6_row 5 = .ok (.iload_n 1, 1) := by decide +kernel
theorem dX6_row_6 : decode cX6_row 6 = .ok (.invokestatic 58, 3) := by decide +kernel
theorem dX6_row_9 : decode cX6_row 9 = .ok (.ifCond .eq 21, 3) := by decide +kernel
theorem dX6_row_12 : decode cX6_row 12 = .ok (.iload_n 2, 1) := by decide +kernel
theorem dX6_row_13 : decode cX6_row 13 = .ok (.i2l, 1) := by decide +kernel
theorem dX6_row_14 : decode cX6_row 14 = .ok (.lconst 0, 1) := by decide +kernel
theorem dX6_row_15 : decode cX6_row 15 = .ok (.ldc2_w 62, 3) := by decide +kernel
theorem dX6_row_18 : decode cX6_row 18 = .ok (.invokestatic 54, 3) := by decide +kernel
theorem dX6_row_21 : decode cX6_row 21 = .ok (.ifCond .eq 9, 3) := by decide +kernel
theorem dX6_row_24 : decode cX6_row 24 = .ok (.iload_n 3, 1) := by decide +kernel
theorem dX6_row_25 : decode cX6_row 25 = .ok (.bipush 40, 2) := by decide +kernel
theorem dX6_row_27 : decode cX6_row 27 = .ok (.if_icmp .le 6, 3) := by decide +kernel
theorem dX6_row_30 : decode cX6_row 30 = .ok (.ldc 64, 2) := by decide +kernel
theorem dX6_row_32 : decode cX6_row 32 = .ok (.ireturn, 1) := by decide +kernel
theorem dX6_row_33 : decode cX6_row 33 = .ok (.aload_n 0, 1) := by decide +kernel
theorem dX6_row_34 : decode cX6_row 34 = .ok (.iconst 0, 1) := by decide +kernel
theorem dX6_row_35 : decode cX6_row 35 = .ok (.putfield 48, 3) := by decide +kernel
theorem dX6_row_38 : decode cX6_row 38 = .ok (.iload_n 3, 1) := by decide +kernel
theorem dX6_row_39 : decode cX6_row 39 = .ok (.ifCond .ge 9, 3) := by decide +kernel
theorem dX6_row_42 : decode cX6_row 42 = .ok (.aload_n 0, 1) := by decide +kernel
theorem dX6_row_43 : decode cX6_row 43 = .ok (.iconst 4, 1) := by decide +kernel
theorem dX6_row_44 : decode cX6_row 44 = .ok (.invokevirtual 65, 3) := by decide +kernel
theorem dX6_row_47 : decode cX6_row 47 = .ok (.ireturn, 1) := by decide +kernel
theorem dX6_row_48 : decode cX6_row 48 = .ok (.aload_n 0, 1) := by decide +kernel
theorem dX6_row_49 : decode cX6_row 49 = .ok (.getfield 7, 3) := by decide +kernel
theorem dX6_row_52 : decode cX6_row 52 = .ok (.iload_n 1, 1) := by decide +kernel
theorem dX6_row_53 : decode cX6_row 53 = .ok (.iload_n 2, 1) := by decide +kernel
theorem dX6_row_54 : decode cX6_row 54 = .ok (.iastore, 1) := by decide +kernel
theorem dX6_row_55 : decode cX6_row 55 = .ok (.aload_n 0, 1) := by decide +kernel
theorem dX6_row_56 : decode cX6_row 56 = .ok (.getfield 13, 3) := by decide +kernel
theorem dX6_row_59 : decode cX6_row 59 = .ok (.iload_n 1, 1) := by decide +kernel
theorem dX6_row_60 : decode cX6_row 60 = .ok (.iload_n 3, 1) := by decide +kernel
theorem dX6_row_61 : decode cX6_row 61 = .ok (.iastore, 1) := by decide +kernel
theorem dX6_row_62 : decode cX6_row 62 = .ok (.iconst 0, 1) := by decide +kernel
theorem dX6_row_63 : decode cX6_row 63 = .ok (.istore 4, 2) := by decide +kernel
theorem dX6_row_65 : decode cX6_row 65 = .ok (.iload 4, 2) := by decide +kernel
theorem dX6_row_67 : decode cX6_row 67 = .ok (.bipush 40, 2) := by decide +kernel
theorem dX6_row_69 : decode cX6_row 69 = .ok (.if_icmp .ge 22, 3) := by decide +kernel
theorem dX6_row_72 : decode cX6_row 72 = .ok (.aload_n 0, 1) := by decide +kernel
theorem dX6_row_73 : decode cX6_row 73 = .ok (.getfield 16, 3) := by decide +kernel
theorem dX6_row_76 : decode cX6_row 76 = .ok (.bipush 40, 2) := by decide +kernel
theorem dX6_row_78 : decode cX6_row 78 = .ok (.iload_n 1, 1) := by decide +kernel
theorem dX6_row_79 : decode cX6_row 79 = .ok (.imul, 1) := by decide +kernel
theorem dX6_row_80 : decode cX6_row 80 = .ok (.iload 4, 2) := by decide +kernel
theorem dX6_row_82 : decode cX6_row 82 = .ok (.iadd, 1) := by decide +kernel
theorem dX6_row_83 : decode cX6_row 83 = .ok (.iconst 0, 1) := by decide +kernel
theorem dX6_row_84 : decode cX6_row 84 = .ok (.iastore, 1) := by decide +kernel
theorem dX6_row_85 : decode cX6_row 85 = .ok (.iinc 4 1, 3) := by decide +kernel
theorem dX6_row_88 : decode cX6_row 88 = .ok (.goto (-23), 3) := by decide +kernel
theorem dX6_row_91 : decode cX6_row 91 = .ok (.iload_n 3, 1) := by decide +kernel
theorem dX6_row_92 : decode cX6_row 92 = .ok (.ireturn, 1) := by decide +kernel
theorem dX6_set_0 : decode cX6_set 0 = .ok (.aload_n 0, 1) := by decide +kernel
theorem dX6_set_1 : decode cX6_set 1 = .ok (.iconst 0, 1) := by decide +kernel
theorem dX6_set_2 : decode cX6_set 2 = .ok (.putfield 44, 3) := by decide +kernel
theorem dX6_set_5 : decode cX6_set 5 = .ok (.iload_n 1, 1) := by decide +kernel
theorem dX6_set_6 : decode cX6_set 6 = .ok (.invokestatic 58, 3) := by decide +kernel
theorem dX6_set_9 : decode cX6_set 9 = .ok (.ifCond .ne 6, 3) := by decide +kernel
theorem dX6_set_12 : decode cX6_set 12 = .ok (.ldc 64, 2) := by decide +kernel
theorem dX6_set_14 : decode cX6_set 14 = .ok (.ireturn, 1) := by decide +kernel
theorem dX6_set_15 : decode cX6_set 15 = .ok (.aload_n 0, 1) := by decide +kernel
theorem dX6_set_16 : decode cX6_set 16 = .ok (.iconst 0, 1) := by decide +kernel
theorem dX6_set_17 : decode cX6_set 17 = .ok (.putfield 48, 3) := by decide +kernel
theorem dX6_set_20 : decode cX6_set 20 = .ok (.aload_n 0, 1) := by decide +kernel
theorem dX6_set_21 : decode cX6_set 21 = .ok (.getfield 7, 3) := by decide +kernel
theorem dX6_set_24 : decode cX6_set 24 = .ok (.iload_n 1, 1) := by decide +kernel
theorem dX6_set_25 : decode cX6_set 25 = .ok (.iaload, 1) := by decide +kernel
theorem dX6_set_26 : decode cX6_set 26 = .ok (.ifCond .ge 9, 3) := by decide +kernel
theorem dX6_set_29 : decode cX6_set 29 = .ok (.aload_n 0, 1) := by decide +kernel
theorem dX6_set_30 : decode cX6_set 30 = .ok (.iconst 1, 1) := by decide +kernel
theorem dX6_set_31 : decode cX6_set 31 = .ok (.invokevirtual 65, 3) := by decide +kernel
theorem dX6_set_34 : decode cX6_set 34 = .ok (.ireturn, 1) := by decide +kernel
theorem dX6_set_35 : decode cX6_set 35 = .ok (.iload_n 2, 1) := by decide +kernel
theorem dX6_set_36 : decode cX6_set 36 = .ok (.i2l, 1) := by decide +kernel
theorem dX6_set_37 : decode cX6_set 37 = .ok (.lconst 0, 1) := by decide +kernel
theorem dX6_set_38 : decode cX6_set 38 = .ok (.aload_n 0, 1) := by decide +kernel
theorem dX6_set_39 : decode cX6_set 39 = .ok (.getfield 13, 3) := by decide +kernel
theorem dX6_set_42 : decode cX6_set 42 = .ok (.iload_n 1, 1) := by decide +kernel
theorem dX6_set_43 : decode cX6_set 43 = .ok (.iaload, 1) := by decide +kernel
theorem dX6_set_44 : decode cX6_set 44 = .ok (.iconst 1, 1) := by decide +kernel
theorem dX6_set_45 : decode cX6_set 45 = .ok (.isub, 1) := by decide +kernel
theorem dX6_set_46 : decode cX6_set 46 = .ok (.i2l, 1) := by decide +kernel
theorem dX6_set_47 : decode cX6_set 47 = .ok (.invokestatic 54, 3) := by decide +kernel
theorem dX6_set_50 : decode cX6_set 50 = .ok (.ifCond .ne 9, 3) := by decide +kernel
theorem dX6_set_53 : decode cX6_set 53 = .ok (.aload_n 0, 1) := by decide +kernel
theorem dX6_set_54 : decode cX6_set 54 = .ok (.iconst 2, 1) := by decide +kernel
theorem dX6_set_55 : decode cX6_set 55 = .ok (.invokevirtual 65, 3) := by decide +kernel
theorem dX6_set_58 : decode cX6_set 58 = .ok (.ireturn, 1) := by decide +kernel
theorem dX6_set_59 : decode cX6_set 59 = .ok (.aload_n 0, 1) := by decide +kernel
theorem dX6_set_60 : decode cX6_set 60 = .ok (.getfield 16, 3) := by decide +kernel
theorem dX6_set_63 : decode cX6_set 63 = .ok (.bipush 40, 2) := by decide +kernel
theorem dX6_set_65 : decode cX6_set 65 = .ok (.iload_n 1, 1) := by decide +kernel
theorem dX6_set_66 : decode cX6_set 66 = .ok (.imul, 1) := by decide +kernel
theorem dX6_set_67 : decode cX6_set 67 = .ok (.iload_n 2, 1) := by decide +kernel
theorem dX6_set_68 : decode cX6_set 68 = .ok (.iadd, 1) := by decide +kernel
theorem dX6_set_69 : decode cX6_set 69 = .ok (.aload_n 0, 1) := by decide +kernel
theorem dX6_set_70 : decode cX6_set 70 = .ok (.getfield 7, 3) := by decide +kernel
theorem dX6_set_73 : decode cX6_set 73 = .ok (.iload_n 1, 1) := by decide +kernel
theorem dX6_set_74 : decode cX6_set 74 = .ok (.iaload, 1) := by decide +kernel
theorem dX6_set_75 : decode cX6_set 75 = .ok (.ifCond .ne 8, 3) := by decide +kernel
theorem dX6_set_78 : decode cX6_set 78 = .ok (.iload_n 3, 1) := by decide +kernel
theorem dX6_set_79 : decode cX6_set 79 = .ok (.i2b, 1) := by decide +kernel
theorem dX6_set_80 : decode cX6_set 80 = .ok (.goto 19, 3) := by decide +kernel
theorem dX6_set_83 : decode cX6_set 83 = .ok (.aload_n 0, 1) := by decide +kernel
theorem dX6_set_84 : decode cX6_set 84 = .ok (.getfield 7, 3) := by decide +kernel
theorem dX6_set_87 : decode cX6_set 87 = .ok (.iload_n 1, 1) := by decide +kernel
theorem dX6_set_88 : decode cX6_set 88 = .ok (.iaload, 1) := by decide +kernel
theorem dX6_set_89 : decode cX6_set 89 = .ok (.iconst 1, 1) := by decide +kernel
theorem dX6_set_90 : decode cX6_set 90 = .ok (.if_icmp .ne 8, 3) := by decide +kernel
theorem dX6_set_93 : decode cX6_set 93 = .ok (.iload_n 3, 1) := by decide +kernel
theorem dX6_set_94 : decode cX6_set 94 = .ok (.i2s, 1) := by decide +kernel
theorem dX6_set_95 : decode cX6_set 95 = .ok (.goto 4, 3) := by decide +kernel
theorem dX6_set_98 : decode cX6_set 98 = .ok (.iload_n 3, 1) := by decide +kernel
theorem dX6_set_99 : decode cX6_set 99 = .ok (.iastore, 1) := by decide +kernel
theorem dX6_set_100 : decode cX6_set 100 = .ok (.aload_n 0, 1) := by decide +kernel
theorem dX6_set_101 : decode cX6_set 101 = .ok (.getfield 16, 3) := by decide +kernel
theorem dX6_set_104 : decode cX6_set 104 = .ok (.bipush 40, 2) := by decide +kernel
theorem dX6_set_106 : decode cX6_set 106 = .ok (.iload_n 1, 1) := by decide +kernel
theorem dX6_set_107 : decode cX6_set 107 = .ok (.imul, 1) := by decide +kernel
theorem dX6_set_108 : decode cX6_set 108 = .ok (.iload_n 2, 1) := by decide +kernel
theorem dX6_set_109 : decode cX6_set 109 = .ok (.iadd, 1) := by decide +kernel
theorem dX6_set_110 : decode cX6_set 110 = .ok (.iaload, 1) := by decide +kernel
theorem dX6_set_111 : decode cX6_set 111 = .ok (.ireturn, 1) := by decide +kernel
theorem dX6_copy_0 : decode cX6_copy 0 = .ok (.aload_n 0, 1) := by decide +kernel
theorem dX6_copy_1 : decode cX6_copy 1 = .ok (.iconst 0, 1) := by decide +kernel
theorem dX6_copy_2 : decode cX6_copy 2 = .ok (.putfield 44, 3) := by decide +kernel
theorem dX6_copy_5 : decode cX6_copy 5 = .ok (.iload_n 1, 1) := by decide +kernel
theorem dX6_copy_6 : decode cX6_copy 6 = .ok (.invokestatic 58, 3) := by decide +kernel
theorem dX6_copy_9 : decode cX6_copy 9 = .ok (.ifCond .eq 10, 3) := by decide +kernel
theorem dX6_copy_12 : decode cX6_copy 12 = .ok (.iload_n 3, 1) := by decide +kernel
theorem dX6_copy_13 : decode cX6_copy 13 = .ok (.invokestatic 58, 3) := by decide +kernel
theorem dX6_copy_16 : decode cX6_copy 16 = .ok (.ifCond .ne 6, 3) := by decide +kernel
theorem dX6_copy_19 : decode cX6_copy 19 = .ok (.ldc 64, 2) := by decide +kernel
theorem dX6_copy_21 : decode cX6_copy 21 = .ok (.ireturn, 1) := by decide +kernel
theorem dX6_copy_22 : decode cX6_copy 22 = .ok (.aload_n 0, 1) := by decide +kernel
theorem dX6_copy_23 : decode cX6_copy 23 = .ok (.iconst 0, 1) := by decide +kernel
theorem dX6_copy_24 : decode cX6_copy 24 = .ok (.putfield 48, 3) := by decide +kernel
theorem dX6_copy_27 : decode cX6_copy 27 = .ok (.aload_n 0, 1) := by decide +kernel
theorem dX6_copy_28 : decode cX6_copy 28 = .ok (.getfield 7, 3) := by decide +kernel
theorem dX6_copy_31 : decode cX6_copy 31 = .ok (.iload_n 1, 1) := by decide +kernel
theorem dX6_copy_32 : decode cX6_copy 32 = .ok (.iaload, 1) := by decide +kernel
theorem dX6_copy_33 : decode cX6_copy 33 = .ok (.ifCond .lt 12, 3) := by decide +kernel
theorem dX6_copy_36 : decode cX6_copy 36 = .ok (.aload_n 0, 1) := by decide +kernel
theorem dX6_copy_37 : decode cX6_copy 37 = .ok (.getfield 7, 3) := by decide +kernel
theorem dX6_copy_40 : decode cX6_copy 40 = .ok (.iload_n 3, 1) := by decide +kernel
theorem dX6_copy_41 : decode cX6_copy 41 = .ok (.iaload, 1) := by decide +kernel
theorem dX6_copy_42 : decode cX6_copy 42 = .ok (.ifCond .ge 9, 3) := by decide +kernel
theorem dX6_copy_45 : decode cX6_copy 45 = .ok (.aload_n 0, 1) := by decide +kernel
theorem dX6_copy_46 : decode cX6_copy 46 = .ok (.iconst 1, 1) := by decide +kernel
theorem dX6_copy_47 : decode cX6_copy 47 = .ok (.invokevirtual 65, 3) := by decide +kernel
theorem dX6_copy_50 : decode cX6_copy 50 = .ok (.ireturn, 1) := by decide +kernel
theorem dX6_copy_51 : decode cX6_copy 51 = .ok (.aload_n 0, 1) := by decide +kernel
theorem dX6_copy_52 : decode cX6_copy 52 = .ok (.getfield 7, 3) := by decide +kernel
theorem dX6_copy_55 : decode cX6_copy 55 = .ok (.iload_n 1, 1) := by decide +kernel
theorem dX6_copy_56 : decode cX6_copy 56 = .ok (.iaload, 1) := by decide +kernel
theorem dX6_copy_57 : decode cX6_copy 57 = .ok (.aload_n 0, 1) := by decide +kernel
theorem dX6_copy_58 : decode cX6_copy 58 = .ok (.getfield 7, 3) := by decide +kernel
theorem dX6_copy_61 : decode cX6_copy 61 = .ok (.iload_n 3, 1) := by decide +kernel
theorem dX6_copy_62 : decode cX6_copy 62 = .ok (.iaload, 1) := by decide +kernel
theorem dX6_copy_63 : decode cX6_copy 63 = .ok (.if_icmp .eq 9, 3) := by decide +kernel
theorem dX6_copy_66 : decode cX6_copy 66 = .ok (.aload_n 0, 1) := by decide +kernel
theorem dX6_copy_67 : decode cX6_copy 67 = .ok (.iconst 5, 1) := by decide +kernel
theorem dX6_copy_68 : decode cX6_copy 68 = .ok (.invokevirtual 65, 3) := by decide +kernel
theorem dX6_copy_71 : decode cX6_copy 71 = .ok (.ireturn, 1) := by decide +kernel
theorem dX6_copy_72 : decode cX6_copy 72 = .ok (.iload_n 2, 1) := by decide +kernel
theorem dX6_copy_73 : decode cX6_copy 73 = .ok (.ifCond .lt 48, 3) := by decide +kernel
theorem dX6_copy_76 : decode cX6_copy 76 = .ok (.iload 4, 2) := by decide +kernel
theorem dX6_copy_78 : decode cX6_copy 78 = .ok (.ifCond .lt 43, 3) := by decide +kernel
theorem dX6_copy_81 : decode cX6_copy 81 = .ok (.iload 5, 2) := by decide +kernel
theorem dX6_copy_83 : decode cX6_copy 83 = .ok (.ifCond .lt 38, 3) := by decide +kernel
theorem dX6_copy_86 : decode cX6_copy 86 = .ok (.iload_n 2, 1) := by decide +kernel
theorem dX6_copy_87 : decode cX6_copy 87 = .ok (.i2l, 1) := by decide +kernel
theorem dX6_copy_88 : decode cX6_copy 88 = .ok (.iload 5, 2) := by decide +kernel
theorem dX6_copy_90 : decode cX6_copy 90 = .ok (.i2l, 1) := by decide +kernel
theorem dX6_copy_91 : decode cX6_copy 91 = .ok (.ladd, 1) := by decide +kernel
theorem dX6_copy_92 : decode cX6_copy 92 = .ok (.aload_n 0, 1) := by decide +kernel
theorem dX6_copy_93 : decode cX6_copy 93 = .ok (.getfield 13, 3) := by decide +kernel
theorem dX6_copy_96 : decode cX6_copy 96 = .ok (.iload_n 1, 1) := by decide +kernel
theorem dX6_copy_97 : decode cX6_copy 97 = .ok (.iaload, 1) := by decide +kernel
theorem dX6_copy_98 : decode cX6_copy 98 = .ok (.i2l, 1) := by decide +kernel
theorem dX6_copy_99 : decode cX6_copy 99 = .ok (.lcmp, 1) := by decide +kernel
theorem dX6_copy_100 : decode cX6_copy 100 = .ok (.ifCond .gt 21, 3) := by decide +kernel
theorem dX6_copy_103 : decode cX6_copy 103 = .ok (.iload 4, 2) := by decide +kernel
theorem dX6_copy_105 : decode cX6_copy 105 = .ok (.i2l, 1) := by decide +kernel
theorem dX6_copy_106 : decode cX6_copy 106 = .ok (.iload 5, 2) := by decide +kernel
theorem dX6_copy_108 : decode cX6_copy 108 = .ok (.i2l, 1) := by decide +kernel
theorem dX6_copy_109 : decode cX6_copy 109 = .ok (.ladd, 1) := by decide +kernel
theorem dX6_copy_110 : decode cX6_copy 110 = .ok (.aload_n 0, 1) := by decide +kernel
theorem dX6_copy_111 : decode cX6_copy 111 = .ok (.getfield 13, 3) := by decide +kernel
theorem dX6_copy_114 : decode cX6_copy 114 = .ok (.iload_n 3, 1) := by decide +kernel
theorem dX6_copy_115 : decode cX6_copy 115 = .ok (.iaload, 1) := by decide +kernel
theorem dX6_copy_116 : decode cX6_copy 116 = .ok (.i2l, 1) := by decide +kernel
theorem dX6_copy_117 : decode cX6_copy 117 = .ok (.lcmp, 1) := by decide +kernel
theorem dX6_copy_118 : decode cX6_copy 118 = .ok (.ifCond .le 9, 3) := by decide +kernel
theorem dX6_copy_121 : decode cX6_copy 121 = .ok (.aload_n 0, 1) := by decide +kernel
theorem dX6_copy_122 : decode cX6_copy 122 = .ok (.iconst 2, 1) := by decide +kernel
theorem dX6_copy_123 : decode cX6_copy 123 = .ok (.invokevirtual 65, 3) := by decide +kernel
theorem dX6_copy_126 : decode cX6_copy 126 = .ok (.ireturn, 1) := by decide +kernel
theorem dX6_copy_127 : decode cX6_copy 127 = .ok (.iload_n 2, 1) := by decide +kernel
theorem dX6_copy_128 : decode cX6_copy 128 = .ok (.iload 4, 2) := by decide +kernel
theorem dX6_copy_130 : decode cX6_copy 130 = .ok (.if_icmp .lt 7, 3) := by decide +kernel
theorem dX6_copy_133 : decode cX6_copy 133 = .ok (.iconst 1, 1) := by decide +kernel
theorem dX6_copy_134 : decode cX6_copy 134 = .ok (.goto 4, 3) := by decide +kernel
theorem dX6_copy_137 : decode cX6_copy 137 = .ok (.iconst 0, 1) := by decide +kernel
theorem dX6_copy_138 : decode cX6_copy 138 = .ok (.istore 6, 2) := by decide +kernel
theorem dX6_copy_140 : decode cX6_copy 140 = .ok (.iconst 0, 1) := by decide +kernel
theorem dX6_copy_141 : decode cX6_copy 141 = .ok (.istore 7, 2) := by decide +kernel
theorem dX6_copy_143 : decode cX6_copy 143 = .ok (.iload 7, 2) := by decide +kernel
theorem dX6_copy_145 : decode cX6_copy 145 = .ok (.iload 5, 2) := by decide +kernel
theorem dX6_copy_147 : decode cX6_copy 147 = .ok (.if_icmp .ge 57, 3) := by decide +kernel
theorem dX6_copy_150 : decode cX6_copy 150 = .ok (.iload 6, 2) := by decide +kernel
theorem dX6_copy_152 : decode cX6_copy 152 = .ok (.ifCond .eq 8, 3) := by decide +kernel
theorem dX6_copy_155 : decode cX6_copy 155 = .ok (.iload 7, 2) := by decide +kernel
theorem dX6_copy_157 : decode cX6_copy 157 = .ok (.goto 10, 3) := by decide +kernel
theorem dX6_copy_160 : decode cX6_copy 160 = .ok (.iload 5, 2) := by decide +kernel
theorem dX6_copy_162 : decode cX6_copy 162 = .ok (.iconst 1, 1) := by decide +kernel
theorem dX6_copy_163 : decode cX6_copy 163 = .ok (.isub, 1) := by decide +kernel
theorem dX6_copy_164 : decode cX6_copy 164 = .ok (.iload 7, 2) := by decide +kernel
theorem dX6_copy_166 : decode cX6_copy 166 = .ok (.isub, 1) := by decide +kernel
theorem dX6_copy_167 : decode cX6_copy 167 = .ok (.istore 8, 2) := by decide +kernel
theorem dX6_copy_169 : decode cX6_copy 169 = .ok (.aload_n 0, 1) := by decide +kernel
theorem dX6_copy_170 : decode cX6_copy 170 = .ok (.getfield 16, 3) := by decide +kernel
theorem dX6_copy_173 : decode cX6_copy 173 = .ok (.bipush 40, 2) := by decide +kernel
theorem dX6_copy_175 : decode cX6_copy 175 = .ok (.iload_n 3, 1) := by decide +kernel
theorem dX6_copy_176 : decode cX6_copy 176 = .ok (.imul, 1) := by decide +kernel
theorem dX6_copy_177 : decode cX6_copy 177 = .ok (.iload 4, 2) := by decide +kernel
theorem dX6_copy_179 : decode cX6_copy 179 = .ok (.iadd, 1) := by decide +kernel
theorem dX6_copy_180 : decode cX6_copy 180 = .ok (.iload 8, 2) := by decide +kernel
theorem dX6_copy_182 : decode cX6_copy 182 = .ok (.iadd, 1) := by decide +kernel
theorem dX6_copy_183 : decode cX6_copy 183 = .ok (.aload_n 0, 1) := by decide +kernel
theorem dX6_copy_184 : decode cX6_copy 184 = .ok (.getfield 16, 3) := by decide +kernel
theorem dX6_copy_187 : decode cX6_copy 187 = .ok (.bipush 40, 2) := by decide +kernel
theorem dX6_copy_189 : decode cX6_copy 189 = .ok (.iload_n 1, 1) := by decide +kernel
theorem dX6_copy_190 : decode cX6_copy 190 = .ok (.imul, 1) := by decide +kernel
theorem dX6_copy_191 : decode cX6_copy 191 = .ok (.iload_n 2, 1) := by decide +kernel
theorem dX6_copy_192 : decode cX6_copy 192 = .ok (.iadd, 1) := by decide +kernel
theorem dX6_copy_193 : decode cX6_copy 193 = .ok (.iload 8, 2) := by decide +kernel
theorem dX6_copy_195 : decode cX6_copy 195 = .ok (.iadd, 1) := by decide +kernel
theorem dX6_copy_196 : decode cX6_copy 196 = .ok (.iaload, 1) := by decide +kernel
theorem dX6_copy_197 : decode cX6_copy 197 = .ok (.iastore, 1) := by decide +kernel
theorem dX6_copy_198 : decode cX6_copy 198 = .ok (.iinc 7 1, 3) := by decide +kernel
theorem dX6_copy_201 : decode cX6_copy 201 = .ok (.goto (-58), 3) := by decide +kernel
theorem dX6_copy_204 : decode cX6_copy 204 = .ok (.iload 5, 2) := by decide +kernel
theorem dX6_copy_206 : decode cX6_copy 206 = .ok (.ireturn, 1) := by decide +kernel
theorem dX6_drop_0 : decode cX6_drop 0 = .ok (.aload_n 0, 1) := by decide +kernel
theorem dX6_drop_1 : decode cX6_drop 1 = .ok (.iconst 0, 1) := by decide +kernel
theorem dX6_drop_2 : decode cX6_drop 2 = .ok (.putfield 44, 3) := by decide +kernel
theorem dX6_drop_5 : decode cX6_drop 5 = .ok (.iload_n 1, 1) := by decide +kernel
theorem dX6_drop_6 : decode cX6_drop 6 = .ok (.invokestatic 58, 3) := by decide +kernel
theorem dX6_drop_9 : decode cX6_drop 9 = .ok (.ifCond .ne 6, 3) := by decide +kernel
theorem dX6_drop_12 : decode cX6_drop 12 = .ok (.ldc 64, 2) := by decide +kernel
theorem dX6_drop_14 : decode cX6_drop 14 = .ok (.ireturn, 1) := by decide +kernel
theorem dX6_drop_15 : decode cX6_drop 15 = .ok (.aload_n 0, 1) := by decide +kernel
theorem dX6_drop_16 : decode cX6_drop 16 = .ok (.iconst 0, 1) := by decide +kernel
theorem dX6_drop_17 : decode cX6_drop 17 = .ok (.putfield 48, 3) := by decide +kernel
theorem dX6_drop_20 : decode cX6_drop 20 = .ok (.aload_n 0, 1) := by decide +kernel
theorem dX6_drop_21 : decode cX6_drop 21 = .ok (.getfield 7, 3) := by decide +kernel
theorem dX6_drop_24 : decode cX6_drop 24 = .ok (.iload_n 1, 1) := by decide +kernel
theorem dX6_drop_25 : decode cX6_drop 25 = .ok (.iaload, 1) := by decide +kernel
theorem dX6_drop_26 : decode cX6_drop 26 = .ok (.ifCond .ge 9, 3) := by decide +kernel
theorem dX6_drop_29 : decode cX6_drop 29 = .ok (.aload_n 0, 1) := by decide +kernel
theorem dX6_drop_30 : decode cX6_drop 30 = .ok (.iconst 1, 1) := by decide +kernel
theorem dX6_drop_31 : decode cX6_drop 31 = .ok (.invokevirtual 65, 3) := by decide +kernel
theorem dX6_drop_34 : decode cX6_drop 34 = .ok (.ireturn, 1) := by decide +kernel
theorem dX6_drop_35 : decode cX6_drop 35 = .ok (.aload_n 0, 1) := by decide +kernel
theorem dX6_drop_36 : decode cX6_drop 36 = .ok (.getfield 7, 3) := by decide +kernel
theorem dX6_drop_39 : decode cX6_drop 39 = .ok (.iload_n 1, 1) := by decide +kernel
theorem dX6_drop_40 : decode cX6_drop 40 = .ok (.iconst (-1), 1) := by decide +kernel
theorem dX6_drop_41 : decode cX6_drop 41 = .ok (.iastore, 1) := by decide +kernel
theorem dX6_drop_42 : decode cX6_drop 42 = .ok (.aload_n 0, 1) := by decide +kernel
theorem dX6_drop_43 : decode cX6_drop 43 = .ok (.getfield 13, 3) := by decide +kernel
theorem dX6_drop_46 : decode cX6_drop 46 = .ok (.iload_n 1, 1) := by decide +kernel
theorem dX6_drop_47 : decode cX6_drop 47 = .ok (.iaload, 1) := by decide +kernel
theorem dX6_drop_48 : decode cX6_drop 48 = .ok (.ireturn, 1) := by decide +kernel
theorem dX6_feed_0 : decode cX6_feed 0 = .ok (.aload_n 0, 1) := by decide +kernel
theorem dX6_feed_1 : decode cX6_feed 1 = .ok (.iconst 0, 1) := by decide +kernel
theorem dX6_feed_2 : decode cX6_feed 2 = .ok (.putfield 44, 3) := by decide +kernel
theorem dX6_feed_5 : decode cX6_feed 5 = .ok (.iload_n 3, 1) := by decide +kernel
theorem dX6_feed_6 : decode cX6_feed 6 = .ok (.i2l, 1) := by decide +kernel
theorem dX6_feed_7 : decode cX6_feed 7 = .ok (.lconst 1, 1) := by decide +kernel
theorem dX6_feed_8 : decode cX6_feed 8 = .ok (.ldc2_w 69, 3) := by decide +kernel
theorem dX6_feed_11 : decode cX6_feed 11 = .ok (.invokestatic 54, 3) := by decide +kernel
theorem dX6_feed_14 : decode cX6_feed 14 = .ok (.ifCond .ne 6, 3) := by decide +kernel
theorem dX6_feed_17 : decode cX6_feed 17 = .ok (.ldc 64, 2) := by decide +kernel
theorem dX6_feed_19 : decode cX6_feed 19 = .ok (.ireturn, 1) := by decide +kernel
theorem dX6_feed_20 : decode cX6_feed 20 = .ok (.aload_n 0, 1) := by decide +kernel
theorem dX6_feed_21 : decode cX6_feed 21 = .ok (.getfield 71, 3) := by decide +kernel
theorem dX6_feed_24 : decode cX6_feed 24 = .ok (.iload_n 3, 1) := by decide +kernel
theorem dX6_feed_25 : decode cX6_feed 25 = .ok (.iadd, 1) := by decide +kernel
theorem dX6_feed_26 : decode cX6_feed 26 = .ok (.sipush 400, 3) := by decide +kernel
theorem dX6_feed_29 : decode cX6_feed 29 = .ok (.if_icmp .le 6, 3) := by decide +kernel
theorem dX6_feed_32 : decode cX6_feed 32 = .ok (.ldc 74, 2) := by decide +kernel
theorem dX6_feed_34 : decode cX6_feed 34 = .ok (.ireturn, 1) := by decide +kernel
theorem dX6_feed_35 : decode cX6_feed 35 = .ok (.iload_n 3, 1) := by decide +kernel
theorem dX6_feed_36 : decode cX6_feed 36 = .ok (.iconst 1, 1) := by decide +kernel
theorem dX6_feed_37 : decode cX6_feed 37 = .ok (.isub, 1) := by decide +kernel
theorem dX6_feed_38 : decode cX6_feed 38 = .ok (.istore 4, 2) := by decide +kernel
theorem dX6_feed_40 : decode cX6_feed 40 = .ok (.iload 4, 2) := by decide +kernel
theorem dX6_feed_42 : decode cX6_feed 42 = .ok (.ifCond .lt 40, 3) := by decide +kernel
theorem dX6_feed_45 : decode cX6_feed 45 = .ok (.aload_n 0, 1) := by decide +kernel
theorem dX6_feed_46 : decode cX6_feed 46 = .ok (.getfield 28, 3) := by decide +kernel
theorem dX6_feed_49 : decode cX6_feed 49 = .ok (.aload_n 0, 1) := by decide +kernel
theorem dX6_feed_50 : decode cX6_feed 50 = .ok (.getfield 71, 3) := by decide +kernel
theorem dX6_feed_53 : decode cX6_feed 53 = .ok (.lload_n 1, 1) := by decide +kernel
theorem dX6_feed_54 : decode cX6_feed 54 = .ok (.bipush 8, 2) := by decide +kernel
theorem dX6_feed_56 : decode cX6_feed 56 = .ok (.iload 4, 2) := by decide +kernel
theorem dX6_feed_58 : decode cX6_feed 58 = .ok (.imul, 1) := by decide +kernel
theorem dX6_feed_59 : decode cX6_feed 59 = .ok (.lshr, 1) := by decide +kernel
theorem dX6_feed_60 : decode cX6_feed 60 = .ok (.ldc2_w 75, 3) := by decide +kernel
theorem dX6_feed_63 : decode cX6_feed 63 = .ok (.land, 1) := by decide +kernel
theorem dX6_feed_64 : decode cX6_feed 64 = .ok (.l2i, 1) := by decide +kernel
theorem dX6_feed_65 : decode cX6_feed 65 = .ok (.iastore, 1) := by decide +kernel
theorem dX6_feed_66 : decode cX6_feed 66 = .ok (.aload_n 0, 1) := by decide +kernel
theorem dX6_feed_67 : decode cX6_feed 67 = .ok (.dup, 1) := by decide +kernel
theorem dX6_feed_68 : decode cX6_feed 68 = .ok (.getfield 71, 3) := by decide +kernel
theorem dX6_feed_71 : decode cX6_feed 71 = .ok (.iconst 1, 1) := by decide +kernel
theorem dX6_feed_72 : decode cX6_feed 72 = .ok (.iadd, 1) := by decide +kernel
theorem dX6_feed_73 : decode cX6_feed 73 = .ok (.putfield 71, 3) := by decide +kernel
theorem dX6_feed_76 : decode cX6_feed 76 = .ok (.iinc 4 (-1), 3) := by decide +kernel
theorem dX6_feed_79 : decode cX6_feed 79 = .ok (.goto (-39), 3) := by decide +kernel
theorem dX6_feed_82 : decode cX6_feed 82 = .ok (.aload_n 0, 1) := by decide +kernel
theorem dX6_feed_83 : decode cX6_feed 83 = .ok (.getfield 71, 3) := by decide +kernel
theorem dX6_feed_86 : decode cX6_feed 86 = .ok (.ireturn, 1) := by decide +kernel
theorem dX6_byteAt_0 : decode cX6_byteAt 0 = .ok (.iload_n 1, 1) := by decide +kernel
theorem dX6_byteAt_1 : decode cX6_byteAt 1 = .ok (.aload_n 0, 1) := by decide +kernel
theorem dX6_byteAt_2 : decode cX6_byteAt 2 = .ok (.getfield 77, 3) := by decide +kernel
theorem dX6_byteAt_5 : decode cX6_byteAt 5 = .ok (.if_icmp .ge 12, 3) := by decide +kernel
theorem dX6_byteAt_8 : decode cX6_byteAt 8 = .ok (.aload_n 0, 1) := by decide +kernel
theorem dX6_byteAt_9 : decode cX6_byteAt 9 = .ok (.getfield 28, 3) := by decide +kernel
theorem dX6_byteAt_12 : decode cX6_byteAt 12 = .ok (.iload_n 1, 1) := by decide +kernel
theorem dX6_byteAt_13 : decode cX6_byteAt 13 = .ok (.iaload, 1) := by decide +kernel
theorem dX6_byteAt_14 : decode cX6_byteAt 14 = .ok (.goto 5, 3) := by decide +kernel
theorem dX6_byteAt_17 : decode cX6_byteAt 17 = .ok (.ldc 80, 2) := by decide +kernel
theorem dX6_byteAt_19 : decode cX6_byteAt 19 = .ok (.ireturn, 1) := by decide +kernel
theorem dX6_isLetter_0 : decode cX6_isLetter 0 = .ok (.iload_n 0, 1) := by decide +kernel
theorem dX6_isLetter_1 : decode cX6_isLetter 1 = .ok (.bipush 97, 2) := by decide +kernel
theorem dX6_isLetter_3 : decode cX6_isLetter 3 = .ok (.if_icmp .lt 13, 3) := by decide +kernel
theorem dX6_isLetter_6 : decode cX6_isLetter 6 = .ok (.iload_n 0, 1) := by decide +kernel
theorem dX6_isLetter_7 : decode cX6_isLetter 7 = .ok (.bipush 122, 2) := by decide +kernel
theorem dX6_isLetter_9 : decode cX6_isLetter 9 = .ok (.if_icmp .gt 7, 3) := by decide +kernel
theorem dX6_isLetter_12 : decode cX6_isLetter 12 = .ok (.iconst 1, 1) := by decide +kernel
theorem dX6_isLetter_13 : decode cX6_isLetter 13 = .ok (.goto 4, 3) := by decide +kernel
theorem dX6_isLetter_16 : decode cX6_isLetter 16 = .ok (.iconst 0, 1) := by decide +kernel
theorem dX6_isLetter_17 : decode cX6_isLetter 17 = .ok (.ireturn, 1) := by decide +kernel
theorem dX6_isFigure_0 : decode cX6_isFigure 0 = .ok (.iload_n 0, 1) := by decide +kernel
theorem dX6_isFigure_1 : decode cX6_isFigure 1 = .ok (.bipush 48, 2) := by decide +kernel
theorem dX6_isFigure_3 : decode cX6_isFigure 3 = .ok (.if_icmp .lt 13, 3) := by decide +kernel
theorem dX6_isFigure_6 : decode cX6_isFigure 6 = .ok (.iload_n 0, 1) := by decide +kernel
theorem dX6_isFigure_7 : decode cX6_isFigure 7 = .ok (.bipush 57, 2) := by decide +kernel
theorem dX6_isFigure_9 : decode cX6_isFigure 9 = .ok (.if_icmp .gt 7, 3) := by decide +kernel
theorem dX6_isFigure_12 : decode cX6_isFigure 12 = .ok (.iconst 1, 1) := by decide +kernel
theorem dX6_isFigure_13 : decode cX6_isFigure 13 = .ok (.goto 4, 3) := by decide +kernel
theorem dX6_isFigure_16 : decode cX6_isFigure 16 = .ok (.iconst 0, 1) := by decide +kernel
theorem dX6_isFigure_17 : decode cX6_isFigure 17 = .ok (.ireturn, 1) := by decide +kernel
theorem dX6_next_0 : decode cX6_next 0 = .ok (.aload_n 0, 1) := by decide +kernel
theorem dX6_next_1 : decode cX6_next 1 = .ok (.aload_n 0, 1) := by decide +kernel
theorem dX6_next_2 : decode cX6_next 2 = .ok (.getfield 81, 3) := by decide +kernel
theorem dX6_next_5 : decode cX6_next 5 = .ok (.invokevirtual 84, 3) := by decide +kernel
theorem dX6_next_8 : decode cX6_next 8 = .ok (.bipush 32, 2) := by decide +kernel
theorem dX6_next_10 : decode cX6_next 10 = .ok (.if_icmp .eq 16, 3) := by decide +kernel
theorem dX6_next_13 : decode cX6_next 13 = .ok (.aload_n 0, 1) := by decide +kernel
theorem dX6_next_14 : decode cX6_next 14 = .ok (.aload_n 0, 1) := by decide +kernel
theorem dX6_next_15 : decode cX6_next 15 = .ok (.getfield 81, 3) := by decide +kernel
theorem dX6_next_18 : decode cX6_next 18 = .ok (.invokevirtual 84, 3) := by decide +kernel
theorem dX6_next_21 : decode cX6_next 21 = .ok (.bipush 10, 2) := by decide +kernel
theorem dX6_next_23 : decode cX6_next 23 = .ok (.if_icmp .ne 16, 3) := by decide +kernel
theorem dX6_next_26 : decode cX6_next 26 = .ok (.aload_n 0, 1) := by decide +kernel
theorem dX6_next_27 : decode cX6_next 27 = .ok (.dup, 1) := by decide +kernel
theorem dX6_next_28 : decode cX6_next 28 = .ok (.getfield 81, 3) := by decide +kernel
theorem dX6_next_31 : decode cX6_next 31 = .ok (.iconst 1, 1) := by decide +kernel
theorem dX6_next_32 : decode cX6_next 32 = .ok (.iadd, 1) := by decide +kernel
theorem dX6_next_33 : decode cX6_next 33 = .ok (.putfield 81, 3) := by decide +kernel
theorem dX6_next_36 : decode cX6_next 36 = .ok (.goto (-36), 3) := by decide +kernel
theorem dX6_next_39 : decode cX6_next 39 = .ok (.aload_n 0, 1) := by decide +kernel
theorem dX6_next_40 : decode cX6_next 40 = .ok (.aload_n 0, 1) := by decide +kernel
theorem dX6_next_41 : decode cX6_next 41 = .ok (.getfield 81, 3) := by decide +kernel
theorem dX6_next_44 : decode cX6_next 44 = .ok (.putfield 87, 3) := by decide +kernel
theorem dX6_next_47 : decode cX6_next 47 = .ok (.aload_n 0, 1) := by decide +kernel
theorem dX6_next_48 : decode cX6_next 48 = .ok (.aload_n 0, 1) := by decide +kernel
theorem dX6_next_49 : decode cX6_next 49 = .ok (.getfield 81, 3) := by decide +kernel
theorem dX6_next_52 : decode cX6_next 52 = .ok (.invokevirtual 84, 3) := by decide +kernel
theorem dX6_next_55 : decode cX6_next 55 = .ok (.istore_n 1, 1) := by decide +kernel
theorem dX6_next_56 : decode cX6_next 56 = .ok (.iload_n 1, 1) := by decide +kernel
theorem dX6_next_57 : decode cX6_next 57 = .ok (.ldc 80, 2) := by decide +kernel
theorem dX6_next_59 : decode cX6_next 59 = .ok (.if_icmp .ne 11, 3) := by decide +kernel
theorem dX6_next_62 : decode cX6_next 62 = .ok (.aload_n 0, 1) := by decide +kernel
theorem dX6_next_63 : decode cX6_next 63 = .ok (.iconst 1, 1) := by decide +kernel
theorem dX6_next_64 : decode cX6_next 64 = .ok (.putfield 90, 3) := by decide +kernel
theorem dX6_next_67 : decode cX6_next 67 = .ok (.goto 129, 3) := by decide +kernel
theorem dX6_next_70 : decode cX6_next 70 = .ok (.iload_n 1, 1) := by decide +kernel
theorem dX6_next_71 : decode cX6_next 71 = .ok (.invokestatic 93, 3) := by decide +kernel
theorem dX6_next_74 : decode cX6_next 74 = .ok (.ifCond .eq 38, 3) := by decide +kernel
theorem dX6_next_77 : decode cX6_next 77 = .ok (.aload_n 0, 1) := by decide +kernel
theorem dX6_next_78 : decode cX6_next 78 = .ok (.aload_n 0, 1) := by decide +kernel
theorem dX6_next_79 : decode cX6_next 79 = .ok (.getfield 81, 3) := by decide +kernel
theorem dX6_next_82 : decode cX6_next 82 = .ok (.invokevirtual 84, 3) := by decide +kernel
theorem dX6_next_85 : decode cX6_next 85 = .ok (.invokestatic 93, 3) := by decide +kernel
theorem dX6_next_88 : decode cX6_next 88 = .ok (.ifCond .eq 16, 3) := by decide +kernel
theorem dX6_next_91 : decode cX6_next 91 = .ok (.aload_n 0, 1) := by decide +kernel
theorem dX6_next_92 : decode cX6_next 92 = .ok (.dup, 1) := by decide +kernel
theorem dX6_next_93 : decode cX6_next 93 = .ok (.getfield 81, 3) := by decide +kernel
theorem dX6_next_96 : decode cX6_next 96 = .ok (.iconst 1, 1) := by decide +kernel
theorem dX6_next_97 : decode cX6_next 97 = .ok (.iadd, 1) := by decide +kernel
theorem dX6_next_98 : decode cX6_next 98 = .ok (.putfield 81, 3) := by decide +kernel
theorem dX6_next_101 : decode cX6_next 101 = .ok (.goto (-24), 3) := by decide +kernel
theorem dX6_next_104 : decode cX6_next 104 = .ok (.aload_n 0, 1) := by decide +kernel
theorem dX6_next_105 : decode cX6_next 105 = .ok (.iconst 2, 1) := by decide +kernel
theorem dX6_next_106 : decode cX6_next 106 = .ok (.putfield 90, 3) := by decide +kernel
theorem dX6_next_109 : decode cX6_next 109 = .ok (.goto 87, 3) := by decide +kernel
theorem dX6_next_112 : decode cX6_next 112 = .ok (.iload_n 1, 1) := by decide +kernel
theorem dX6_next_113 : decode cX6_next 113 = .ok (.invokestatic 96, 3) := by decide +kernel
theorem dX6_next_116 : decode cX6_next 116 = .ok (.ifCond .eq 55, 3) := by decide +kernel
theorem dX6_next_119 : decode cX6_next 119 = .ok (.aload_n 0, 1) := by decide +kernel
theorem dX6_next_120 : decode cX6_next 120 = .ok (.aload_n 0, 1) := by decide +kernel
theorem dX6_next_121 : decode cX6_next 121 = .ok (.getfield 81, 3) := by decide +kernel
theorem dX6_next_124 : decode cX6_next 124 = .ok (.invokevirtual 84, 3) := by decide +kernel
theorem dX6_next_127 : decode cX6_next 127 = .ok (.invokestatic 96, 3) := by decide +kernel
theorem dX6_next_130 : decode cX6_next 130 = .ok (.ifCond .eq 16, 3) := by decide +kernel
theorem dX6_next_133 : decode cX6_next 133 = .ok (.aload_n 0, 1) := by decide +kernel
theorem dX6_next_134 : decode cX6_next 134 = .ok (.dup, 1) := by decide +kernel
theorem dX6_next_135 : decode cX6_next 135 = .ok (.getfield 81, 3) := by decide +kernel
theorem dX6_next_138 : decode cX6_next 138 = .ok (.iconst 1, 1) := by decide +kernel
theorem dX6_next_139 : decode cX6_next 139 = .ok (.iadd, 1) := by decide +kernel
theorem dX6_next_140 : decode cX6_next 140 = .ok (.putfield 81, 3) := by decide +kernel
theorem dX6_next_143 : decode cX6_next 143 = .ok (.goto (-24), 3) := by decide +kernel
theorem dX6_next_146 : decode cX6_next 146 = .ok (.aload_n 0, 1) := by decide +kernel
theorem dX6_next_147 : decode cX6_next 147 = .ok (.aload_n 0, 1) := by decide +kernel
theorem dX6_next_148 : decode cX6_next 148 = .ok (.getfield 81, 3) := by decide +kernel
theorem dX6_next_151 : decode cX6_next 151 = .ok (.aload_n 0, 1) := by decide +kernel
theorem dX6_next_152 : decode cX6_next 152 = .ok (.getfield 87, 3) := by decide +kernel
theorem dX6_next_155 : decode cX6_next 155 = .ok (.isub, 1) := by decide +kernel
theorem dX6_next_156 : decode cX6_next 156 = .ok (.iconst 3, 1) := by decide +kernel
theorem dX6_next_157 : decode cX6_next 157 = .ok (.if_icmp .le 7, 3) := by decide +kernel
theorem dX6_next_160 : decode cX6_next 160 = .ok (.iconst 0, 1) := by decide +kernel
theorem dX6_next_161 : decode cX6_next 161 = .ok (.goto 4, 3) := by decide +kernel
theorem dX6_next_164 : decode cX6_next 164 = .ok (.iconst 3, 1) := by decide +kernel
theorem dX6_next_165 : decode cX6_next 165 = .ok (.putfield 90, 3) := by decide +kernel
theorem dX6_next_168 : decode cX6_next 168 = .ok (.goto 28, 3) := by decide +kernel
theorem dX6_next_171 : decode cX6_next 171 = .ok (.aload_n 0, 1) := by decide +kernel
theorem dX6_next_172 : decode cX6_next 172 = .ok (.dup, 1) := by decide +kernel
theorem dX6_next_173 : decode cX6_next 173 = .ok (.getfield 81, 3) := by decide +kernel
theorem dX6_next_176 : decode cX6_next 176 = .ok (.iconst 1, 1) := by decide +kernel
theorem dX6_next_177 : decode cX6_next 177 = .ok (.iadd, 1) := by decide +kernel
theorem dX6_next_178 : decode cX6_next 178 = .ok (.putfield 81, 3) := by decide +kernel
theorem dX6_next_181 : decode cX6_next 181 = .ok (.aload_n 0, 1) := by decide +kernel
theorem dX6_next_182 : decode cX6_next 182 = .ok (.iload_n 1, 1) := by decide +kernel
theorem dX6_next_183 : decode cX6_next 183 = .ok (.bipush 59, 2) := by decide +kernel
theorem dX6_next_185 : decode cX6_next 185 = .ok (.if_icmp .ne 7, 3) := by decide +kernel
theorem dX6_next_188 : decode cX6_next 188 = .ok (.iconst 4, 1) := by decide +kernel
theorem dX6_next_189 : decode cX6_next 189 = .ok (.goto 4, 3) := by decide +kernel
theorem dX6_next_192 : decode cX6_next 192 = .ok (.iconst 0, 1) := by decide +kernel
theorem dX6_next_193 : decode cX6_next 193 = .ok (.putfield 90, 3) := by decide +kernel
theorem dX6_next_196 : decode cX6_next 196 = .ok (.aload_n 0, 1) := by decide +kernel
theorem dX6_next_197 : decode cX6_next 197 = .ok (.aload_n 0, 1) := by decide +kernel
theorem dX6_next_198 : decode cX6_next 198 = .ok (.getfield 81, 3) := by decide +kernel
theorem dX6_next_201 : decode cX6_next 201 = .ok (.putfield 99, 3) := by decide +kernel
theorem dX6_next_204 : decode cX6_next 204 = .ok (.return_, 1) := by decide +kernel
theorem dX6_begin_0 : decode cX6_begin 0 = .ok (.aload_n 0, 1) := by decide +kernel
theorem dX6_begin_1 : decode cX6_begin 1 = .ok (.aload_n 0, 1) := by decide +kernel
theorem dX6_begin_2 : decode cX6_begin 2 = .ok (.getfield 71, 3) := by decide +kernel
theorem dX6_begin_5 : decode cX6_begin 5 = .ok (.putfield 77, 3) := by decide +kernel
theorem dX6_begin_8 : decode cX6_begin 8 = .ok (.aload_n 0, 1) := by decide +kernel
theorem dX6_begin_9 : decode cX6_begin 9 = .ok (.iconst 0, 1) := by decide +kernel
theorem dX6_begin_10 : decode cX6_begin 10 = .ok (.putfield 71, 3) := by decide +kernel
theorem dX6_begin_13 : decode cX6_begin 13 = .ok (.aload_n 0, 1) := by decide +kernel
theorem dX6_begin_14 : decode cX6_begin 14 = .ok (.iconst 0, 1) := by decide +kernel
theorem dX6_begin_15 : decode cX6_begin 15 = .ok (.putfield 81, 3) := by decide +kernel
theorem dX6_begin_18 : decode cX6_begin 18 = .ok (.aload_n 0, 1) := by decide +kernel
theorem dX6_begin_19 : decode cX6_begin 19 = .ok (.iconst 0, 1) := by decide +kernel
theorem dX6_begin_20 : decode cX6_begin 20 = .ok (.putfield 102, 3) := by decide +kernel
theorem dX6_begin_23 : decode cX6_begin 23 = .ok (.aload_n 0, 1) := by decide +kernel
theorem dX6_begin_24 : decode cX6_begin 24 = .ok (.invokevirtual 105, 3) := by decide +kernel
theorem dX6_begin_27 : decode cX6_begin 27 = .ok (.return_, 1) := by decide +kernel
theorem dX6_bad_0 : decode cX6_bad 0 = .ok (.aload_n 0, 1) := by decide +kernel
theorem dX6_bad_1 : decode cX6_bad 1 = .ok (.getfield 102, 3) := by decide +kernel
theorem dX6_bad_4 : decode cX6_bad 4 = .ok (.ifCond .ne 16, 3) := by decide +kernel
theorem dX6_bad_7 : decode cX6_bad 7 = .ok (.aload_n 0, 1) := by decide +kernel
theorem dX6_bad_8 : decode cX6_bad 8 = .ok (.iload_n 1, 1) := by decide +kernel
theorem dX6_bad_9 : decode cX6_bad 9 = .ok (.putfield 102, 3) := by decide +kernel
theorem dX6_bad_12 : decode cX6_bad 12 = .ok (.aload_n 0, 1) := by decide +kernel
theorem dX6_bad_13 : decode cX6_bad 13 = .ok (.aload_n 0, 1) := by decide +kernel
theorem dX6_bad_14 : decode cX6_bad 14 = .ok (.getfield 87, 3) := by decide +kernel
theorem dX6_bad_17 : decode cX6_bad 17 = .ok (.putfield 108, 3) := by decide +kernel
theorem dX6_bad_20 : decode cX6_bad 20 = .ok (.return_, 1) := by decide +kernel
theorem dX6_must_0 : decode cX6_must 0 = .ok (.iload_n 1, 1) := by decide +kernel
theorem dX6_must_1 : decode cX6_must 1 = .ok (.ifCond .ne 8, 3) := by decide +kernel
theorem dX6_must_4 : decode cX6_must 4 = .ok (.aload_n 0, 1) := by decide +kernel
theorem dX6_must_5 : decode cX6_must 5 = .ok (.iconst 1, 1) := by decide +kernel
theorem dX6_must_6 : decode cX6_must 6 = .ok (.invokevirtual 111, 3) := by decide +kernel
theorem dX6_must_9 : decode cX6_must 9 = .ok (.aload_n 0, 1) := by decide +kernel
theorem dX6_must_10 : decode cX6_must 10 = .ok (.getfield 102, 3) := by decide +kernel
theorem dX6_must_13 : decode cX6_must 13 = .ok (.ifCond .ne 7, 3) := by decide +kernel
theorem dX6_must_16 : decode cX6_must 16 = .ok (.aload_n 0, 1) := by decide +kernel
theorem dX6_must_17 : decode cX6_must 17 = .ok (.invokevirtual 105, 3) := by decide +kernel
theorem dX6_must_20 : decode cX6_must 20 = .ok (.return_, 1) := by decide +kernel
theorem dX6_name_0 : decode cX6_name 0 = .ok (.lconst 0, 1) := by decide +kernel
theorem dX6_name_1 : decode cX6_name 1 = .ok (.lstore_n 1, 1) := by decide +kernel
theorem dX6_name_2 : decode cX6_name 2 = .ok (.aload_n 0, 1) := by decide +kernel
theorem dX6_name_3 : decode cX6_name 3 = .ok (.getfield 87, 3) := by decide +kernel
theorem dX6_name_6 : decode cX6_name 6 = .ok (.istore_n 3, 1) := by decide +kernel
theorem dX6_name_7 : decode cX6_name 7 = .ok (.iload_n 3, 1) := by decide +kernel
theorem dX6_name_8 : decode cX6_name 8 = .ok (.aload_n 0, 1) := by decide +kernel
theorem dX6_name_9 : decode cX6_name 9 = .ok (.getfield 99, 3) := by decide +kernel
theorem dX6_name_12 : decode cX6_name 12 = .ok (.if_icmp .ge 44, 3) := by decide +kernel
theorem dX6_name_15 : decode cX6_name 15 = .ok (.aload_n 0, 1) := by decide +kernel
theorem dX6_name_16 : decode cX6_name 16 = .ok (.getfield 90, 3) := by decide +kernel
theorem dX6_name_19 : decode cX6_name 19 = .ok (.iconst 2, 1) := by decide +kernel
theorem dX6_name_20 : decode cX6_name 20 = .ok (.if_icmp .ne 36, 3) := by decide +kernel
theorem dX6_name_23 : decode cX6_name 23 = .ok (.aload_n 0, 1) := by decide +kernel
theorem dX6_name_24 : decode cX6_name 24 = .ok (.getfield 99, 3) := by decide +kernel
theorem dX6_name_27 : decode cX6_name 27 = .ok (.aload_n 0, 1) := by decide +kernel
theorem dX6_name_28 : decode cX6_name 28 = .ok (.getfield 87, 3) := by decide +kernel
theorem dX6_name_31 : decode cX6_name 31 = .ok (.isub, 1) := by decide +kernel
theorem dX6_name_32 : decode cX6_name 32 = .ok (.bipush 8, 2) := by decide +kernel
theorem dX6_name_34 : decode cX6_name 34 = .ok (.if_icmp .ge 22, 3) := by decide +kernel
theorem dX6_name_37 : decode cX6_name 37 = .ok (.lload_n 1, 1) := by decide +kernel
theorem dX6_name_38 : decode cX6_name 38 = .ok (.bipush 8, 2) := by decide +kernel
theorem dX6_name_40 : decode cX6_name 40 = .ok (.lshl, 1) := by decide +kernel
theorem dX6_name_41 : decode cX6_name 41 = .ok (.aload_n 0, 1) := by decide +kernel
theorem dX6_name_42 : decode cX6_name 42 = .ok (.getfield 28, 3) := by decide +kernel
theorem dX6_name_45 : decode cX6_name 45 = .ok (.iload_n 3, 1) := by decide +kernel
theorem dX6_name_46 : decode cX6_name 46 = .ok (.iaload, 1) := by decide +kernel
theorem dX6_name_47 : decode cX6_name 47 = .ok (.i2l, 1) := by decide +kernel
theorem dX6_name_48 : decode cX6_name 48 = .ok (.lor, 1) := by decide +kernel
theorem dX6_name_49 : decode cX6_name 49 = .ok (.lstore_n 1, 1) := by decide +kernel
theorem dX6_name_50 : decode cX6_name 50 = .ok (.iinc 3 1, 3) := by decide +kernel
theorem dX6_name_53 : decode cX6_name 53 = .ok (.goto (-46), 3) := by decide +kernel
theorem dX6_name_56 : decode cX6_name 56 = .ok (.aload_n 0, 1) := by decide +kernel
theorem dX6_name_57 : decode cX6_name 57 = .ok (.getfield 102, 3) := by decide +kernel
theorem dX6_name_60 : decode cX6_name 60 = .ok (.ifCond .ne 7, 3) := by decide +kernel
theorem dX6_name_63 : decode cX6_name 63 = .ok (.lload_n 1, 1) := by decide +kernel
theorem dX6_name_64 : decode cX6_name 64 = .ok (.goto 4, 3) := by decide +kernel
theorem dX6_name_67 : decode cX6_name 67 = .ok (.lconst 0, 1) := by decide +kernel
theorem dX6_name_68 : decode cX6_name 68 = .ok (.lreturn, 1) := by decide +kernel
theorem dX6_figures_0 : decode cX6_figures 0 = .ok (.iconst 0, 1) := by decide +kernel
theorem dX6_figures_1 : decode cX6_figures 1 = .ok (.istore_n 1, 1) := by decide +kernel
theorem dX6_figures_2 : decode cX6_figures 2 = .ok (.aload_n 0, 1) := by decide +kernel
theorem dX6_figures_3 : decode cX6_figures 3 = .ok (.getfield 87, 3) := by decide +kernel
theorem dX6_figures_6 : decode cX6_figures 6 = .ok (.istore_n 2, 1) := by decide +kernel
theorem dX6_figures_7 : decode cX6_figures 7 = .ok (.iload_n 2, 1) := by decide +kernel
theorem dX6_figures_8 : decode cX6_figures 8 = .ok (.aload_n 0, 1) := by decide +kernel
theorem dX6_figures_9 : decode cX6_figures 9 = .ok (.getfield 99, 3) := by decide +kernel
theorem dX6_figures_12 : decode cX6_figures 12 = .ok (.if_icmp .ge 32, 3) := by decide +kernel
theorem dX6_figures_15 : decode cX6_figures 15 = .ok (.aload_n 0, 1) := by decide +kernel
theorem dX6_figures_16 : decode cX6_figures 16 = .ok (.getfield 90, 3) := by decide +kernel
theorem dX6_figures_19 : decode cX6_figures 19 = .ok (.iconst 3, 1) := by decide +kernel
theorem dX6_figures_20 : decode cX6_figures 20 = .ok (.if_icmp .ne 24, 3) := by decide +kernel
theorem dX6_figures_23 : decode cX6_figures 23 = .ok (.bipush 10, 2) := by decide +kernel
theorem dX6_figures_25 : decode cX6_figures 25 = .ok (.iload_n 1, 1) := by decide +kernel
theorem dX6_figures_26 : decode cX6_figures 26 = .ok (.imul, 1) := by decide +kernel
theorem dX6_figures_27 : decode cX6_figures 27 = .ok (.aload_n 0, 1) := by decide +kernel
theorem dX6_figures_28 : decode cX6_figures 28 = .ok (.getfield 28, 3) := by decide +kernel
theorem dX6_figures_31 : decode cX6_figures 31 = .ok (.iload_n 2, 1) := by decide +kernel
theorem dX6_figures_32 : decode cX6_figures 32 = .ok (.iaload, 1) := by decide +kernel
theorem dX6_figures_33 : decode cX6_figures 33 = .ok (.iadd, 1) := by decide +kernel
theorem dX6_figures_34 : decode cX6_figures 34 = .ok (.bipush 48, 2) := by decide +kernel
theorem dX6_figures_36 : decode cX6_figures 36 = .ok (.isub, 1) := by decide +kernel
theorem dX6_figures_37 : decode cX6_figures 37 = .ok (.istore_n 1, 1) := by decide +kernel
theorem dX6_figures_38 : decode cX6_figures 38 = .ok (.iinc 2 1, 3) := by decide +kernel
theorem dX6_figures_41 : decode cX6_figures 41 = .ok (.goto (-34), 3) := by decide +kernel
theorem dX6_figures_44 : decode cX6_figures 44 = .ok (.iload_n 1, 1) := by decide +kernel
theorem dX6_figures_45 : decode cX6_figures 45 = .ok (.ireturn, 1) := by decide +kernel
theorem dX6_number_0 : decode cX6_number 0 = .ok (.aload_n 0, 1) := by decide +kernel
theorem dX6_number_1 : decode cX6_number 1 = .ok (.getfield 102, 3) := by decide +kernel
theorem dX6_number_4 : decode cX6_number 4 = .ok (.ifCond .le 5, 3) := by decide +kernel
theorem dX6_number_7 : decode cX6_number 7 = .ok (.iconst 0, 1) := by decide +kernel
theorem dX6_number_8 : decode cX6_number 8 = .ok (.ireturn, 1) := by decide +kernel
theorem dX6_number_9 : decode cX6_number 9 = .ok (.aload_n 0, 1) := by decide +kernel
theorem dX6_number_10 : decode cX6_number 10 = .ok (.invokevirtual 115, 3) := by decide +kernel
theorem dX6_number_13 : decode cX6_number 13 = .ok (.istore_n 3, 1) := by decide +kernel
theorem dX6_number_14 : decode cX6_number 14 = .ok (.aload_n 0, 1) := by decide +kernel
theorem dX6_number_15 : decode cX6_number 15 = .ok (.getfield 90, 3) := by decide +kernel
theorem dX6_number_18 : decode cX6_number 18 = .ok (.iconst 3, 1) := by decide +kernel
theorem dX6_number_19 : decode cX6_number 19 = .ok (.if_icmp .ne 20, 3) := by decide +kernel
theorem dX6_number_22 : decode cX6_number 22 = .ok (.iload_n 3, 1) := by decide +kernel
theorem dX6_number_23 : decode cX6_number 23 = .ok (.i2l, 1) := by decide +kernel
theorem dX6_number_24 : decode cX6_number 24 = .ok (.iload_n 1, 1) := by decide +kernel
theorem dX6_number_25 : decode cX6_number 25 = .ok (.i2l, 1) := by decide +kernel
theorem dX6_number_26 : decode cX6_number 26 = .ok (.iload_n 2, 1) := by decide +kernel
theorem dX6_number_27 : decode cX6_number 27 = .ok (.i2l, 1) := by decide +kernel
theorem dX6_number_28 : decode cX6_number 28 = .ok (.invokestatic 54, 3) := by decide +kernel
theorem dX6_number_31 : decode cX6_number 31 = .ok (.ifCond .ne 8, 3) := by decide +kernel
theorem dX6_number_34 : decode cX6_number 34 = .ok (.aload_n 0, 1) := by decide +kernel
theorem dX6_number_35 : decode cX6_number 35 = .ok (.iconst 2, 1) := by decide +kernel
theorem dX6_number_36 : decode cX6_number 36 = .ok (.invokevirtual 111, 3) := by decide +kernel
theorem dX6_number_39 : decode cX6_number 39 = .ok (.aload_n 0, 1) := by decide +kernel
theorem dX6_number_40 : decode cX6_number 40 = .ok (.aload_n 0, 1) := by decide +kernel
theorem dX6_number_41 : decode cX6_number 41 = .ok (.getfield 90, 3) := by decide +kernel
theorem dX6_number_44 : decode cX6_number 44 = .ok (.iconst 3, 1) := by decide +kernel
theorem dX6_number_45 : decode cX6_number 45 = .ok (.if_icmp .ne 7, 3) := by decide +kernel
theorem dX6_number_48 : decode cX6_number 48 = .ok (.iconst 1, 1) := by decide +kernel
theorem dX6_number_49 : decode cX6_number 49 = .ok (.goto 4, 3) := by decide +kernel
theorem dX6_number_52 : decode cX6_number 52 = .ok (.iconst 0, 1) := by decide +kernel
theorem dX6_number_53 : decode cX6_number 53 = .ok (.invokevirtual 119, 3) := by decide +kernel
theorem dX6_number_56 : decode cX6_number 56 = .ok (.iload_n 3, 1) := by decide +kernel
theorem dX6_number_57 : decode cX6_number 57 = .ok (.ireturn, 1) := by decide +kernel
theorem dX6_kindBy_0 : decode cX6_kindBy 0 = .ok (.lload_n 0, 1) := by decide +kernel
theorem dX6_kindBy_1 : decode cX6_kindBy 1 = .ok (.ldc2_w 123, 3) := by decide +kernel
theorem dX6_kindBy_4 : decode cX6_kindBy 4 = .ok (.lcmp, 1) := by decide +kernel
theorem dX6_kindBy_5 : decode cX6_kindBy 5 = .ok (.ifCond .ne 7, 3) := by decide +kernel
theorem dX6_kindBy_8 : decode cX6_kindBy 8 = .ok (.iconst 1, 1) := by decide +kernel
theorem dX6_kindBy_9 : decode cX6_kindBy 9 = .ok (.goto 53, 3) := by decide +kernel
theorem dX6_kindBy_12 : decode cX6_kindBy 12 = .ok (.lload_n 0, 1) := by decide +kernel
theorem dX6_kindBy_13 : decode cX6_kindBy 13 = .ok (.ldc2_w 125, 3) := by decide +kernel
theorem dX6_kindBy_16 : decode cX6_kindBy 16 = .ok (.lcmp, 1) := by decide +kernel
theorem dX6_kindBy_17 : decode cX6_kindBy 17 = .ok (.ifCond .ne 7, 3) := by decide +kernel
theorem dX6_kindBy_20 : decode cX6_kindBy 20 = .ok (.iconst 3, 1) := by decide +kernel
theorem dX6_kindBy_21 : decode cX6_kindBy 21 = .ok (.goto 41, 3) := by decide +kernel
theorem dX6_kindBy_24 : decode cX6_kindBy 24 = .ok (.lload_n 0, 1) := by decide +kernel
theorem dX6_kindBy_25 : decode cX6_kindBy 25 = .ok (.ldc2_w 127, 3) := by decide +kernel
theorem dX6_kindBy_28 : decode cX6_kindBy 28 = .ok (.lcmp, 1) := by decide +kernel
theorem dX6_kindBy_29 : decode cX6_kindBy 29 = .ok (.ifCond .ne 7, 3) := by decide +kernel
theorem dX6_kindBy_32 : decode cX6_kindBy 32 = .ok (.iconst 2, 1) := by decide +kernel
theorem dX6_kindBy_33 : decode cX6_kindBy 33 = .ok (.goto 29, 3) := by decide +kernel
theorem dX6_kindBy_36 : decode cX6_kindBy 36 = .ok (.lload_n 0, 1) := by decide +kernel
theorem dX6_kindBy_37 : decode cX6_kindBy 37 = .ok (.ldc2_w 129, 3) := by decide +kernel
theorem dX6_kindBy_40 : decode cX6_kindBy 40 = .ok (.lcmp, 1) := by decide +kernel
theorem dX6_kindBy_41 : decode cX6_kindBy 41 = .ok (.ifCond .ne 7, 3) := by decide +kernel
theorem dX6_kindBy_44 : decode cX6_kindBy 44 = .ok (.iconst 4, 1) := by decide +kernel
theorem dX6_kindBy_45 : decode cX6_kindBy 45 = .ok (.goto 17, 3) := by decide +kernel
theorem dX6_kindBy_48 : decode cX6_kindBy 48 = .ok (.lload_n 0, 1) := by decide +kernel
theorem dX6_kindBy_49 : decode cX6_kindBy 49 = .ok (.ldc2_w 131, 3) := by decide +kernel
theorem dX6_kindBy_52 : decode cX6_kindBy 52 = .ok (.lcmp, 1) := by decide +kernel
theorem dX6_kindBy_53 : decode cX6_kindBy 53 = .ok (.ifCond .ne 7, 3) := by decide +kernel
theorem dX6_kindBy_56 : decode cX6_kindBy 56 = .ok (.iconst 5, 1) := by decide +kernel
theorem dX6_kindBy_57 : decode cX6_kindBy 57 = .ok (.goto 5, 3) := by decide +kernel
theorem dX6_kindBy_60 : decode cX6_kindBy 60 = .ok (.ldc 80, 2) := by decide +kernel
theorem dX6_kindBy_62 : decode cX6_kindBy 62 = .ok (.ireturn, 1) := by decide +kernel
theorem dX6_mustEnd_0 : decode cX6_mustEnd 0 = .ok (.aload_n 0, 1) := by decide +kernel
theorem dX6_mustEnd_1 : decode cX6_mustEnd 1 = .ok (.getfield 102, 3) := by decide +kernel
theorem dX6_mustEnd_4 : decode cX6_mustEnd 4 = .ok (.ifCond .ne 20, 3) := by decide +kernel
theorem dX6_mustEnd_7 : decode cX6_mustEnd 7 = .ok (.aload_n 0, 1) := by decide +kernel
theorem dX6_mustEnd_8 : decode cX6_mustEnd 8 = .ok (.aload_n 0, 1) := by decide +kernel
theorem dX6_mustEnd_9 : decode cX6_mustEnd 9 = .ok (.getfield 90, 3) := by decide +kernel
theorem dX6_mustEnd_12 : decode cX6_mustEnd 12 = .ok (.iconst 4, 1) := by decide +kernel
theorem dX6_mustEnd_13 : decode cX6_mustEnd 13 = .ok (.if_icmp .ne 7, 3) := by decide +kernel
theorem dX6_mustEnd_16 : decode cX6_mustEnd 16 = .ok (.iconst 1, 1) := by decide +kernel
theorem dX6_mustEnd_17 : decode cX6_mustEnd 17 = .ok (.goto 4, 3) := by decide +kernel
theorem dX6_mustEnd_20 : decode cX6_mustEnd 20 = .ok (.iconst 0, 1) := by decide +kernel
theorem dX6_mustEnd_21 : decode cX6_mustEnd 21 = .ok (.invokevirtual 119, 3) := by decide +kernel
theorem dX6_mustEnd_24 : decode cX6_mustEnd 24 = .ok (.return_, 1) := by decide +kernel
theorem dX6_begins_0 : decode cX6_begins 0 = .ok (.aload_n 0, 1) := by decide +kernel
theorem dX6_begins_1 : decode cX6_begins 1 = .ok (.getfield 22, 3) := by decide +kernel
theorem dX6_begins_4 : decode cX6_begins 4 = .ok (.iload_n 1, 1) := by decide +kernel
theorem dX6_begins_5 : decode cX6_begins 5 = .ok (.iaload, 1) := by decide +kernel
theorem dX6_begins_6 : decode cX6_begins 6 = .ok (.iload_n 2, 1) := by decide +kernel
theorem dX6_begins_7 : decode cX6_begins 7 = .ok (.if_icmp .ne 8, 3) := by decide +kernel
theorem dX6_begins_10 : decode cX6_begins 10 = .ok (.aload_n 0, 1) := by decide +kernel
theorem dX6_begins_11 : decode cX6_begins 11 = .ok (.iconst 3, 1) := by decide +kernel
theorem dX6_begins_12 : decode cX6_begins 12 = .ok (.invokevirtual 111, 3) := by decide +kernel
theorem dX6_begins_15 : decode cX6_begins 15 = .ok (.aload_n 0, 1) := by decide +kernel
theorem dX6_begins_16 : decode cX6_begins 16 = .ok (.iconst 1, 1) := by decide +kernel
theorem dX6_begins_17 : decode cX6_begins 17 = .ok (.invokevirtual 119, 3) := by decide +kernel
theorem dX6_begins_20 : decode cX6_begins 20 = .ok (.return_, 1) := by decide +kernel
theorem dX6_readGround_0 : decode cX6_readGround 0 = .ok (.aload_n 0, 1) := by decide +kernel
theorem dX6_readGround_1 : decode cX6_readGround 1 = .ok (.aload_n 0, 1) := by decide +kernel
theorem dX6_readGround_2 : decode cX6_readGround 2 = .ok (.invokevirtual 133, 3) := by decide +kernel
theorem dX6_readGround_5 : decode cX6_readGround 5 = .ok (.ldc2_w 137, 3) := by decide +kernel
theorem dX6_readGround_8 : decode cX6_readGround 8 = .ok (.lcmp, 1) := by decide +kernel
theorem dX6_readGround_9 : decode cX6_readGround 9 = .ok (.ifCond .ne 7, 3) := by decide +kernel
theorem dX6_readGround_12 : decode cX6_readGround 12 = .ok (.iconst 1, 1) := by decide +kernel
theorem dX6_readGround_13 : decode cX6_readGround 13 = .ok (.goto 4, 3) := by decide +kernel
theorem dX6_readGround_16 : decode cX6_readGround 16 = .ok (.iconst 0, 1) := by decide +kernel
theorem dX6_readGround_17 : decode cX6_readGround 17 = .ok (.invokevirtual 119, 3) := by decide +kernel
theorem dX6_readGround_20 : decode cX6_readGround 20 = .ok (.iconst 0, 1) := by decide +kernel
theorem dX6_readGround_21 : decode cX6_readGround 21 = .ok (.istore_n 1, 1) := by decide +kernel
theorem dX6_readGround_22 : decode cX6_readGround 22 = .ok (.iload_n 1, 1) := by decide +kernel
theorem dX6_readGround_23 : decode cX6_readGround 23 = .ok (.bipush 20, 2) := by decide +kernel
theorem dX6_readGround_25 : decode cX6_readGround 25 = .ok (.if_icmp .ge 25, 3) := by decide +kernel
theorem dX6_readGround_28 : decode cX6_readGround 28 = .ok (.aload_n 0, 1) := by decide +kernel
theorem dX6_readGround_29 : decode cX6_readGround 29 = .ok (.getfield 22, 3) := by decide +kernel
theorem dX6_readGround_32 : decode cX6_readGround 32 = .ok (.bipush 6, 2) := by decide +kernel
theorem dX6_readGround_34 : decode cX6_readGround 34 = .ok (.iload_n 1, 1) := by decide +kernel
theorem dX6_readGround_35 : decode cX6_readGround 35 = .ok (.iadd, 1) := by decide +kernel
theorem dX6_readGround_36 : decode cX6_readGround 36 = .ok (.aload_n 0, 1) := by decide +kernel
theorem dX6_readGround_37 : decode cX6_readGround 37 = .ok (.iconst 0, 1) := by decide +kernel
theorem dX6_readGround_38 : decode cX6_readGround 38 = .ok (.bipush 60, 2) := by decide +kernel
theorem dX6_readGround_40 : decode cX6_readGround 40 = .ok (.invokevirtual 139, 3) := by decide +kernel
theorem dX6_readGround_43 : decode cX6_readGround 43 = .ok (.iastore, 1) := by decide +kernel
theorem dX6_readGround_44 : decode cX6_readGround 44 = .ok (.iinc 1 1, 3) := by decide +kernel
theorem dX6_readGround_47 : decode cX6_readGround 47 = .ok (.goto (-25), 3) := by decide +kernel
theorem dX6_readGround_50 : decode cX6_readGround 50 = .ok (.aload_n 0, 1) := by decide +kernel
theorem dX6_readGround_51 : decode cX6_readGround 51 = .ok (.invokevirtual 143, 3) := by decide +kernel
theorem dX6_readGround_54 : decode cX6_readGround 54 = .ok (.return_, 1) := by decide +kernel
theorem dX6_readLake_0 : decode cX6_readLake 0 = .ok (.aload_n 0, 1) := by decide +kernel
theorem dX6_readLake_1 : decode cX6_readLake 1 = .ok (.iconst 1, 1) := by decide +kernel
theorem dX6_readLake_2 : decode cX6_readLake 2 = .ok (.invokevirtual 119, 3) := by decide +kernel
theorem dX6_readLake_5 : decode cX6_readLake 5 = .ok (.aload_n 0, 1) := by decide +kernel
theorem dX6_readLake_6 : decode cX6_readLake 6 = .ok (.iconst 0, 1) := by decide +kernel
theorem dX6_readLake_7 : decode cX6_readLake 7 = .ok (.bipush 19, 2) := by decide +kernel
theorem dX6_readLake_9 : decode cX6_readLake 9 = .ok (.invokevirtual 139, 3) := by decide +kernel
theorem dX6_readLake_12 : decode cX6_readLake 12 = .ok (.istore_n 1, 1) := by decide +kernel
theorem dX6_readLake_13 : decode cX6_readLake 13 = .ok (.aload_n 0, 1) := by decide +kernel
theorem dX6_readLake_14 : decode cX6_readLake 14 = .ok (.iload_n 1, 1) := by decide +kernel
theorem dX6_readLake_15 : decode cX6_readLake 15 = .ok (.bipush 19, 2) := by decide +kernel
theorem dX6_readLake_17 : decode cX6_readLake 17 = .ok (.invokevirtual 139, 3) := by decide +kernel
theorem dX6_readLake_20 : decode cX6_readLake 20 = .ok (.istore_n 2, 1) := by decide +kernel
theorem dX6_readLake_21 : decode cX6_readLake 21 = .ok (.aload_n 0, 1) := by decide +kernel
theorem dX6_readLake_22 : decode cX6_readLake 22 = .ok (.invokevirtual 143, 3) := by decide +kernel
theorem dX6_readLake_25 : decode cX6_readLake 25 = .ok (.aload_n 0, 1) := by decide +kernel
theorem dX6_readLake_26 : decode cX6_readLake 26 = .ok (.getfield 102, 3) := by decide +kernel
theorem dX6_readLake_29 : decode cX6_readLake 29 = .ok (.ifCond .ne 17, 3) := by decide +kernel
theorem dX6_readLake_32 : decode cX6_readLake 32 = .ok (.aload_n 0, 1) := by decide +kernel
theorem dX6_readLake_33 : decode cX6_readLake 33 = .ok (.getfield 22, 3) := by decide +kernel
theorem dX6_readLake_36 : decode cX6_readLake 36 = .ok (.iconst 4, 1) := by decide +kernel
theorem dX6_readLake_37 : decode cX6_readLake 37 = .ok (.iload_n 1, 1) := by decide +kernel
theorem dX6_readLake_38 : decode cX6_readLake 38 = .ok (.iastore, 1) := by decide +kernel
theorem dX6_readLake_39 : decode cX6_readLake 39 = .ok (.aload_n 0, 1) := by decide +kernel
theorem dX6_readLake_40 : decode cX6_readLake 40 = .ok (.getfield 22, 3) := by decide +kernel
theorem dX6_readLake_43 : decode cX6_readLake 43 = .ok (.iconst 5, 1) := by decide +kernel
theorem dX6_readLake_44 : decode cX6_readLake 44 = .ok (.iload_n 2, 1) := by decide +kernel
theorem dX6_readLake_45 : decode cX6_readLake 45 = .ok (.iastore, 1) := by decide +kernel
theorem dX6_readLake_46 : decode cX6_readLake 46 = .ok (.return_, 1) := by decide +kernel
theorem dX6_isTold_0 : decode cX6_isTold 0 = .ok (.iconst 0, 1) := by decide +kernel
theorem dX6_isTold_1 : decode cX6_isTold 1 = .ok (.istore_n 2, 1) := by decide +kernel
theorem dX6_isTold_2 : decode cX6_isTold 2 = .ok (.iconst 0, 1) := by decide +kernel
theorem dX6_isTold_3 : decode cX6_isTold 3 = .ok (.istore_n 3, 1) := by decide +kernel
theorem dX6_isTold_4 : decode cX6_isTold 4 = .ok (.iload_n 3, 1) := by decide +kernel
theorem dX6_isTold_5 : decode cX6_isTold 5 = .ok (.aload_n 0, 1) := by decide +kernel
theorem dX6_isTold_6 : decode cX6_isTold 6 = .ok (.getfield 22, 3) := by decide +kernel
theorem dX6_isTold_9 : decode cX6_isTold 9 = .ok (.iconst 0, 1) := by decide +kernel
theorem dX6_isTold_10 : decode cX6_isTold 10 = .ok (.iaload, 1) := by decide +kernel
theorem dX6_isTold_11 : decode cX6_isTold 11 = .ok (.if_icmp .ge 36, 3) := by decide +kernel
theorem dX6_isTold_14 : decode cX6_isTold 14 = .ok (.iload_n 2, 1) := by decide +kernel
theorem dX6_isTold_15 : decode cX6_isTold 15 = .ok (.ifCond .ne 20, 3) := by decide +kernel
theorem dX6_isTold_18 : decode cX6_isTold 18 = .ok (.aload_n 0, 1) := by decide +kernel
theorem dX6_isTold_19 : decode cX6_isTold 19 = .ok (.getfield 22, 3) := by decide +kernel
theorem dX6_isTold_22 : decode cX6_isTold 22 = .ok (.bipush 26, 2) := by decide +kernel
theorem dX6_isTold_24 : decode cX6_isTold 24 = .ok (.iconst 5, 1) := by decide +kernel
theorem dX6_isTold_25 : decode cX6_isTold 25 = .ok (.iload_n 3, 1) := by decide +kernel
theorem dX6_isTold_26 : decode cX6_isTold 26 = .ok (.imul, 1) := by decide +kernel
theorem dX6_isTold_27 : decode cX6_isTold 27 = .ok (.iadd, 1) := by decide +kernel
theorem dX6_isTold_28 : decode cX6_isTold 28 = .ok (.iconst 1, 1) := by decide +kernel
theorem dX6_isTold_29 : decode cX6_isTold 29 = .ok (.iadd, 1) := by decide +kernel
theorem dX6_isTold_30 : decode cX6_isTold 30 = .ok (.iaload, 1) := by decide +kernel
theorem dX6_isTold_31 : decode cX6_isTold 31 = .ok (.iload_n 1, 1) := by decide +kernel
theorem dX6_isTold_32 : decode cX6_isTold 32 = .ok (.if_icmp .ne 7, 3) := by decide +kernel
theorem dX6_isTold_35 : decode cX6_isTold 35 = .ok (.iconst 1, 1) := by decide +kernel
theorem dX6_isTold_36 : decode cX6_isTold 36 = .ok (.goto 4, 3) := by decide +kernel
theorem dX6_isTold_39 : decode cX6_isTold 39 = .ok (.iconst 0, 1) := by decide +kernel
theorem dX6_isTold_40 : decode cX6_isTold 40 = .ok (.istore_n 2, 1) := by decide +kernel
theorem dX6_isTold_41 : decode cX6_isTold 41 = .ok (.iinc 3 1, 3) := by decide +kernel
theorem dX6_isTold_44 : decode cX6_isTold 44 = .ok (.goto (-40), 3) := by decide +kernel
theorem dX6_isTold_47 : decode cX6_isTold 47 = .ok (.iload_n 2, 1) := by decide +kernel
theorem dX6_isTold_48 : decode cX6_isTold 48 = .ok (.ireturn, 1) := by decide +kernel
theorem dX6_readTree_0 : decode cX6_readTree 0 = .ok (.aload_n 0, 1) := by decide +kernel
theorem dX6_readTree_1 : decode cX6_readTree 1 = .ok (.iconst 0, 1) := by decide +kernel
theorem dX6_readTree_2 : decode cX6_readTree 2 = .ok (.bipush 6, 2) := by decide +kernel
theorem dX6_readTree_4 : decode cX6_readTree 4 = .ok (.invokevirtual 146, 3) := by decide +kernel
theorem dX6_readTree_7 : decode cX6_readTree 7 = .ok (.aload_n 0, 1) := by decide +kernel
theorem dX6_readTree_8 : decode cX6_readTree 8 = .ok (.invokevirtual 133, 3) := by decide +kernel
theorem dX6_readTree_11 : decode cX6_readTree 11 = .ok (.invokestatic 150, 3) := by decide +kernel
theorem dX6_readTree_14 : decode cX6_readTree 14 = .ok (.istore_n 1, 1) := by decide +kernel
theorem dX6_readTree_15 : decode cX6_readTree 15 = .ok (.aload_n 0, 1) := by decide +kernel
theorem dX6_readTree_16 : decode cX6_readTree 16 = .ok (.getfield 102, 3) := by decide +kernel
theorem dX6_readTree_19 : decode cX6_readTree 19 = .ok (.ifCond .ne 18, 3) := by decide +kernel
theorem dX6_readTree_22 : decode cX6_readTree 22 = .ok (.aload_n 0, 1) := by decide +kernel
theorem dX6_readTree_23 : decode cX6_readTree 23 = .ok (.iload_n 1, 1) := by decide +kernel
theorem dX6_readTree_24 : decode cX6_readTree 24 = .ok (.ldc 80, 2) := by decide +kernel
theorem dX6_readTree_26 : decode cX6_readTree 26 = .ok (.if_icmp .eq 7, 3) := by decide +kernel
theorem dX6_readTree_29 : decode cX6_readTree 29 = .ok (.iconst 1, 1) := by decide +kernel
theorem dX6_readTree_30 : decode cX6_readTree 30 = .ok (.goto 4, 3) := by decide +kernel
theorem dX6_readTree_33 : decode cX6_readTree 33 = .ok (.iconst 0, 1) := by decide +kernel
theorem dX6_readTree_34 : decode cX6_readTree 34 = .ok (.invokevirtual 119, 3) := by decide +kernel
theorem dX6_readTree_37 : decode cX6_readTree 37 = .ok (.aload_n 0, 1) := by decide +kernel
theorem dX6_readTree_38 : decode cX6_readTree 38 = .ok (.getfield 102, 3) := by decide +kernel
theorem dX6_readTree_41 : decode cX6_readTree 41 = .ok (.ifCond .ne 27, 3) := by decide +kernel
theorem dX6_readTree_44 : decode cX6_readTree 44 = .ok (.aload_n 0, 1) := by decide +kernel
theorem dX6_readTree_45 : decode cX6_readTree 45 = .ok (.getfield 90, 3) := by decide +kernel
theorem dX6_readTree_48 : decode cX6_readTree 48 = .ok (.iconst 3, 1) := by decide +kernel
theorem dX6_readTree_49 : decode cX6_readTree 49 = .ok (.if_icmp .ne 19, 3) := by decide +kernel
theorem dX6_readTree_52 : decode cX6_readTree 52 = .ok (.aload_n 0, 1) := by decide +kernel
theorem dX6_readTree_53 : decode cX6_readTree 53 = .ok (.aload_n 0, 1) := by decide +kernel
theorem dX6_readTree_54 : decode cX6_readTree 54 = .ok (.invokevirtual 115, 3) := by decide +kernel
theorem dX6_readTree_57 : decode cX6_readTree 57 = .ok (.invokevirtual 154, 3) := by decide +kernel
theorem dX6_readTree_60 : decode cX6_readTree 60 = .ok (.ifCond .eq 8, 3) := by decide +kernel
theorem dX6_readTree_63 : decode cX6_readTree 63 = .ok (.aload_n 0, 1) := by decide +kernel
theorem dX6_readTree_64 : decode cX6_readTree 64 = .ok (.iconst 2, 1) := by decide +kernel
theorem dX6_readTree_65 : decode cX6_readTree 65 = .ok (.invokevirtual 111, 3) := by decide +kernel
theorem dX6_readTree_68 : decode cX6_readTree 68 = .ok (.aload_n 0, 1) := by decide +kernel
theorem dX6_readTree_69 : decode cX6_readTree 69 = .ok (.iconst 0, 1) := by decide +kernel
theorem dX6_readTree_70 : decode cX6_readTree 70 = .ok (.bipush 19, 2) := by decide +kernel
theorem dX6_readTree_72 : decode cX6_readTree 72 = .ok (.invokevirtual 139, 3) := by decide +kernel
theorem dX6_readTree_75 : decode cX6_readTree 75 = .ok (.istore_n 2, 1) := by decide +kernel
theorem dX6_readTree_76 : decode cX6_readTree 76 = .ok (.aload_n 0, 1) := by decide +kernel
theorem dX6_readTree_77 : decode cX6_readTree 77 = .ok (.iconst 1, 1) := by decide +kernel
theorem dX6_readTree_78 : decode cX6_readTree 78 = .ok (.bipush 99, 2) := by decide +kernel
theorem dX6_readTree_80 : decode cX6_readTree 80 = .ok (.invokevirtual 139, 3) := by decide +kernel
theorem dX6_readTree_83 : decode cX6_readTree 83 = .ok (.istore_n 3, 1) := by decide +kernel
theorem dX6_readTree_84 : decode cX6_readTree 84 = .ok (.aload_n 0, 1) := by decide +kernel
theorem dX6_readTree_85 : decode cX6_readTree 85 = .ok (.iconst 0, 1) := by decide +kernel
theorem dX6_readTree_86 : decode cX6_readTree 86 = .ok (.bipush 9, 2) := by decide +kernel
theorem dX6_readTree_88 : decode cX6_readTree 88 = .ok (.invokevirtual 139, 3) := by decide +kernel
theorem dX6_readTree_91 : decode cX6_readTree 91 = .ok (.istore 4, 2) := by decide +kernel
theorem dX6_readTree_93 : decode cX6_readTree 93 = .ok (.aload_n 0, 1) := by decide +kernel
theorem dX6_readTree_94 : decode cX6_readTree 94 = .ok (.invokevirtual 143, 3) := by decide +kernel
theorem dX6_readTree_97 : decode cX6_readTree 97 = .ok (.aload_n 0, 1) := by decide +kernel
theorem dX6_readTree_98 : decode cX6_readTree 98 = .ok (.getfield 102, 3) := by decide +kernel
theorem dX6_readTree_101 : decode cX6_readTree 101 = .ok (.ifCond .ne 65, 3) := by decide +kernel
theorem dX6_readTree_104 : decode cX6_readTree 104 = .ok (.bipush 26, 2) := by decide +kernel
theorem dX6_readTree_106 : decode cX6_readTree 106 = .ok (.iconst 5, 1) := by decide +kernel
theorem dX6_readTree_107 : decode cX6_readTree 107 = .ok (.aload_n 0, 1) := by decide +kernel
theorem dX6_readTree_108 : decode cX6_readTree 108 = .ok (.getfield 22, 3) := by decide +kernel
theorem dX6_readTree_111 : decode cX6_readTree 111 = .ok (.iconst 0, 1) := by decide +kernel
theorem dX6_readTree_112 : decode cX6_readTree 112 = .ok (.iaload, 1) := by decide +kernel
theorem dX6_readTree_113 : decode cX6_readTree 113 = .ok (.imul, 1) := by decide +kernel
theorem dX6_readTree_114 : decode cX6_readTree 114 = .ok (.iadd, 1) := by decide +kernel
theorem dX6_readTree_115 : decode cX6_readTree 115 = .ok (.istore 5, 2) := by decide +kernel
theorem dX6_readTree_117 : decode cX6_readTree 117 = .ok (.aload_n 0, 1) := by decide +kernel
theorem dX6_readTree_118 : decode cX6_readTree 118 = .ok (.getfield 22, 3) := by decide +kernel
theorem dX6_readTree_121 : decode cX6_readTree 121 = .ok (.iload 5, 2) := by decide +kernel
theorem dX6_readTree_123 : decode cX6_readTree 123 = .ok (.iload_n 1, 1) := by decide +kernel
theorem dX6_readTree_124 : decode cX6_readTree 124 = .ok (.iastore, 1) := by decide +kernel
theorem dX6_readTree_125 : decode cX6_readTree 125 = .ok (.aload_n 0, 1) := by decide +kernel
theorem dX6_readTree_126 : decode cX6_readTree 126 = .ok (.getfield 22, 3) := by decide +kernel
theorem dX6_readTree_129 : decode cX6_readTree 129 = .ok (.iload 5, 2) := by decide +kernel
theorem dX6_readTree_131 : decode cX6_readTree 131 = .ok (.iconst 1, 1) := by decide +kernel
theorem dX6_readTree_132 : decode cX6_readTree 132 = .ok (.iadd, 1) := by decide +kernel
theorem dX6_readTree_133 : decode cX6_readTree 133 = .ok (.iload_n 2, 1) := by decide +kernel
theorem dX6_readTree_134 : decode cX6_readTree 134 = .ok (.iastore, 1) := by decide +kernel
theorem dX6_readTree_135 : decode cX6_readTree 135 = .ok (.aload_n 0, 1) := by decide +kernel
theorem dX6_readTree_136 : decode cX6_readTree 136 = .ok (.getfield 22, 3) := by decide +kernel
theorem dX6_readTree_139 : decode cX6_readTree 139 = .ok (.iload 5, 2) := by decide +kernel
theorem dX6_readTree_141 : decode cX6_readTree 141 = .ok (.iconst 2, 1) := by decide +kernel
theorem dX6_readTree_142 : decode cX6_readTree 142 = .ok (.iadd, 1) := by decide +kernel
theorem dX6_readTree_143 : decode cX6_readTree 143 = .ok (.iload_n 3, 1) := by decide +kernel
theorem dX6_readTree_144 : decode cX6_readTree 144 = .ok (.iastore, 1) := by decide +kernel
theorem dX6_readTree_145 : decode cX6_readTree 145 = .ok (.aload_n 0, 1) := by decide +kernel
theorem dX6_readTree_146 : decode cX6_readTree 146 = .ok (.getfield 22, 3) := by decide +kernel
theorem dX6_readTree_149 : decode cX6_readTree 149 = .ok (.iload 5, 2) := by decide +kernel
theorem dX6_readTree_151 : decode cX6_readTree 151 = .ok (.iconst 3, 1) := by decide +kernel
theorem dX6_readTree_152 : decode cX6_readTree 152 = .ok (.iadd, 1) := by decide +kernel
theorem dX6_readTree_153 : decode cX6_readTree 153 = .ok (.iload 4, 2) := by decide +kernel
theorem dX6_readTree_155 : decode cX6_readTree 155 = .ok (.iastore, 1) := by decide +kernel
theorem dX6_readTree_156 : decode cX6_readTree 156 = .ok (.aload_n 0, 1) := by decide +kernel
theorem dX6_readTree_157 : decode cX6_readTree 157 = .ok (.getfield 22, 3) := by decide +kernel
theorem dX6_readTree_160 : decode cX6_readTree 160 = .ok (.iconst 0, 1) := by decide +kernel
theorem dX6_readTree_161 : decode cX6_readTree 161 = .ok (.dup2, 1) := by decide +kernel
theorem dX6_readTree_162 : decode cX6_readTree 162 = .ok (.iaload, 1) := by decide +kernel
theorem dX6_readTree_163 : decode cX6_readTree 163 = .ok (.iconst 1, 1) := by decide +kernel
theorem dX6_readTree_164 : decode cX6_readTree 164 = .ok (.iadd, 1) := by decide +kernel
theorem dX6_readTree_165 : decode cX6_readTree 165 = .ok (.iastore, 1) := by decide +kernel
theorem dX6_readTree_166 : decode cX6_readTree 166 = .ok (.return_, 1) := by decide +kernel
theorem dX6_readThing_0 : decode cX6_readThing 0 = .ok (.aload_n 0, 1) := by decide +kernel
theorem dX6_readThing_1 : decode cX6_readThing 1 = .ok (.iconst 1, 1) := by decide +kernel
theorem dX6_readThing_2 : decode cX6_readThing 2 = .ok (.bipush 6, 2) := by decide +kernel
theorem dX6_readThing_4 : decode cX6_readThing 4 = .ok (.invokevirtual 146, 3) := by decide +kernel
theorem dX6_readThing_7 : decode cX6_readThing 7 = .ok (.aload_n 0, 1) := by decide +kernel
theorem dX6_readThing_8 : decode cX6_readThing 8 = .ok (.iconst 0, 1) := by decide +kernel
theorem dX6_readThing_9 : decode cX6_readThing 9 = .ok (.bipush 19, 2) := by decide +kernel
theorem dX6_readThing_11 : decode cX6_readThing 11 = .ok (.invokevirtual 139, 3) := by decide +kernel
theorem dX6_readThing_14 : decode cX6_readThing 14 = .ok (.istore_n 1, 1) := by decide +kernel
theorem dX6_readThing_15 : decode cX6_readThing 15 = .ok (.aload_n 0, 1) := by decide +kernel
theorem dX6_readThing_16 : decode cX6_readThing 16 = .ok (.iconst 1, 1) := by decide +kernel
theorem dX6_readThing_17 : decode cX6_readThing 17 = .ok (.bipush 99, 2) := by decide +kernel
theorem dX6_readThing_19 : decode cX6_readThing 19 = .ok (.invokevirtual 139, 3) := by decide +kernel
theorem dX6_readThing_22 : decode cX6_readThing 22 = .ok (.istore_n 2, 1) := by decide +kernel
theorem dX6_readThing_23 : decode cX6_readThing 23 = .ok (.aload_n 0, 1) := by decide +kernel
theorem dX6_readThing_24 : decode cX6_readThing 24 = .ok (.invokevirtual 133, 3) := by decide +kernel
theorem dX6_readThing_27 : decode cX6_readThing 27 = .ok (.ldc2_w 157, 3) := by decide +kernel
theorem dX6_readThing_30 : decode cX6_readThing 30 = .ok (.lcmp, 1) := by decide +kernel
theorem dX6_readThing_31 : decode cX6_readThing 31 = .ok (.ifCond .ne 7, 3) := by decide +kernel
theorem dX6_readThing_34 : decode cX6_readThing 34 = .ok (.iconst 1, 1) := by decide +kernel
theorem dX6_readThing_35 : decode cX6_readThing 35 = .ok (.goto 4, 3) := by decide +kernel
theorem dX6_readThing_38 : decode cX6_readThing 38 = .ok (.iconst 0, 1) := by decide +kernel
theorem dX6_readThing_39 : decode cX6_readThing 39 = .ok (.istore_n 3, 1) := by decide +kernel
theorem dX6_readThing_40 : decode cX6_readThing 40 = .ok (.aload_n 0, 1) := by decide +kernel
theorem dX6_readThing_41 : decode cX6_readThing 41 = .ok (.getfield 102, 3) := by decide +kernel
theorem dX6_readThing_44 : decode cX6_readThing 44 = .ok (.ifCond .ne 27, 3) := by decide +kernel
theorem dX6_readThing_47 : decode cX6_readThing 47 = .ok (.aload_n 0, 1) := by decide +kernel
theorem dX6_readThing_48 : decode cX6_readThing 48 = .ok (.iload_n 3, 1) := by decide +kernel
theorem dX6_readThing_49 : decode cX6_readThing 49 = .ok (.ifCond .ne 14, 3) := by decide +kernel
theorem dX6_readThing_52 : decode cX6_readThing 52 = .ok (.aload_n 0, 1) := by decide +kernel
theorem dX6_readThing_53 : decode cX6_readThing 53 = .ok (.invokevirtual 133, 3) := by decide +kernel
theorem dX6_readThing_56 : decode cX6_readThing 56 = .ok (.ldc2_w 159, 3) := by decide +kernel
theorem dX6_readThing_59 : decode cX6_readThing 59 = .ok (.lcmp, 1) := by decide +kernel
theorem dX6_readThing_60 : decode cX6_readThing 60 = .ok (.ifCond .ne 7, 3) := by decide +kernel
theorem dX6_readThing_63 : decode cX6_readThing 63 = .ok (.iconst 1, 1) := by decide +kernel
theorem dX6_readThing_64 : decode cX6_readThing 64 = .ok (.goto 4, 3) := by decide +kernel
theorem dX6_readThing_67 : decode cX6_readThing 67 = .ok (.iconst 0, 1) := by decide +kernel
theorem dX6_readThing_68 : decode cX6_readThing 68 = .ok (.invokevirtual 119, 3) := by decide +kernel
theorem dX6_readThing_71 : decode cX6_readThing 71 = .ok (.aload_n 0, 1) := by decide +kernel
theorem dX6_readThing_72 : decode cX6_readThing 72 = .ok (.invokevirtual 143, 3) := by decide +kernel
theorem dX6_readThing_75 : decode cX6_readThing 75 = .ok (.aload_n 0, 1) := by decide +kernel
theorem dX6_readThing_76 : decode cX6_readThing 76 = .ok (.getfield 102, 3) := by decide +kernel
theorem dX6_readThing_79 : decode cX6_readThing 79 = .ok (.ifCond .ne 62, 3) := by decide +kernel
theorem dX6_readThing_82 : decode cX6_readThing 82 = .ok (.bipush 56, 2) := by decide +kernel
theorem dX6_readThing_84 : decode cX6_readThing 84 = .ok (.iconst 3, 1) := by decide +kernel
theorem dX6_readThing_85 : decode cX6_readThing 85 = .ok (.aload_n 0, 1) := by decide +kernel
theorem dX6_readThing_86 : decode cX6_readThing 86 = .ok (.getfield 22, 3) := by decide +kernel
theorem dX6_readThing_89 : decode cX6_readThing 89 = .ok (.iconst 1, 1) := by decide +kernel
theorem dX6_readThing_90 : decode cX6_readThing 90 = .ok (.iaload, 1) := by decide +kernel
theorem dX6_readThing_91 : decode cX6_readThing 91 = .ok (.imul, 1) := by decide +kernel
theorem dX6_readThing_92 : decode cX6_readThing 92 = .ok (.iadd, 1) := by decide +kernel
theorem dX6_readThing_93 : decode cX6_readThing 93 = .ok (.istore 4, 2) := by decide +kernel
theorem dX6_readThing_95 : decode cX6_readThing 95 = .ok (.aload_n 0, 1) := by decide +kernel
theorem dX6_readThing_96 : decode cX6_readThing 96 = .ok (.getfield 22, 3) := by decide +kernel
theorem dX6_readThing_99 : decode cX6_readThing 99 = .ok (.iload 4, 2) := by decide +kernel
theorem dX6_readThing_101 : decode cX6_readThing 101 = .ok (.iload_n 1, 1) := by decide +kernel
theorem dX6_readThing_102 : decode cX6_readThing 102 = .ok (.iastore, 1) := by decide +kernel
theorem dX6_readThing_103 : decode cX6_readThing 103 = .ok (.aload_n 0, 1) := by decide +kernel
theorem dX6_readThing_104 : decode cX6_readThing 104 = .ok (.getfield 22, 3) := by decide +kernel
theorem dX6_readThing_107 : decode cX6_readThing 107 = .ok (.iload 4, 2) := by decide +kernel
theorem dX6_readThing_109 : decode cX6_readThing 109 = .ok (.iconst 1, 1) := by decide +kernel
theorem dX6_readThing_110 : decode cX6_readThing 110 = .ok (.iadd, 1) := by decide +kernel
theorem dX6_readThing_111 : decode cX6_readThing 111 = .ok (.iload_n 2, 1) := by decide +kernel
theorem dX6_readThing_112 : decode cX6_readThing 112 = .ok (.iastore, 1) := by decide +kernel
theorem dX6_readThing_113 : decode cX6_readThing 113 = .ok (.aload_n 0, 1) := by decide +kernel
theorem dX6_readThing_114 : decode cX6_readThing 114 = .ok (.getfield 22, 3) := by decide +kernel
theorem dX6_readThing_117 : decode cX6_readThing 117 = .ok (.iload 4, 2) := by decide +kernel
theorem dX6_readThing_119 : decode cX6_readThing 119 = .ok (.iconst 2, 1) := by decide +kernel
theorem dX6_readThing_120 : decode cX6_readThing 120 = .ok (.iadd, 1) := by decide +kernel
theorem dX6_readThing_121 : decode cX6_readThing 121 = .ok (.iload_n 3, 1) := by decide +kernel
theorem dX6_readThing_122 : decode cX6_readThing 122 = .ok (.ifCond .eq 7, 3) := by decide +kernel
theorem dX6_readThing_125 : decode cX6_readThing 125 = .ok (.iconst 1, 1) := by decide +kernel
theorem dX6_readThing_126 : decode cX6_readThing 126 = .ok (.goto 4, 3) := by decide +kernel
theorem dX6_readThing_129 : decode cX6_readThing 129 = .ok (.iconst 0, 1) := by decide +kernel
theorem dX6_readThing_130 : decode cX6_readThing 130 = .ok (.iastore, 1) := by decide +kernel
theorem dX6_readThing_131 : decode cX6_readThing 131 = .ok (.aload_n 0, 1) := by decide +kernel
theorem dX6_readThing_132 : decode cX6_readThing 132 = .ok (.getfield 22, 3) := by decide +kernel
theorem dX6_readThing_135 : decode cX6_readThing 135 = .ok (.iconst 1, 1) := by decide +kernel
theorem dX6_readThing_136 : decode cX6_readThing 136 = .ok (.dup2, 1) := by decide +kernel
theorem dX6_readThing_137 : decode cX6_readThing 137 = .ok (.iaload, 1) := by decide +kernel
theorem dX6_readThing_138 : decode cX6_readThing 138 = .ok (.iconst 1, 1) := by decide +kernel
theorem dX6_readThing_139 : decode cX6_readThing 139 = .ok (.iadd, 1) := by decide +kernel
theorem dX6_readThing_140 : decode cX6_readThing 140 = .ok (.iastore, 1) := by decide +kernel
theorem dX6_readThing_141 : decode cX6_readThing 141 = .ok (.return_, 1) := by decide +kernel
theorem dX6_garden_0 : decode cX6_garden 0 = .ok (.aload_n 0, 1) := by decide +kernel
theorem dX6_garden_1 : decode cX6_garden 1 = .ok (.iconst 0, 1) := by decide +kernel
theorem dX6_garden_2 : decode cX6_garden 2 = .ok (.putfield 44, 3) := by decide +kernel
theorem dX6_garden_5 : decode cX6_garden 5 = .ok (.aload_n 0, 1) := by decide +kernel
theorem dX6_garden_6 : decode cX6_garden 6 = .ok (.invokevirtual 161, 3) := by decide +kernel
theorem dX6_garden_9 : decode cX6_garden 9 = .ok (.iconst 0, 1) := by decide +kernel
theorem dX6_garden_10 : decode cX6_garden 10 = .ok (.istore_n 1, 1) := by decide +kernel
theorem dX6_garden_11 : decode cX6_garden 11 = .ok (.iload_n 1, 1) := by decide +kernel
theorem dX6_garden_12 : decode cX6_garden 12 = .ok (.bipush 74, 2) := by decide +kernel
theorem dX6_garden_14 : decode cX6_garden 14 = .ok (.if_icmp .ge 26, 3) := by decide +kernel
theorem dX6_garden_17 : decode cX6_garden 17 = .ok (.aload_n 0, 1) := by decide +kernel
theorem dX6_garden_18 : decode cX6_garden 18 = .ok (.getfield 22, 3) := by decide +kernel
theorem dX6_garden_21 : decode cX6_garden 21 = .ok (.iload_n 1, 1) := by decide +kernel
theorem dX6_garden_22 : decode cX6_garden 22 = .ok (.iload_n 1, 1) := by decide +kernel
theorem dX6_garden_23 : decode cX6_garden 23 = .ok (.iconst 4, 1) := by decide +kernel
theorem dX6_garden_24 : decode cX6_garden 24 = .ok (.if_icmp .ne 8, 3) := by decide +kernel
theorem dX6_garden_27 : decode cX6_garden 27 = .ok (.bipush 20, 2) := by decide +kernel
theorem dX6_garden_29 : decode cX6_garden 29 = .ok (.goto 4, 3) := by decide +kernel
theorem dX6_garden_32 : decode cX6_garden 32 = .ok (.iconst 0, 1) := by decide +kernel
theorem dX6_garden_33 : decode cX6_garden 33 = .ok (.iastore, 1) := by decide +kernel
theorem dX6_garden_34 : decode cX6_garden 34 = .ok (.iinc 1 1, 3) := by decide +kernel
theorem dX6_garden_37 : decode cX6_garden 37 = .ok (.goto (-26), 3) := by decide +kernel
theorem dX6_garden_40 : decode cX6_garden 40 = .ok (.aload_n 0, 1) := by decide +kernel
theorem dX6_garden_41 : decode cX6_garden 41 = .ok (.invokevirtual 164, 3) := by decide +kernel
theorem dX6_garden_44 : decode cX6_garden 44 = .ok (.aload_n 0, 1) := by decide +kernel
theorem dX6_garden_45 : decode cX6_garden 45 = .ok (.invokevirtual 133, 3) := by decide +kernel
theorem dX6_garden_48 : decode cX6_garden 48 = .ok (.ldc2_w 167, 3) := by decide +kernel
theorem dX6_garden_51 : decode cX6_garden 51 = .ok (.lcmp, 1) := by decide +kernel
theorem dX6_garden_52 : decode cX6_garden 52 = .ok (.ifCond .ne 7, 3) := by decide +kernel
theorem dX6_garden_55 : decode cX6_garden 55 = .ok (.aload_n 0, 1) := by decide +kernel
theorem dX6_garden_56 : decode cX6_garden 56 = .ok (.invokevirtual 169, 3) := by decide +kernel
theorem dX6_garden_59 : decode cX6_garden 59 = .ok (.aload_n 0, 1) := by decide +kernel
theorem dX6_garden_60 : decode cX6_garden 60 = .ok (.invokevirtual 133, 3) := by decide +kernel
theorem dX6_garden_63 : decode cX6_garden 63 = .ok (.ldc2_w 172, 3) := by decide +kernel
theorem dX6_garden_66 : decode cX6_garden 66 = .ok (.lcmp, 1) := by decide +kernel
theorem dX6_garden_67 : decode cX6_garden 67 = .ok (.ifCond .ne 10, 3) := by decide +kernel
theorem dX6_garden_70 : decode cX6_garden 70 = .ok (.aload_n 0, 1) := by decide +kernel
theorem dX6_garden_71 : decode cX6_garden 71 = .ok (.invokevirtual 174, 3) := by decide +kernel
theorem dX6_garden_74 : decode cX6_garden 74 = .ok (.goto (-15), 3) := by decide +kernel
theorem dX6_garden_77 : decode cX6_garden 77 = .ok (.aload_n 0, 1) := by decide +kernel
theorem dX6_garden_78 : decode cX6_garden 78 = .ok (.invokevirtual 133, 3) := by decide +kernel
theorem dX6_garden_81 : decode cX6_garden 81 = .ok (.ldc2_w 177, 3) := by decide +kernel
theorem dX6_garden_84 : decode cX6_garden 84 = .ok (.lcmp, 1) := by decide +kernel
theorem dX6_garden_85 : decode cX6_garden 85 = .ok (.ifCond .ne 10, 3) := by decide +kernel
theorem dX6_garden_88 : decode cX6_garden 88 = .ok (.aload_n 0, 1) := by decide +kernel
theorem dX6_garden_89 : decode cX6_garden 89 = .ok (.invokevirtual 179, 3) := by decide +kernel
theorem dX6_garden_92 : decode cX6_garden 92 = .ok (.goto (-15), 3) := by decide +kernel
theorem dX6_garden_95 : decode cX6_garden 95 = .ok (.aload_n 0, 1) := by decide +kernel
theorem dX6_garden_96 : decode cX6_garden 96 = .ok (.getfield 102, 3) := by decide +kernel
theorem dX6_garden_99 : decode cX6_garden 99 = .ok (.ifCond .ne 16, 3) := by decide +kernel
theorem dX6_garden_102 : decode cX6_garden 102 = .ok (.aload_n 0, 1) := by decide +kernel
theorem dX6_garden_103 : decode cX6_garden 103 = .ok (.getfield 90, 3) := by decide +kernel
theorem dX6_garden_106 : decode cX6_garden 106 = .ok (.iconst 1, 1) := by decide +kernel
theorem dX6_garden_107 : decode cX6_garden 107 = .ok (.if_icmp .eq 8, 3) := by decide +kernel
theorem dX6_garden_110 : decode cX6_garden 110 = .ok (.aload_n 0, 1) := by decide +kernel
theorem dX6_garden_111 : decode cX6_garden 111 = .ok (.iconst 1, 1) := by decide +kernel
theorem dX6_garden_112 : decode cX6_garden 112 = .ok (.invokevirtual 111, 3) := by decide +kernel
theorem dX6_garden_115 : decode cX6_garden 115 = .ok (.aload_n 0, 1) := by decide +kernel
theorem dX6_garden_116 : decode cX6_garden 116 = .ok (.getfield 102, 3) := by decide +kernel
theorem dX6_garden_119 : decode cX6_garden 119 = .ok (.ifCond .le 19, 3) := by decide +kernel
theorem dX6_garden_122 : decode cX6_garden 122 = .ok (.aload_n 0, 1) := by decide +kernel
theorem dX6_garden_123 : decode cX6_garden 123 = .ok (.aload_n 0, 1) := by decide +kernel
theorem dX6_garden_124 : decode cX6_garden 124 = .ok (.getfield 102, 3) := by decide +kernel
theorem dX6_garden_127 : decode cX6_garden 127 = .ok (.putfield 182, 3) := by decide +kernel
theorem dX6_garden_130 : decode cX6_garden 130 = .ok (.ldc 185, 2) := by decide +kernel
theorem dX6_garden_132 : decode cX6_garden 132 = .ok (.aload_n 0, 1) := by decide +kernel
theorem dX6_garden_133 : decode cX6_garden 133 = .ok (.getfield 108, 3) := by decide +kernel
theorem dX6_garden_136 : decode cX6_garden 136 = .ok (.isub, 1) := by decide +kernel
theorem dX6_garden_137 : decode cX6_garden 137 = .ok (.ireturn, 1) := by decide +kernel
theorem dX6_garden_138 : decode cX6_garden 138 = .ok (.aload_n 0, 1) := by decide +kernel
theorem dX6_garden_139 : decode cX6_garden 139 = .ok (.iconst 1, 1) := by decide +kernel
theorem dX6_garden_140 : decode cX6_garden 140 = .ok (.putfield 186, 3) := by decide +kernel
theorem dX6_garden_143 : decode cX6_garden 143 = .ok (.aload_n 0, 1) := by decide +kernel
theorem dX6_garden_144 : decode cX6_garden 144 = .ok (.iconst 0, 1) := by decide +kernel
theorem dX6_garden_145 : decode cX6_garden 145 = .ok (.putfield 190, 3) := by decide +kernel
theorem dX6_garden_148 : decode cX6_garden 148 = .ok (.iconst 0, 1) := by decide +kernel
theorem dX6_garden_149 : decode cX6_garden 149 = .ok (.istore_n 1, 1) := by decide +kernel
theorem dX6_garden_150 : decode cX6_garden 150 = .ok (.iload_n 1, 1) := by decide +kernel
theorem dX6_garden_151 : decode cX6_garden 151 = .ok (.bipush 74, 2) := by decide +kernel
theorem dX6_garden_153 : decode cX6_garden 153 = .ok (.if_icmp .ge 21, 3) := by decide +kernel
theorem dX6_garden_156 : decode cX6_garden 156 = .ok (.aload_n 0, 1) := by decide +kernel
theorem dX6_garden_157 : decode cX6_garden 157 = .ok (.getfield 19, 3) := by decide +kernel
theorem dX6_garden_160 : decode cX6_garden 160 = .ok (.iload_n 1, 1) := by decide +kernel
theorem dX6_garden_161 : decode cX6_garden 161 = .ok (.aload_n 0, 1) := by decide +kernel
theorem dX6_garden_162 : decode cX6_garden 162 = .ok (.getfield 22, 3) := by decide +kernel
theorem dX6_garden_165 : decode cX6_garden 165 = .ok (.iload_n 1, 1) := by decide +kernel
theorem dX6_garden_166 : decode cX6_garden 166 = .ok (.iaload, 1) := by decide +kernel
theorem dX6_garden_167 : decode cX6_garden 167 = .ok (.iastore, 1) := by decide +kernel
theorem dX6_garden_168 : decode cX6_garden 168 = .ok (.iinc 1 1, 3) := by decide +kernel
theorem dX6_garden_171 : decode cX6_garden 171 = .ok (.goto (-21), 3) := by decide +kernel
theorem dX6_garden_174 : decode cX6_garden 174 = .ok (.aload_n 0, 1) := by decide +kernel
theorem dX6_garden_175 : decode cX6_garden 175 = .ok (.getfield 19, 3) := by decide +kernel
theorem dX6_garden_178 : decode cX6_garden 178 = .ok (.iconst 0, 1) := by decide +kernel
theorem dX6_garden_179 : decode cX6_garden 179 = .ok (.iaload, 1) := by decide +kernel
theorem dX6_garden_180 : decode cX6_garden 180 = .ok (.ireturn, 1) := by decide +kernel
theorem dX6_fault_0 : decode cX6_fault 0 = .ok (.aload_n 0, 1) := by decide +kernel
theorem dX6_fault_1 : decode cX6_fault 1 = .ok (.iconst 0, 1) := by decide +kernel
theorem dX6_fault_2 : decode cX6_fault 2 = .ok (.putfield 44, 3) := by decide +kernel
theorem dX6_fault_5 : decode cX6_fault 5 = .ok (.aload_n 0, 1) := by decide +kernel
theorem dX6_fault_6 : decode cX6_fault 6 = .ok (.getfield 182, 3) := by decide +kernel
theorem dX6_fault_9 : decode cX6_fault 9 = .ok (.ireturn, 1) := by decide +kernel
theorem dX6_isTree_0 : decode cX6_isTree 0 = .ok (.iload_n 1, 1) := by decide +kernel
theorem dX6_isTree_1 : decode cX6_isTree 1 = .ok (.i2l, 1) := by decide +kernel
theorem dX6_isTree_2 : decode cX6_isTree 2 = .ok (.lconst 0, 1) := by decide +kernel
theorem dX6_isTree_3 : decode cX6_isTree 3 = .ok (.aload_n 0, 1) := by decide +kernel
theorem dX6_isTree_4 : decode cX6_isTree 4 = .ok (.getfield 19, 3) := by decide +kernel
theorem dX6_isTree_7 : decode cX6_isTree 7 = .ok (.iconst 0, 1) := by decide +kernel
theorem dX6_isTree_8 : decode cX6_isTree 8 = .ok (.iaload, 1) := by decide +kernel
theorem dX6_isTree_9 : decode cX6_isTree 9 = .ok (.iconst 1, 1) := by decide +kernel
theorem dX6_isTree_10 : decode cX6_isTree 10 = .ok (.isub, 1) := by decide +kernel
theorem dX6_isTree_11 : decode cX6_isTree 11 = .ok (.i2l, 1) := by decide +kernel
theorem dX6_isTree_12 : decode cX6_isTree 12 = .ok (.invokestatic 54, 3) := by decide +kernel
theorem dX6_isTree_15 : decode cX6_isTree 15 = .ok (.ireturn, 1) := by decide +kernel
theorem dX6_of_0 : decode cX6_of 0 = .ok (.aload_n 0, 1) := by decide +kernel
theorem dX6_of_1 : decode cX6_of 1 = .ok (.getfield 19, 3) := by decide +kernel
theorem dX6_of_4 : decode cX6_of 4 = .ok (.bipush 26, 2) := by decide +kernel
theorem dX6_of_6 : decode cX6_of 6 = .ok (.iconst 5, 1) := by decide +kernel
theorem dX6_of_7 : decode cX6_of 7 = .ok (.iload_n 1, 1) := by decide +kernel
theorem dX6_of_8 : decode cX6_of 8 = .ok (.imul, 1) := by decide +kernel
theorem dX6_of_9 : decode cX6_of 9 = .ok (.iadd, 1) := by decide +kernel
theorem dX6_of_10 : decode cX6_of 10 = .ok (.iload_n 2, 1) := by decide +kernel
theorem dX6_of_11 : decode cX6_of 11 = .ok (.iadd, 1) := by decide +kernel
theorem dX6_of_12 : decode cX6_of 12 = .ok (.iaload, 1) := by decide +kernel
theorem dX6_of_13 : decode cX6_of 13 = .ok (.ireturn, 1) := by decide +kernel
theorem dX6_mayBeCut_0 : decode cX6_mayBeCut 0 = .ok (.aload_n 0, 1) := by decide +kernel
theorem dX6_mayBeCut_1 : decode cX6_mayBeCut 1 = .ok (.iload_n 1, 1) := by decide +kernel
theorem dX6_mayBeCut_2 : decode cX6_mayBeCut 2 = .ok (.iconst 0, 1) := by decide +kernel
theorem dX6_mayBeCut_3 : decode cX6_mayBeCut 3 = .ok (.invokevirtual 193, 3) := by decide +kernel
theorem dX6_mayBeCut_6 : decode cX6_mayBeCut 6 = .ok (.iconst 3, 1) := by decide +kernel
theorem dX6_mayBeCut_7 : decode cX6_mayBeCut 7 = .ok (.if_icmp .eq 17, 3) := by decide +kernel
theorem dX6_mayBeCut_10 : decode cX6_mayBeCut 10 = .ok (.aload_n 0, 1) := by decide +kernel
theorem dX6_mayBeCut_11 : decode cX6_mayBeCut 11 = .ok (.iload_n 1, 1) := by decide +kernel
theorem dX6_mayBeCut_12 : decode cX6_mayBeCut 12 = .ok (.iconst 0, 1) := by decide +kernel
theorem dX6_mayBeCut_13 : decode cX6_mayBeCut 13 = .ok (.invokevirtual 193, 3) := by decide +kernel
theorem dX6_mayBeCut_16 : decode cX6_mayBeCut 16 = .ok (.iconst 5, 1) := by decide +kernel
theorem dX6_mayBeCut_17 : decode cX6_mayBeCut 17 = .ok (.if_icmp .eq 7, 3) := by decide +kernel
theorem dX6_mayBeCut_20 : decode cX6_mayBeCut 20 = .ok (.iconst 1, 1) := by decide +kernel
theorem dX6_mayBeCut_21 : decode cX6_mayBeCut 21 = .ok (.goto 4, 3) := by decide +kernel
theorem dX6_mayBeCut_24 : decode cX6_mayBeCut 24 = .ok (.iconst 0, 1) := by decide +kernel
theorem dX6_mayBeCut_25 : decode cX6_mayBeCut 25 = .ok (.ireturn, 1) := by decide +kernel
theorem dX6_treeAt_0 : decode cX6_treeAt 0 = .ok (.iconst 0, 1) := by decide +kernel
theorem dX6_treeAt_1 : decode cX6_treeAt 1 = .ok (.istore_n 2, 1) := by decide +kernel
theorem dX6_treeAt_2 : decode cX6_treeAt 2 = .ok (.iload_n 2, 1) := by decide +kernel
theorem dX6_treeAt_3 : decode cX6_treeAt 3 = .ok (.aload_n 0, 1) := by decide +kernel
theorem dX6_treeAt_4 : decode cX6_treeAt 4 = .ok (.getfield 19, 3) := by decide +kernel
theorem dX6_treeAt_7 : decode cX6_treeAt 7 = .ok (.iconst 0, 1) := by decide +kernel
theorem dX6_treeAt_8 : decode cX6_treeAt 8 = .ok (.iaload, 1) := by decide +kernel
theorem dX6_treeAt_9 : decode cX6_treeAt 9 = .ok (.if_icmp .ge 21, 3) := by decide +kernel
theorem dX6_treeAt_12 : decode cX6_treeAt 12 = .ok (.aload_n 0, 1) := by decide +kernel
theorem dX6_treeAt_13 : decode cX6_treeAt 13 = .ok (.iload_n 2, 1) := by decide +kernel
theorem dX6_treeAt_14 : decode cX6_treeAt 14 = .ok (.iconst 1, 1) := by decide +kernel
theorem dX6_treeAt_15 : decode cX6_treeAt 15 = .ok (.invokevirtual 193, 3) := by decide +kernel
theorem dX6_treeAt_18 : decode cX6_treeAt 18 = .ok (.iload_n 1, 1) := by decide +kernel
theorem dX6_treeAt_19 : decode cX6_treeAt 19 = .ok (.if_icmp .ne 5, 3) := by decide +kernel
theorem dX6_treeAt_22 : decode cX6_treeAt 22 = .ok (.iload_n 2, 1) := by decide +kernel
theorem dX6_treeAt_23 : decode cX6_treeAt 23 = .ok (.ireturn, 1) := by decide +kernel
theorem dX6_treeAt_24 : decode cX6_treeAt 24 = .ok (.iinc 2 1, 3) := by decide +kernel
theorem dX6_treeAt_27 : decode cX6_treeAt 27 = .ok (.goto (-25), 3) := by decide +kernel
theorem dX6_treeAt_30 : decode cX6_treeAt 30 = .ok (.ldc 80, 2) := by decide +kernel
theorem dX6_treeAt_32 : decode cX6_treeAt 32 = .ok (.ireturn, 1) := by decide +kernel
theorem dX6_height_0 : decode cX6_height 0 = .ok (.aload_n 0, 1) := by decide +kernel
theorem dX6_height_1 : decode cX6_height 1 = .ok (.iload_n 1, 1) := by decide +kernel
theorem dX6_height_2 : decode cX6_height 2 = .ok (.iconst 0, 1) := by decide +kernel
theorem dX6_height_3 : decode cX6_height 3 = .ok (.invokevirtual 193, 3) := by decide +kernel
theorem dX6_height_6 : decode cX6_height 6 = .ok (.istore_n 2, 1) := by decide +kernel
theorem dX6_height_7 : decode cX6_height 7 = .ok (.iload_n 2, 1) := by decide +kernel
theorem dX6_height_8 : decode cX6_height 8 = .ok (.iconst 1, 1) := by decide +kernel
theorem dX6_height_9 : decode cX6_height 9 = .ok (.if_icmp .ne 15, 3) := by decide +kernel
theorem dX6_height_12 : decode cX6_height 12 = .ok (.aload_n 0, 1) := by decide +kernel
theorem dX6_height_13 : decode cX6_height 13 = .ok (.getfield 19, 3) := by decide +kernel
theorem dX6_height_16 : decode cX6_height 16 = .ok (.iconst 3, 1) := by decide +kernel
theorem dX6_height_17 : decode cX6_height 17 = .ok (.iaload, 1) := by decide +kernel
theorem dX6_height_18 : decode cX6_height 18 = .ok (.iconst 1, 1) := by decide +kernel
theorem dX6_height_19 : decode cX6_height 19 = .ok (.if_icmp .ne 5, 3) := by decide +kernel
theorem dX6_height_22 : decode cX6_height 22 = .ok (.iconst 0, 1) := by decide +kernel
theorem dX6_height_23 : decode cX6_height 23 = .ok (.ireturn, 1) := by decide +kernel
theorem dX6_height_24 : decode cX6_height 24 = .ok (.aload_n 0, 1) := by decide +kernel
theorem dX6_height_25 : decode cX6_height 25 = .ok (.iload_n 1, 1) := by decide +kernel
theorem dX6_height_26 : decode cX6_height 26 = .ok (.iconst 2, 1) := by decide +kernel
theorem dX6_height_27 : decode cX6_height 27 = .ok (.invokevirtual 193, 3) := by decide +kernel
theorem dX6_height_30 : decode cX6_height 30 = .ok (.iload_n 2, 1) := by decide +kernel
theorem dX6_height_31 : decode cX6_height 31 = .ok (.iconst 4, 1) := by decide +kernel
theorem dX6_height_32 : decode cX6_height 32 = .ok (.if_icmp .ge 19, 3) := by decide +kernel
theorem dX6_height_35 : decode cX6_height 35 = .ok (.aload_n 0, 1) := by decide +kernel
theorem dX6_height_36 : decode cX6_height 36 = .ok (.iload_n 1, 1) := by decide +kernel
theorem dX6_height_37 : decode cX6_height 37 = .ok (.iconst 3, 1) := by decide +kernel
theorem dX6_height_38 : decode cX6_height 38 = .ok (.invokevirtual 193, 3) := by decide +kernel
theorem dX6_height_41 : decode cX6_height 41 = .ok (.aload_n 0, 1) := by decide +kernel
theorem dX6_height_42 : decode cX6_height 42 = .ok (.getfield 19, 3) := by decide +kernel
theorem dX6_height_45 : decode cX6_height 45 = .ok (.iconst 2, 1) := by decide +kernel
theorem dX6_height_46 : decode cX6_height 46 = .ok (.iaload, 1) := by decide +kernel
theorem dX6_height_47 : decode cX6_height 47 = .ok (.imul, 1) := by decide +kernel
theorem dX6_height_48 : decode cX6_height 48 = .ok (.goto 4, 3) := by decide +kernel
theorem dX6_height_51 : decode cX6_height 51 = .ok (.iconst 0, 1) := by decide +kernel
theorem dX6_height_52 : decode cX6_height 52 = .ok (.iadd, 1) := by decide +kernel
theorem dX6_height_53 : decode cX6_height 53 = .ok (.istore_n 3, 1) := by decide +kernel
theorem dX6_height_54 : decode cX6_height 54 = .ok (.iload_n 3, 1) := by decide +kernel
theorem dX6_height_55 : decode cX6_height 55 = .ok (.bipush 99, 2) := by decide +kernel
theorem dX6_height_57 : decode cX6_height 57 = .ok (.if_icmp .le 8, 3) := by decide +kernel
theorem dX6_height_60 : decode cX6_height 60 = .ok (.bipush 99, 2) := by decide +kernel
theorem dX6_height_62 : decode cX6_height 62 = .ok (.goto 4, 3) := by decide +kernel
theorem dX6_height_65 : decode cX6_height 65 = .ok (.iload_n 3, 1) := by decide +kernel
theorem dX6_height_66 : decode cX6_height 66 = .ok (.aload_n 0, 1) := by decide +kernel
theorem dX6_height_67 : decode cX6_height 67 = .ok (.iload_n 1, 1) := by decide +kernel
theorem dX6_height_68 : decode cX6_height 68 = .ok (.iconst 4, 1) := by decide +kernel
theorem dX6_height_69 : decode cX6_height 69 = .ok (.invokevirtual 193, 3) := by decide +kernel
theorem dX6_height_72 : decode cX6_height 72 = .ok (.isub, 1) := by decide +kernel
theorem dX6_height_73 : decode cX6_height 73 = .ok (.istore_n 3, 1) := by decide +kernel
theorem dX6_height_74 : decode cX6_height 74 = .ok (.iload_n 3, 1) := by decide +kernel
theorem dX6_height_75 : decode cX6_height 75 = .ok (.ifCond .ge 7, 3) := by decide +kernel
theorem dX6_height_78 : decode cX6_height 78 = .ok (.iconst 0, 1) := by decide +kernel
theorem dX6_height_79 : decode cX6_height 79 = .ok (.goto 4, 3) := by decide +kernel
theorem dX6_height_82 : decode cX6_height 82 = .ok (.iload_n 3, 1) := by decide +kernel
theorem dX6_height_83 : decode cX6_height 83 = .ok (.aload_n 0, 1) := by decide +kernel
theorem dX6_height_84 : decode cX6_height 84 = .ok (.getfield 31, 3) := by decide +kernel
theorem dX6_height_87 : decode cX6_height 87 = .ok (.iload_n 1, 1) := by decide +kernel
theorem dX6_height_88 : decode cX6_height 88 = .ok (.iaload, 1) := by decide +kernel
theorem dX6_height_89 : decode cX6_height 89 = .ok (.iadd, 1) := by decide +kernel
theorem dX6_height_90 : decode cX6_height 90 = .ok (.ireturn, 1) := by decide +kernel
theorem dX6_ground_0 : decode cX6_ground 0 = .ok (.aload_n 0, 1) := by decide +kernel
theorem dX6_ground_1 : decode cX6_ground 1 = .ok (.getfield 19, 3) := by decide +kernel
theorem dX6_ground_4 : decode cX6_ground 4 = .ok (.bipush 6, 2) := by decide +kernel
theorem dX6_ground_6 : decode cX6_ground 6 = .ok (.iload_n 1, 1) := by decide +kernel
theorem dX6_ground_7 : decode cX6_ground 7 = .ok (.iadd, 1) := by decide +kernel
theorem dX6_ground_8 : decode cX6_ground 8 = .ok (.iaload, 1) := by decide +kernel
theorem dX6_ground_9 : decode cX6_ground 9 = .ok (.ireturn, 1) := by decide +kernel
theorem dX6_bar_0 : decode cX6_bar 0 = .ok (.aload_n 0, 1) := by decide +kernel
theorem dX6_bar_1 : decode cX6_bar 1 = .ok (.iload_n 1, 1) := by decide +kernel
theorem dX6_bar_2 : decode cX6_bar 2 = .ok (.invokevirtual 196, 3) := by decide +kernel
theorem dX6_bar_5 : decode cX6_bar 5 = .ok (.istore_n 2, 1) := by decide +kernel
theorem dX6_bar_6 : decode cX6_bar 6 = .ok (.aload_n 0, 1) := by decide +kernel
theorem dX6_bar_7 : decode cX6_bar 7 = .ok (.iload_n 1, 1) := by decide +kernel
theorem dX6_bar_8 : decode cX6_bar 8 = .ok (.invokevirtual 199, 3) := by decide +kernel
theorem dX6_bar_11 : decode cX6_bar 11 = .ok (.iload_n 2, 1) := by decide +kernel
theorem dX6_bar_12 : decode cX6_bar 12 = .ok (.ldc 80, 2) := by decide +kernel
theorem dX6_bar_14 : decode cX6_bar 14 = .ok (.if_icmp .ne 7, 3) := by decide +kernel
theorem dX6_bar_17 : decode cX6_bar 17 = .ok (.iconst 0, 1) := by decide +kernel
theorem dX6_bar_18 : decode cX6_bar 18 = .ok (.goto 8, 3) := by decide +kernel
theorem dX6_bar_21 : decode cX6_bar 21 = .ok (.aload_n 0, 1) := by decide +kernel
theorem dX6_bar_22 : decode cX6_bar 22 = .ok (.iload_n 2, 1) := by decide +kernel
theorem dX6_bar_23 : decode cX6_bar 23 = .ok (.invokevirtual 202, 3) := by decide +kernel
theorem dX6_bar_26 : decode cX6_bar 26 = .ok (.iadd, 1) := by decide +kernel
theorem dX6_bar_27 : decode cX6_bar 27 = .ok (.ireturn, 1) := by decide +kernel
theorem dX6_keep_0 : decode cX6_keep 0 = .ok (.aload_n 0, 1) := by decide +kernel
theorem dX6_keep_1 : decode cX6_keep 1 = .ok (.getfield 190, 3) := by decide +kernel
theorem dX6_keep_4 : decode cX6_keep 4 = .ok (.bipush 24, 2) := by decide +kernel
theorem dX6_keep_6 : decode cX6_keep 6 = .ok (.if_icmp .ne 43, 3) := by decide +kernel
theorem dX6_keep_9 : decode cX6_keep 9 = .ok (.iconst 0, 1) := by decide +kernel
theorem dX6_keep_10 : decode cX6_keep 10 = .ok (.istore_n 1, 1) := by decide +kernel
theorem dX6_keep_11 : decode cX6_keep 11 = .ok (.iload_n 1, 1) := by decide +kernel
theorem dX6_keep_12 : decode cX6_keep 12 = .ok (.sipush 1702, 3) := by decide +kernel
theorem dX6_keep_15 : decode cX6_keep 15 = .ok (.if_icmp .ge 24, 3) := by decide +kernel
theorem dX6_keep_18 : decode cX6_keep 18 = .ok (.aload_n 0, 1) := by decide +kernel
theorem dX6_keep_19 : decode cX6_keep 19 = .ok (.getfield 25, 3) := by decide +kernel
theorem dX6_keep_22 : decode cX6_keep 22 = .ok (.iload_n 1, 1) := by decide +kernel
theorem dX6_keep_23 : decode cX6_keep 23 = .ok (.aload_n 0, 1) := by decide +kernel
theorem dX6_keep_24 : decode cX6_keep 24 = .ok (.getfield 25, 3) := by decide +kernel
theorem dX6_keep_27 : decode cX6_keep 27 = .ok (.iload_n 1, 1) := by decide +kernel
theorem dX6_keep_28 : decode cX6_keep 28 = .ok (.bipush 74, 2) := by decide +kernel
theorem dX6_keep_30 : decode cX6_keep 30 = .ok (.iadd, 1) := by decide +kernel
theorem dX6_keep_31 : decode cX6_keep 31 = .ok (.iaload, 1) := by decide +kernel
theorem dX6_keep_32 : decode cX6_keep 32 = .ok (.iastore, 1) := by decide +kernel
theorem dX6_keep_33 : decode cX6_keep 33 = .ok (.iinc 1 1, 3) := by decide +kernel
theorem dX6_keep_36 : decode cX6_keep 36 = .ok (.goto (-25), 3) := by decide +kernel
theorem dX6_keep_39 : decode cX6_keep 39 = .ok (.aload_n 0, 1) := by decide +kernel
theorem dX6_keep_40 : decode cX6_keep 40 = .ok (.dup, 1) := by decide +kernel
theorem dX6_keep_41 : decode cX6_keep 41 = .ok (.getfield 190, 3) := by decide +kernel
theorem dX6_keep_44 : decode cX6_keep 44 = .ok (.iconst 1, 1) := by decide +kernel
theorem dX6_keep_45 : decode cX6_keep 45 = .ok (.isub, 1) := by decide +kernel
theorem dX6_keep_46 : decode cX6_keep 46 = .ok (.putfield 190, 3) := by decide +kernel
theorem dX6_keep_49 : decode cX6_keep 49 = .ok (.iconst 0, 1) := by decide +kernel
theorem dX6_keep_50 : decode cX6_keep 50 = .ok (.istore_n 1, 1) := by decide +kernel
theorem dX6_keep_51 : decode cX6_keep 51 = .ok (.iload_n 1, 1) := by decide +kernel
theorem dX6_keep_52 : decode cX6_keep 52 = .ok (.bipush 74, 2) := by decide +kernel
theorem dX6_keep_54 : decode cX6_keep 54 = .ok (.if_icmp .ge 29, 3) := by decide +kernel
theorem dX6_keep_57 : decode cX6_keep 57 = .ok (.aload_n 0, 1) := by decide +kernel
theorem dX6_keep_58 : decode cX6_keep 58 = .ok (.getfield 25, 3) := by decide +kernel
theorem dX6_keep_61 : decode cX6_keep 61 = .ok (.bipush 74, 2) := by decide +kernel
theorem dX6_keep_63 : decode cX6_keep 63 = .ok (.aload_n 0, 1) := by decide +kernel
theorem dX6_keep_64 : decode cX6_keep 64 = .ok (.getfield 190, 3) := by decide +kernel
theorem dX6_keep_67 : decode cX6_keep 67 = .ok (.imul, 1) := by decide +kernel
theorem dX6_keep_68 : decode cX6_keep 68 = .ok (.iload_n 1, 1) := by decide +kernel
theorem dX6_keep_69 : decode cX6_keep 69 = .ok (.iadd, 1) := by decide +kernel
theorem dX6_keep_70 : decode cX6_keep 70 = .ok (.aload_n 0, 1) := by decide +kernel
theorem dX6_keep_71 : decode cX6_keep 71 = .ok (.getfield 19, 3) := by decide +kernel
theorem dX6_keep_74 : decode cX6_keep 74 = .ok (.iload_n 1, 1) := by decide +kernel
theorem dX6_keep_75 : decode cX6_keep 75 = .ok (.iaload, 1) := by decide +kernel
theorem dX6_keep_76 : decode cX6_keep 76 = .ok (.iastore, 1) := by decide +kernel
theorem dX6_keep_77 : decode cX6_keep 77 = .ok (.iinc 1 1, 3) := by decide +kernel
theorem dX6_keep_80 : decode cX6_keep 80 = .ok (.goto (-29), 3) := by decide +kernel
theorem dX6_keep_83 : decode cX6_keep 83 = .ok (.aload_n 0, 1) := by decide +kernel
theorem dX6_keep_84 : decode cX6_keep 84 = .ok (.dup, 1) := by decide +kernel
theorem dX6_keep_85 : decode cX6_keep 85 = .ok (.getfield 190, 3) := by decide +kernel
theorem dX6_keep_88 : decode cX6_keep 88 = .ok (.iconst 1, 1) := by decide +kernel
theorem dX6_keep_89 : decode cX6_keep 89 = .ok (.iadd, 1) := by decide +kernel
theorem dX6_keep_90 : decode cX6_keep 90 = .ok (.putfield 190, 3) := by decide +kernel
theorem dX6_keep_93 : decode cX6_keep 93 = .ok (.return_, 1) := by decide +kernel
theorem dX6_years_0 : decode cX6_years 0 = .ok (.aload_n 0, 1) := by decide +kernel
theorem dX6_years_1 : decode cX6_years 1 = .ok (.iconst 0, 1) := by decide +kernel
theorem dX6_years_2 : decode cX6_years 2 = .ok (.putfield 44, 3) := by decide +kernel
theorem dX6_years_5 : decode cX6_years 5 = .ok (.aload_n 0, 1) := by decide +kernel
theorem dX6_years_6 : decode cX6_years 6 = .ok (.getfield 186, 3) := by decide +kernel
theorem dX6_years_9 : decode cX6_years 9 = .ok (.ifCond .ne 6, 3) := by decide +kernel
theorem dX6_years_12 : decode cX6_years 12 = .ok (.ldc 205, 2) := by decide +kernel
theorem dX6_years_14 : decode cX6_years 14 = .ok (.ireturn, 1) := by decide +kernel
theorem dX6_years_15 : decode cX6_years 15 = .ok (.iload_n 1, 1) := by decide +kernel
theorem dX6_years_16 : decode cX6_years 16 = .ok (.i2l, 1) := by decide +kernel
theorem dX6_years_17 : decode cX6_years 17 = .ok (.lconst 1, 1) := by decide +kernel
theorem dX6_years_18 : decode cX6_years 18 = .ok (.ldc2_w 206, 3) := by decide +kernel
theorem dX6_years_21 : decode cX6_years 21 = .ok (.invokestatic 54, 3) := by decide +kernel
theorem dX6_years_24 : decode cX6_years 24 = .ok (.ifCond .ne 6, 3) := by decide +kernel
theorem dX6_years_27 : decode cX6_years 27 = .ok (.ldc 64, 2) := by decide +kernel
theorem dX6_years_29 : decode cX6_years 29 = .ok (.ireturn, 1) := by decide +kernel
theorem dX6_years_30 : decode cX6_years 30 = .ok (.aload_n 0, 1) := by decide +kernel
theorem dX6_years_31 : decode cX6_years 31 = .ok (.getfield 19, 3) := by decide +kernel
theorem dX6_years_34 : decode cX6_years 34 = .ok (.iconst 2, 1) := by decide +kernel
theorem dX6_years_35 : decode cX6_years 35 = .ok (.iaload, 1) := by decide +kernel
theorem dX6_years_36 : decode cX6_years 36 = .ok (.iload_n 1, 1) := by decide +kernel
theorem dX6_years_37 : decode cX6_years 37 = .ok (.iadd, 1) := by decide +kernel
theorem dX6_years_38 : decode cX6_years 38 = .ok (.sipush 999, 3) := by decide +kernel
theorem dX6_years_41 : decode cX6_years 41 = .ok (.if_icmp .le 6, 3) := by decide +kernel
theorem dX6_years_44 : decode cX6_years 44 = .ok (.ldc 74, 2) := by decide +kernel
theorem dX6_years_46 : decode cX6_years 46 = .ok (.ireturn, 1) := by decide +kernel
theorem dX6_years_47 : decode cX6_years 47 = .ok (.aload_n 0, 1) := by decide +kernel
theorem dX6_years_48 : decode cX6_years 48 = .ok (.invokevirtual 208, 3) := by decide +kernel
theorem dX6_years_51 : decode cX6_years 51 = .ok (.aload_n 0, 1) := by decide +kernel
theorem dX6_years_52 : decode cX6_years 52 = .ok (.getfield 19, 3) := by decide +kernel
theorem dX6_years_55 : decode cX6_years 55 = .ok (.iconst 2, 1) := by decide +kernel
theorem dX6_years_56 : decode cX6_years 56 = .ok (.dup2, 1) := by decide +kernel
theorem dX6_years_57 : decode cX6_years 57 = .ok (.iaload, 1) := by decide +kernel
theorem dX6_years_58 : decode cX6_years 58 = .ok (.iload_n 1, 1) := by decide +kernel
theorem dX6_years_59 : decode cX6_years 59 = .ok (.iadd, 1) := by decide +kernel
theorem dX6_years_60 : decode cX6_years 60 = .ok (.iastore, 1) := by decide +kernel
theorem dX6_years_61 : decode cX6_years 61 = .ok (.aload_n 0, 1) := by decide +kernel
theorem dX6_years_62 : decode cX6_years 62 = .ok (.getfield 19, 3) := by decide +kernel
theorem dX6_years_65 : decode cX6_years 65 = .ok (.iconst 2, 1) := by decide +kernel
theorem dX6_years_66 : decode cX6_years 66 = .ok (.iaload, 1) := by decide +kernel
theorem dX6_years_67 : decode cX6_years 67 = .ok (.ireturn, 1) := by decide +kernel
theorem dX6_winter_0 : decode cX6_winter 0 = .ok (.aload_n 0, 1) := by decide +kernel
theorem dX6_winter_1 : decode cX6_winter 1 = .ok (.iconst 0, 1) := by decide +kernel
theorem dX6_winter_2 : decode cX6_winter 2 = .ok (.putfield 44, 3) := by decide +kernel
theorem dX6_winter_5 : decode cX6_winter 5 = .ok (.aload_n 0, 1) := by decide +kernel
theorem dX6_winter_6 : decode cX6_winter 6 = .ok (.getfield 186, 3) := by decide +kernel
theorem dX6_winter_9 : decode cX6_winter 9 = .ok (.ifCond .ne 6, 3) := by decide +kernel
theorem dX6_winter_12 : decode cX6_winter 12 = .ok (.ldc 205, 2) := by decide +kernel
theorem dX6_winter_14 : decode cX6_winter 14 = .ok (.ireturn, 1) := by decide +kernel
theorem dX6_winter_15 : decode cX6_winter 15 = .ok (.iload_n 1, 1) := by decide +kernel
theorem dX6_winter_16 : decode cX6_winter 16 = .ok (.i2l, 1) := by decide +kernel
theorem dX6_winter_17 : decode cX6_winter 17 = .ok (.lconst 0, 1) := by decide +kernel
theorem dX6_winter_18 : decode cX6_winter 18 = .ok (.lconst 1, 1) := by decide +kernel
theorem dX6_winter_19 : decode cX6_winter 19 = .ok (.invokestatic 54, 3) := by decide +kernel
theorem dX6_winter_22 : decode cX6_winter 22 = .ok (.ifCond .ne 6, 3) := by decide +kernel
theorem dX6_winter_25 : decode cX6_winter 25 = .ok (.ldc 64, 2) := by decide +kernel
theorem dX6_winter_27 : decode cX6_winter 27 = .ok (.ireturn, 1) := by decide +kernel
theorem dX6_winter_28 : decode cX6_winter 28 = .ok (.aload_n 0, 1) := by decide +kernel
theorem dX6_winter_29 : decode cX6_winter 29 = .ok (.invokevirtual 208, 3) := by decide +kernel
theorem dX6_winter_32 : decode cX6_winter 32 = .ok (.aload_n 0, 1) := by decide +kernel
theorem dX6_winter_33 : decode cX6_winter 33 = .ok (.getfield 19, 3) := by decide +kernel
theorem dX6_winter_36 : decode cX6_winter 36 = .ok (.iconst 3, 1) := by decide +kernel
theorem dX6_winter_37 : decode cX6_winter 37 = .ok (.iaload, 1) := by decide +kernel
theorem dX6_winter_38 : decode cX6_winter 38 = .ok (.istore_n 2, 1) := by decide +kernel
theorem dX6_winter_39 : decode cX6_winter 39 = .ok (.aload_n 0, 1) := by decide +kernel
theorem dX6_winter_40 : decode cX6_winter 40 = .ok (.getfield 19, 3) := by decide +kernel
theorem dX6_winter_43 : decode cX6_winter 43 = .ok (.iconst 3, 1) := by decide +kernel
theorem dX6_winter_44 : decode cX6_winter 44 = .ok (.iload_n 1, 1) := by decide +kernel
theorem dX6_winter_45 : decode cX6_winter 45 = .ok (.iastore, 1) := by decide +kernel
theorem dX6_winter_46 : decode cX6_winter 46 = .ok (.iload_n 2, 1) := by decide +kernel
theorem dX6_winter_47 : decode cX6_winter 47 = .ok (.ireturn, 1) := by decide +kernel
theorem dX6_clip_0 : decode cX6_clip 0 = .ok (.aload_n 0, 1) := by decide +kernel
theorem dX6_clip_1 : decode cX6_clip 1 = .ok (.iconst 0, 1) := by decide +kernel
theorem dX6_clip_2 : decode cX6_clip 2 = .ok (.putfield 44, 3) := by decide +kernel
theorem dX6_clip_5 : decode cX6_clip 5 = .ok (.aload_n 0, 1) := by decide +kernel
theorem dX6_clip_6 : decode cX6_clip 6 = .ok (.iload_n 1, 1) := by decide +kernel
theorem dX6_clip_7 : decode cX6_clip 7 = .ok (.invokevirtual 211, 3) := by decide +kernel
theorem dX6_clip_10 : decode cX6_clip 10 = .ok (.ifCond .eq 15, 3) := by decide +kernel
theorem dX6_clip_13 : decode cX6_clip 13 = .ok (.iload_n 2, 1) := by decide +kernel
theorem dX6_clip_14 : decode cX6_clip 14 = .ok (.i2l, 1) := by decide +kernel
theorem dX6_clip_15 : decode cX6_clip 15 = .ok (.lconst 1, 1) := by decide +kernel
theorem dX6_clip_16 : decode cX6_clip 16 = .ok (.ldc2_w 206, 3) := by decide +kernel
theorem dX6_clip_19 : decode cX6_clip 19 = .ok (.invokestatic 54, 3) := by decide +kernel
theorem dX6_clip_22 : decode cX6_clip 22 = .ok (.ifCond .ne 6, 3) := by decide +kernel
theorem dX6_clip_25 : decode cX6_clip 25 = .ok (.ldc 64, 2) := by decide +kernel
theorem dX6_clip_27 : decode cX6_clip 27 = .ok (.ireturn, 1) := by decide +kernel
theorem dX6_clip_28 : decode cX6_clip 28 = .ok (.aload_n 0, 1) := by decide +kernel
theorem dX6_clip_29 : decode cX6_clip 29 = .ok (.iload_n 1, 1) := by decide +kernel
theorem dX6_clip_30 : decode cX6_clip 30 = .ok (.invokevirtual 214, 3) := by decide +kernel
theorem dX6_clip_33 : decode cX6_clip 33 = .ok (.ifCond .ne 6, 3) := by decide +kernel
theorem dX6_clip_36 : decode cX6_clip 36 = .ok (.ldc 205, 2) := by decide +kernel
theorem dX6_clip_38 : decode cX6_clip 38 = .ok (.ireturn, 1) := by decide +kernel
theorem dX6_clip_39 : decode cX6_clip 39 = .ok (.aload_n 0, 1) := by decide +kernel
theorem dX6_clip_40 : decode cX6_clip 40 = .ok (.invokevirtual 208, 3) := by decide +kernel
theorem dX6_clip_43 : decode cX6_clip 43 = .ok (.aload_n 0, 1) := by decide +kernel
theorem dX6_clip_44 : decode cX6_clip 44 = .ok (.getfield 19, 3) := by decide +kernel
theorem dX6_clip_47 : decode cX6_clip 47 = .ok (.bipush 26, 2) := by decide +kernel
theorem dX6_clip_49 : decode cX6_clip 49 = .ok (.iconst 5, 1) := by decide +kernel
theorem dX6_clip_50 : decode cX6_clip 50 = .ok (.iload_n 1, 1) := by decide +kernel
theorem dX6_clip_51 : decode cX6_clip 51 = .ok (.imul, 1) := by decide +kernel
theorem dX6_clip_52 : decode cX6_clip 52 = .ok (.iadd, 1) := by decide +kernel
theorem dX6_clip_53 : decode cX6_clip 53 = .ok (.iconst 4, 1) := by decide +kernel
theorem dX6_clip_54 : decode cX6_clip 54 = .ok (.iadd, 1) := by decide +kernel
theorem dX6_clip_55 : decode cX6_clip 55 = .ok (.dup2, 1) := by decide +kernel
theorem dX6_clip_56 : decode cX6_clip 56 = .ok (.iaload, 1) := by decide +kernel
theorem dX6_clip_57 : decode cX6_clip 57 = .ok (.iload_n 2, 1) := by decide +kernel
theorem dX6_clip_58 : decode cX6_clip 58 = .ok (.iadd, 1) := by decide +kernel
theorem dX6_clip_59 : decode cX6_clip 59 = .ok (.iastore, 1) := by decide +kernel
theorem dX6_clip_60 : decode cX6_clip 60 = .ok (.aload_n 0, 1) := by decide +kernel
theorem dX6_clip_61 : decode cX6_clip 61 = .ok (.iload_n 1, 1) := by decide +kernel
theorem dX6_clip_62 : decode cX6_clip 62 = .ok (.invokevirtual 202, 3) := by decide +kernel
theorem dX6_clip_65 : decode cX6_clip 65 = .ok (.ireturn, 1) := by decide +kernel
theorem dX6_move_0 : decode cX6_move 0 = .ok (.aload_n 0, 1) := by decide +kernel
theorem dX6_move_1 : decode cX6_move 1 = .ok (.iconst 0, 1) := by decide +kernel
theorem dX6_move_2 : decode cX6_move 2 = .ok (.putfield 44, 3) := by decide +kernel
theorem dX6_move_5 : decode cX6_move 5 = .ok (.aload_n 0, 1) := by decide +kernel
theorem dX6_move_6 : decode cX6_move 6 = .ok (.iload_n 1, 1) := by decide +kernel
theorem dX6_move_7 : decode cX6_move 7 = .ok (.invokevirtual 211, 3) := by decide +kernel
theorem dX6_move_10 : decode cX6_move 10 = .ok (.ifCond .eq 15, 3) := by decide +kernel
theorem dX6_move_13 : decode cX6_move 13 = .ok (.iload_n 2, 1) := by decide +kernel
theorem dX6_move_14 : decode cX6_move 14 = .ok (.i2l, 1) := by decide +kernel
theorem dX6_move_15 : decode cX6_move 15 = .ok (.lconst 1, 1) := by decide +kernel
theorem dX6_move_16 : decode cX6_move 16 = .ok (.ldc2_w 217, 3) := by decide +kernel
theorem dX6_move_19 : decode cX6_move 19 = .ok (.invokestatic 54, 3) := by decide +kernel
theorem dX6_move_22 : decode cX6_move 22 = .ok (.ifCond .ne 6, 3) := by decide +kernel
theorem dX6_move_25 : decode cX6_move 25 = .ok (.ldc 64, 2) := by decide +kernel
theorem dX6_move_27 : decode cX6_move 27 = .ok (.ireturn, 1) := by decide +kernel
theorem dX6_move_28 : decode cX6_move 28 = .ok (.aload_n 0, 1) := by decide +kernel
theorem dX6_move_29 : decode cX6_move 29 = .ok (.iload_n 2, 1) := by decide +kernel
theorem dX6_move_30 : decode cX6_move 30 = .ok (.invokevirtual 196, 3) := by decide +kernel
theorem dX6_move_33 : decode cX6_move 33 = .ok (.ldc 80, 2) := by decide +kernel
theorem dX6_move_35 : decode cX6_move 35 = .ok (.if_icmp .eq 6, 3) := by decide +kernel
theorem dX6_move_38 : decode cX6_move 38 = .ok (.ldc 205, 2) := by decide +kernel
theorem dX6_move_40 : decode cX6_move 40 = .ok (.ireturn, 1) := by decide +kernel
theorem dX6_move_41 : decode cX6_move 41 = .ok (.aload_n 0, 1) := by decide +kernel
theorem dX6_move_42 : decode cX6_move 42 = .ok (.invokevirtual 208, 3) := by decide +kernel
theorem dX6_move_45 : decode cX6_move 45 = .ok (.aload_n 0, 1) := by decide +kernel
theorem dX6_move_46 : decode cX6_move 46 = .ok (.iload_n 1, 1) := by decide +kernel
theorem dX6_move_47 : decode cX6_move 47 = .ok (.iconst 1, 1) := by decide +kernel
theorem dX6_move_48 : decode cX6_move 48 = .ok (.invokevirtual 193, 3) := by decide +kernel
theorem dX6_move_51 : decode cX6_move 51 = .ok (.istore_n 3, 1) := by decide +kernel
theorem dX6_move_52 : decode cX6_move 52 = .ok (.aload_n 0, 1) := by decide +kernel
theorem dX6_move_53 : decode cX6_move 53 = .ok (.getfield 19, 3) := by decide +kernel
theorem dX6_move_56 : decode cX6_move 56 = .ok (.bipush 26, 2) := by decide +kernel
theorem dX6_move_58 : decode cX6_move 58 = .ok (.iconst 5, 1) := by decide +kernel
theorem dX6_move_59 : decode cX6_move 59 = .ok (.iload_n 1, 1) := by decide +kernel
theorem dX6_move_60 : decode cX6_move 60 = .ok (.imul, 1) := by decide +kernel
theorem dX6_move_61 : decode cX6_move 61 = .ok (.iadd, 1) := by decide +kernel
theorem dX6_move_62 : decode cX6_move 62 = .ok (.iconst 1, 1) := by decide +kernel
theorem dX6_move_63 : decode cX6_move 63 = .ok (.iadd, 1) := by decide +kernel
theorem dX6_move_64 : decode cX6_move 64 = .ok (.iload_n 2, 1) := by decide +kernel
theorem dX6_move_65 : decode cX6_move 65 = .ok (.iastore, 1) := by decide +kernel
theorem dX6_move_66 : decode cX6_move 66 = .ok (.iload_n 3, 1) := by decide +kernel
theorem dX6_move_67 : decode cX6_move 67 = .ok (.ireturn, 1) := by decide +kernel
theorem dX6_level_0 : decode cX6_level 0 = .ok (.aload_n 0, 1) := by decide +kernel
theorem dX6_level_1 : decode cX6_level 1 = .ok (.iconst 0, 1) := by decide +kernel
theorem dX6_level_2 : decode cX6_level 2 = .ok (.putfield 44, 3) := by decide +kernel
theorem dX6_level_5 : decode cX6_level 5 = .ok (.aload_n 0, 1) := by decide +kernel
theorem dX6_level_6 : decode cX6_level 6 = .ok (.getfield 186, 3) := by decide +kernel
theorem dX6_level_9 : decode cX6_level 9 = .ok (.ifCond .ne 6, 3) := by decide +kernel
theorem dX6_level_12 : decode cX6_level 12 = .ok (.ldc 205, 2) := by decide +kernel
theorem dX6_level_14 : decode cX6_level 14 = .ok (.ireturn, 1) := by decide +kernel
theorem dX6_level_15 : decode cX6_level 15 = .ok (.iload_n 1, 1) := by decide +kernel
theorem dX6_level_16 : decode cX6_level 16 = .ok (.invokestatic 58, 3) := by decide +kernel
theorem dX6_level_19 : decode cX6_level 19 = .ok (.ifCond .ne 6, 3) := by decide +kernel
theorem dX6_level_22 : decode cX6_level 22 = .ok (.ldc 64, 2) := by decide +kernel
theorem dX6_level_24 : decode cX6_level 24 = .ok (.ireturn, 1) := by decide +kernel
theorem dX6_level_25 : decode cX6_level 25 = .ok (.aload_n 0, 1) := by decide +kernel
theorem dX6_level_26 : decode cX6_level 26 = .ok (.getfield 7, 3) := by decide +kernel
theorem dX6_level_29 : decode cX6_level 29 = .ok (.iload_n 1, 1) := by decide +kernel
theorem dX6_level_30 : decode cX6_level 30 = .ok (.iaload, 1) := by decide +kernel
theorem dX6_level_31 : decode cX6_level 31 = .ok (.ifCond .ge 9, 3) := by decide +kernel
theorem dX6_level_34 : decode cX6_level 34 = .ok (.aload_n 0, 1) := by decide +kernel
theorem dX6_level_35 : decode cX6_level 35 = .ok (.iconst 1, 1) := by decide +kernel
theorem dX6_level_36 : decode cX6_level 36 = .ok (.invokevirtual 65, 3) := by decide +kernel
theorem dX6_level_39 : decode cX6_level 39 = .ok (.ireturn, 1) := by decide +kernel
theorem dX6_level_40 : decode cX6_level 40 = .ok (.iload_n 2, 1) := by decide +kernel
theorem dX6_level_41 : decode cX6_level 41 = .ok (.ifCond .lt 20, 3) := by decide +kernel
theorem dX6_level_44 : decode cX6_level 44 = .ok (.iload_n 2, 1) := by decide +kernel
theorem dX6_level_45 : decode cX6_level 45 = .ok (.i2l, 1) := by decide +kernel
theorem dX6_level_46 : decode cX6_level 46 = .ok (.ldc2_w 219, 3) := by decide +kernel
theorem dX6_level_49 : decode cX6_level 49 = .ok (.ladd, 1) := by decide +kernel
theorem dX6_level_50 : decode cX6_level 50 = .ok (.aload_n 0, 1) := by decide +kernel
theorem dX6_level_51 : decode cX6_level 51 = .ok (.getfield 13, 3) := by decide +kernel
theorem dX6_level_54 : decode cX6_level 54 = .ok (.iload_n 1, 1) := by decide +kernel
theorem dX6_level_55 : decode cX6_level 55 = .ok (.iaload, 1) := by decide +kernel
theorem dX6_level_56 : decode cX6_level 56 = .ok (.i2l, 1) := by decide +kernel
theorem dX6_level_57 : decode cX6_level 57 = .ok (.lcmp, 1) := by decide +kernel
theorem dX6_level_58 : decode cX6_level 58 = .ok (.ifCond .le 9, 3) := by decide +kernel
theorem dX6_level_61 : decode cX6_level 61 = .ok (.aload_n 0, 1) := by decide +kernel
theorem dX6_level_62 : decode cX6_level 62 = .ok (.iconst 2, 1) := by decide +kernel
theorem dX6_level_63 : decode cX6_level 63 = .ok (.invokevirtual 65, 3) := by decide +kernel
theorem dX6_level_66 : decode cX6_level 66 = .ok (.ireturn, 1) := by decide +kernel
theorem dX6_level_67 : decode cX6_level 67 = .ok (.iconst 0, 1) := by decide +kernel
theorem dX6_level_68 : decode cX6_level 68 = .ok (.istore_n 3, 1) := by decide +kernel
theorem dX6_level_69 : decode cX6_level 69 = .ok (.iload_n 3, 1) := by decide +kernel
theorem dX6_level_70 : decode cX6_level 70 = .ok (.bipush 20, 2) := by decide +kernel
theorem dX6_level_72 : decode cX6_level 72 = .ok (.if_icmp .ge 36, 3) := by decide +kernel
theorem dX6_level_75 : decode cX6_level 75 = .ok (.aload_n 0, 1) := by decide +kernel
theorem dX6_level_76 : decode cX6_level 76 = .ok (.getfield 16, 3) := by decide +kernel
theorem dX6_level_79 : decode cX6_level 79 = .ok (.bipush 40, 2) := by decide +kernel
theorem dX6_level_81 : decode cX6_level 81 = .ok (.iload_n 1, 1) := by decide +kernel
theorem dX6_level_82 : decode cX6_level 82 = .ok (.imul, 1) := by decide +kernel
theorem dX6_level_83 : decode cX6_level 83 = .ok (.iload_n 2, 1) := by decide +kernel
theorem dX6_level_84 : decode cX6_level 84 = .ok (.iadd, 1) := by decide +kernel
theorem dX6_level_85 : decode cX6_level 85 = .ok (.iload_n 3, 1) := by decide +kernel
theorem dX6_level_86 : decode cX6_level 86 = .ok (.iadd, 1) := by decide +kernel
theorem dX6_level_87 : decode cX6_level 87 = .ok (.iaload, 1) := by decide +kernel
theorem dX6_level_88 : decode cX6_level 88 = .ok (.i2l, 1) := by decide +kernel
theorem dX6_level_89 : decode cX6_level 89 = .ok (.lconst 0, 1) := by decide +kernel
theorem dX6_level_90 : decode cX6_level 90 = .ok (.ldc2_w 221, 3) := by decide +kernel
theorem dX6_level_93 : decode cX6_level 93 = .ok (.invokestatic 54, 3) := by decide +kernel
theorem dX6_level_96 : decode cX6_level 96 = .ok (.ifCond .ne 6, 3) := by decide +kernel
theorem dX6_level_99 : decode cX6_level 99 = .ok (.ldc 64, 2) := by decide +kernel
theorem dX6_level_101 : decode cX6_level 101 = .ok (.ireturn, 1) := by decide +kernel
theorem dX6_level_102 : decode cX6_level 102 = .ok (.iinc 3 1, 3) := by decide +kernel
theorem dX6_level_105 : decode cX6_level 105 = .ok (.goto (-36), 3) := by decide +kernel
theorem dX6_level_108 : decode cX6_level 108 = .ok (.aload_n 0, 1) := by decide +kernel
theorem dX6_level_109 : decode cX6_level 109 = .ok (.iconst 0, 1) := by decide +kernel
theorem dX6_level_110 : decode cX6_level 110 = .ok (.putfield 48, 3) := by decide +kernel
theorem dX6_level_113 : decode cX6_level 113 = .ok (.aload_n 0, 1) := by decide +kernel
theorem dX6_level_114 : decode cX6_level 114 = .ok (.invokevirtual 208, 3) := by decide +kernel
theorem dX6_level_117 : decode cX6_level 117 = .ok (.iconst 0, 1) := by decide +kernel
theorem dX6_level_118 : decode cX6_level 118 = .ok (.istore_n 3, 1) := by decide +kernel
theorem dX6_level_119 : decode cX6_level 119 = .ok (.iload_n 3, 1) := by decide +kernel
theorem dX6_level_120 : decode cX6_level 120 = .ok (.bipush 20, 2) := by decide +kernel
theorem dX6_level_122 : decode cX6_level 122 = .ok (.if_icmp .ge 31, 3) := by decide +kernel
theorem dX6_level_125 : decode cX6_level 125 = .ok (.aload_n 0, 1) := by decide +kernel
theorem dX6_level_126 : decode cX6_level 126 = .ok (.getfield 19, 3) := by decide +kernel
theorem dX6_level_129 : decode cX6_level 129 = .ok (.bipush 6, 2) := by decide +kernel
theorem dX6_level_131 : decode cX6_level 131 = .ok (.iload_n 3, 1) := by decide +kernel
theorem dX6_level_132 : decode cX6_level 132 = .ok (.iadd, 1) := by decide +kernel
theorem dX6_level_133 : decode cX6_level 133 = .ok (.aload_n 0, 1) := by decide +kernel
theorem dX6_level_134 : decode cX6_level 134 = .ok (.getfield 16, 3) := by decide +kernel
theorem dX6_level_137 : decode cX6_level 137 = .ok (.bipush 40, 2) := by decide +kernel
theorem dX6_level_139 : decode cX6_level 139 = .ok (.iload_n 1, 1) := by decide +kernel
theorem dX6_level_140 : decode cX6_level 140 = .ok (.imul, 1) := by decide +kernel
theorem dX6_level_141 : decode cX6_level 141 = .ok (.iload_n 2, 1) := by decide +kernel
theorem dX6_level_142 : decode cX6_level 142 = .ok (.iadd, 1) := by decide +kernel
theorem dX6_level_143 : decode cX6_level 143 = .ok (.iload_n 3, 1) := by decide +kernel
theorem dX6_level_144 : decode cX6_level 144 = .ok (.iadd, 1) := by decide +kernel
theorem dX6_level_145 : decode cX6_level 145 = .ok (.iaload, 1) := by decide +kernel
theorem dX6_level_146 : decode cX6_level 146 = .ok (.iastore, 1) := by decide +kernel
theorem dX6_level_147 : decode cX6_level 147 = .ok (.iinc 3 1, 3) := by decide +kernel
theorem dX6_level_150 : decode cX6_level 150 = .ok (.goto (-31), 3) := by decide +kernel
theorem dX6_level_153 : decode cX6_level 153 = .ok (.iconst 1, 1) := by decide +kernel
theorem dX6_level_154 : decode cX6_level 154 = .ok (.ireturn, 1) := by decide +kernel
theorem dX6_undo_0 : decode cX6_undo 0 = .ok (.aload_n 0, 1) := by decide +kernel
theorem dX6_undo_1 : decode cX6_undo 1 = .ok (.iconst 0, 1) := by decide +kernel
theorem dX6_undo_2 : decode cX6_undo 2 = .ok (.putfield 44, 3) := by decide +kernel
theorem dX6_undo_5 : decode cX6_undo 5 = .ok (.aload_n 0, 1) := by decide +kernel
theorem dX6_undo_6 : decode cX6_undo 6 = .ok (.getfield 190, 3) := by decide +kernel
theorem dX6_undo_9 : decode cX6_undo 9 = .ok (.ifCond .ne 6, 3) := by decide +kernel
theorem dX6_undo_12 : decode cX6_undo 12 = .ok (.ldc 205, 2) := by decide +kernel
theorem dX6_undo_14 : decode cX6_undo 14 = .ok (.ireturn, 1) := by decide +kernel
theorem dX6_undo_15 : decode cX6_undo 15 = .ok (.aload_n 0, 1) := by decide +kernel
theorem dX6_undo_16 : decode cX6_undo 16 = .ok (.dup, 1) := by decide +kernel
theorem dX6_undo_17 : decode cX6_undo 17 = .ok (.getfield 190, 3) := by decide +kernel
theorem dX6_undo_20 : decode cX6_undo 20 = .ok (.iconst 1, 1) := by decide +kernel
theorem dX6_undo_21 : decode cX6_undo 21 = .ok (.isub, 1) := by decide +kernel
theorem dX6_undo_22 : decode cX6_undo 22 = .ok (.putfield 190, 3) := by decide +kernel
theorem dX6_undo_25 : decode cX6_undo 25 = .ok (.iconst 0, 1) := by decide +kernel
theorem dX6_undo_26 : decode cX6_undo 26 = .ok (.istore_n 1, 1) := by decide +kernel
theorem dX6_undo_27 : decode cX6_undo 27 = .ok (.iload_n 1, 1) := by decide +kernel
theorem dX6_undo_28 : decode cX6_undo 28 = .ok (.bipush 74, 2) := by decide +kernel
theorem dX6_undo_30 : decode cX6_undo 30 = .ok (.if_icmp .ge 29, 3) := by decide +kernel
theorem dX6_undo_33 : decode cX6_undo 33 = .ok (.aload_n 0, 1) := by decide +kernel
theorem dX6_undo_34 : decode cX6_undo 34 = .ok (.getfield 19, 3) := by decide +kernel
theorem dX6_undo_37 : decode cX6_undo 37 = .ok (.iload_n 1, 1) := by decide +kernel
theorem dX6_undo_38 : decode cX6_undo 38 = .ok (.aload_n 0, 1) := by decide +kernel
theorem dX6_undo_39 : decode cX6_undo 39 = .ok (.getfield 25, 3) := by decide +kernel
theorem dX6_undo_42 : decode cX6_undo 42 = .ok (.bipush 74, 2) := by decide +kernel
theorem dX6_undo_44 : decode cX6_undo 44 = .ok (.aload_n 0, 1) := by decide +kernel
theorem dX6_undo_45 : decode cX6_undo 45 = .ok (.getfield 190, 3) := by decide +kernel
theorem dX6_undo_48 : decode cX6_undo 48 = .ok (.imul, 1) := by decide +kernel
theorem dX6_undo_49 : decode cX6_undo 49 = .ok (.iload_n 1, 1) := by decide +kernel
theorem dX6_undo_50 : decode cX6_undo 50 = .ok (.iadd, 1) := by decide +kernel
theorem dX6_undo_51 : decode cX6_undo 51 = .ok (.iaload, 1) := by decide +kernel
theorem dX6_undo_52 : decode cX6_undo 52 = .ok (.iastore, 1) := by decide +kernel
theorem dX6_undo_53 : decode cX6_undo 53 = .ok (.iinc 1 1, 3) := by decide +kernel
theorem dX6_undo_56 : decode cX6_undo 56 = .ok (.goto (-29), 3) := by decide +kernel
theorem dX6_undo_59 : decode cX6_undo 59 = .ok (.aload_n 0, 1) := by decide +kernel
theorem dX6_undo_60 : decode cX6_undo 60 = .ok (.getfield 190, 3) := by decide +kernel
theorem dX6_undo_63 : decode cX6_undo 63 = .ok (.ireturn, 1) := by decide +kernel
theorem dX6_tree_0 : decode cX6_tree 0 = .ok (.aload_n 0, 1) := by decide +kernel
theorem dX6_tree_1 : decode cX6_tree 1 = .ok (.iconst 0, 1) := by decide +kernel
theorem dX6_tree_2 : decode cX6_tree 2 = .ok (.putfield 44, 3) := by decide +kernel
theorem dX6_tree_5 : decode cX6_tree 5 = .ok (.aload_n 0, 1) := by decide +kernel
theorem dX6_tree_6 : decode cX6_tree 6 = .ok (.iload_n 1, 1) := by decide +kernel
theorem dX6_tree_7 : decode cX6_tree 7 = .ok (.invokevirtual 211, 3) := by decide +kernel
theorem dX6_tree_10 : decode cX6_tree 10 = .ok (.ifCond .eq 15, 3) := by decide +kernel
theorem dX6_tree_13 : decode cX6_tree 13 = .ok (.iload_n 2, 1) := by decide +kernel
theorem dX6_tree_14 : decode cX6_tree 14 = .ok (.i2l, 1) := by decide +kernel
theorem dX6_tree_15 : decode cX6_tree 15 = .ok (.lconst 0, 1) := by decide +kernel
theorem dX6_tree_16 : decode cX6_tree 16 = .ok (.ldc2_w 223, 3) := by decide +kernel
theorem dX6_tree_19 : decode cX6_tree 19 = .ok (.invokestatic 54, 3) := by decide +kernel
theorem dX6_tree_22 : decode cX6_tree 22 = .ok (.ifCond .ne 6, 3) := by decide +kernel
theorem dX6_tree_25 : decode cX6_tree 25 = .ok (.ldc 64, 2) := by decide +kernel
theorem dX6_tree_27 : decode cX6_tree 27 = .ok (.ireturn, 1) := by decide +kernel
theorem dX6_tree_28 : decode cX6_tree 28 = .ok (.iload_n 2, 1) := by decide +kernel
theorem dX6_tree_29 : decode cX6_tree 29 = .ok (.ifCond .ne 12, 3) := by decide +kernel
theorem dX6_tree_32 : decode cX6_tree 32 = .ok (.aload_n 0, 1) := by decide +kernel
theorem dX6_tree_33 : decode cX6_tree 33 = .ok (.iload_n 1, 1) := by decide +kernel
theorem dX6_tree_34 : decode cX6_tree 34 = .ok (.iconst 1, 1) := by decide +kernel
theorem dX6_tree_35 : decode cX6_tree 35 = .ok (.invokevirtual 193, 3) := by decide +kernel
theorem dX6_tree_38 : decode cX6_tree 38 = .ok (.goto 36, 3) := by decide +kernel
theorem dX6_tree_41 : decode cX6_tree 41 = .ok (.iload_n 2, 1) := by decide +kernel
theorem dX6_tree_42 : decode cX6_tree 42 = .ok (.iconst 1, 1) := by decide +kernel
theorem dX6_tree_43 : decode cX6_tree 43 = .ok (.if_icmp .ne 11, 3) := by decide +kernel
theorem dX6_tree_46 : decode cX6_tree 46 = .ok (.aload_n 0, 1) := by decide +kernel
theorem dX6_tree_47 : decode cX6_tree 47 = .ok (.iload_n 1, 1) := by decide +kernel
theorem dX6_tree_48 : decode cX6_tree 48 = .ok (.invokevirtual 202, 3) := by decide +kernel
theorem dX6_tree_51 : decode cX6_tree 51 = .ok (.goto 23, 3) := by decide +kernel
theorem dX6_tree_54 : decode cX6_tree 54 = .ok (.iload_n 2, 1) := by decide +kernel
theorem dX6_tree_55 : decode cX6_tree 55 = .ok (.iconst 2, 1) := by decide +kernel
theorem dX6_tree_56 : decode cX6_tree 56 = .ok (.if_icmp .ne 12, 3) := by decide +kernel
theorem dX6_tree_59 : decode cX6_tree 59 = .ok (.aload_n 0, 1) := by decide +kernel
theorem dX6_tree_60 : decode cX6_tree 60 = .ok (.iload_n 1, 1) := by decide +kernel
theorem dX6_tree_61 : decode cX6_tree 61 = .ok (.iconst 4, 1) := by decide +kernel
theorem dX6_tree_62 : decode cX6_tree 62 = .ok (.invokevirtual 193, 3) := by decide +kernel
theorem dX6_tree_65 : decode cX6_tree 65 = .ok (.goto 9, 3) := by decide +kernel
theorem dX6_tree_68 : decode cX6_tree 68 = .ok (.aload_n 0, 1) := by decide +kernel
theorem dX6_tree_69 : decode cX6_tree 69 = .ok (.iload_n 1, 1) := by decide +kernel
theorem dX6_tree_70 : decode cX6_tree 70 = .ok (.iconst 3, 1) := by decide +kernel
theorem dX6_tree_71 : decode cX6_tree 71 = .ok (.invokevirtual 193, 3) := by decide +kernel
theorem dX6_tree_74 : decode cX6_tree 74 = .ok (.ireturn, 1) := by decide +kernel
theorem dX6_site_0 : decode cX6_site 0 = .ok (.aload_n 0, 1) := by decide +kernel
theorem dX6_site_1 : decode cX6_site 1 = .ok (.iconst 0, 1) := by decide +kernel
theorem dX6_site_2 : decode cX6_site 2 = .ok (.putfield 44, 3) := by decide +kernel
theorem dX6_site_5 : decode cX6_site 5 = .ok (.aload_n 0, 1) := by decide +kernel
theorem dX6_site_6 : decode cX6_site 6 = .ok (.getfield 186, 3) := by decide +kernel
theorem dX6_site_9 : decode cX6_site 9 = .ok (.ifCond .ne 6, 3) := by decide +kernel
theorem dX6_site_12 : decode cX6_site 12 = .ok (.ldc 205, 2) := by decide +kernel
theorem dX6_site_14 : decode cX6_site 14 = .ok (.ireturn, 1) := by decide +kernel
theorem dX6_site_15 : decode cX6_site 15 = .ok (.iload_n 1, 1) := by decide +kernel
theorem dX6_site_16 : decode cX6_site 16 = .ok (.i2l, 1) := by decide +kernel
theorem dX6_site_17 : decode cX6_site 17 = .ok (.lconst 0, 1) := by decide +kernel
theorem dX6_site_18 : decode cX6_site 18 = .ok (.ldc2_w 225, 3) := by decide +kernel
theorem dX6_site_21 : decode cX6_site 21 = .ok (.invokestatic 54, 3) := by decide +kernel
theorem dX6_site_24 : decode cX6_site 24 = .ok (.ifCond .eq 15, 3) := by decide +kernel
theorem dX6_site_27 : decode cX6_site 27 = .ok (.iload_n 2, 1) := by decide +kernel
theorem dX6_site_28 : decode cX6_site 28 = .ok (.i2l, 1) := by decide +kernel
theorem dX6_site_29 : decode cX6_site 29 = .ok (.lconst 0, 1) := by decide +kernel
theorem dX6_site_30 : decode cX6_site 30 = .ok (.ldc2_w 62, 3) := by decide +kernel
theorem dX6_site_33 : decode cX6_site 33 = .ok (.invokestatic 54, 3) := by decide +kernel
theorem dX6_site_36 : decode cX6_site 36 = .ok (.ifCond .ne 6, 3) := by decide +kernel
theorem dX6_site_39 : decode cX6_site 39 = .ok (.ldc 64, 2) := by decide +kernel
theorem dX6_site_41 : decode cX6_site 41 = .ok (.ireturn, 1) := by decide +kernel
theorem dX6_site_42 : decode cX6_site 42 = .ok (.iload_n 2, 1) := by decide +kernel
theorem dX6_site_43 : decode cX6_site 43 = .ok (.ifCond .ne 11, 3) := by decide +kernel
theorem dX6_site_46 : decode cX6_site 46 = .ok (.aload_n 0, 1) := by decide +kernel
theorem dX6_site_47 : decode cX6_site 47 = .ok (.iload_n 1, 1) := by decide +kernel
theorem dX6_site_48 : decode cX6_site 48 = .ok (.invokevirtual 199, 3) := by decide +kernel
theorem dX6_site_51 : decode cX6_site 51 = .ok (.goto 21, 3) := by decide +kernel
theorem dX6_site_54 : decode cX6_site 54 = .ok (.iload_n 2, 1) := by decide +kernel
theorem dX6_site_55 : decode cX6_site 55 = .ok (.iconst 1, 1) := by decide +kernel
theorem dX6_site_56 : decode cX6_site 56 = .ok (.if_icmp .ne 11, 3) := by decide +kernel
theorem dX6_site_59 : decode cX6_site 59 = .ok (.aload_n 0, 1) := by decide +kernel
theorem dX6_site_60 : decode cX6_site 60 = .ok (.iload_n 1, 1) := by decide +kernel
theorem dX6_site_61 : decode cX6_site 61 = .ok (.invokevirtual 227, 3) := by decide +kernel
theorem dX6_site_64 : decode cX6_site 64 = .ok (.goto 8, 3) := by decide +kernel
theorem dX6_site_67 : decode cX6_site 67 = .ok (.aload_n 0, 1) := by decide +kernel
theorem dX6_site_68 : decode cX6_site 68 = .ok (.iload_n 1, 1) := by decide +kernel
theorem dX6_site_69 : decode cX6_site 69 = .ok (.invokevirtual 196, 3) := by decide +kernel
theorem dX6_site_72 : decode cX6_site 72 = .ok (.ireturn, 1) := by decide +kernel
theorem dX6_isFree_0 : decode cX6_isFree 0 = .ok (.iload_n 1, 1) := by decide +kernel
theorem dX6_isFree_1 : decode cX6_isFree 1 = .ok (.iconst 1, 1) := by decide +kernel
theorem dX6_isFree_2 : decode cX6_isFree 2 = .ok (.iadd, 1) := by decide +kernel
theorem dX6_isFree_3 : decode cX6_isFree 3 = .ok (.istore 5, 2) := by decide +kernel
theorem dX6_isFree_5 : decode cX6_isFree 5 = .ok (.iload 5, 2) := by decide +kernel
theorem dX6_isFree_7 : decode cX6_isFree 7 = .ok (.iload_n 3, 1) := by decide +kernel
theorem dX6_isFree_8 : decode cX6_isFree 8 = .ok (.if_icmp .ge 39, 3) := by decide +kernel
theorem dX6_isFree_11 : decode cX6_isFree 11 = .ok (.iload 4, 2) := by decide +kernel
theorem dX6_isFree_13 : decode cX6_isFree 13 = .ok (.iload_n 2, 1) := by decide +kernel
theorem dX6_isFree_14 : decode cX6_isFree 14 = .ok (.isub, 1) := by decide +kernel
theorem dX6_isFree_15 : decode cX6_isFree 15 = .ok (.iload 5, 2) := by decide +kernel
theorem dX6_isFree_17 : decode cX6_isFree 17 = .ok (.iload_n 1, 1) := by decide +kernel
theorem dX6_isFree_18 : decode cX6_isFree 18 = .ok (.isub, 1) := by decide +kernel
theorem dX6_isFree_19 : decode cX6_isFree 19 = .ok (.imul, 1) := by decide +kernel
theorem dX6_isFree_20 : decode cX6_isFree 20 = .ok (.iload_n 2, 1) := by decide +kernel
theorem dX6_isFree_21 : decode cX6_isFree 21 = .ok (.iload_n 3, 1) := by decide +kernel
theorem dX6_isFree_22 : decode cX6_isFree 22 = .ok (.iload_n 1, 1) := by decide +kernel
theorem dX6_isFree_23 : decode cX6_isFree 23 = .ok (.isub, 1) := by decide +kernel
theorem dX6_isFree_24 : decode cX6_isFree 24 = .ok (.imul, 1) := by decide +kernel
theorem dX6_isFree_25 : decode cX6_isFree 25 = .ok (.iadd, 1) := by decide +kernel
theorem dX6_isFree_26 : decode cX6_isFree 26 = .ok (.aload_n 0, 1) := by decide +kernel
theorem dX6_isFree_27 : decode cX6_isFree 27 = .ok (.iload 5, 2) := by decide +kernel
theorem dX6_isFree_29 : decode cX6_isFree 29 = .ok (.invokevirtual 227, 3) := by decide +kernel
theorem dX6_isFree_32 : decode cX6_isFree 32 = .ok (.iload_n 3, 1) := by decide +kernel
theorem dX6_isFree_33 : decode cX6_isFree 33 = .ok (.iload_n 1, 1) := by decide +kernel
theorem dX6_isFree_34 : decode cX6_isFree 34 = .ok (.isub, 1) := by decide +kernel
theorem dX6_isFree_35 : decode cX6_isFree 35 = .ok (.imul, 1) := by decide +kernel
theorem dX6_isFree_36 : decode cX6_isFree 36 = .ok (.if_icmp .gt 5, 3) := by decide +kernel
theorem dX6_isFree_39 : decode cX6_isFree 39 = .ok (.iconst 0, 1) := by decide +kernel
theorem dX6_isFree_40 : decode cX6_isFree 40 = .ok (.ireturn, 1) := by decide +kernel
theorem dX6_isFree_41 : decode cX6_isFree 41 = .ok (.iinc 5 1, 3) := by decide +kernel
theorem dX6_isFree_44 : decode cX6_isFree 44 = .ok (.goto (-39), 3) := by decide +kernel
theorem dX6_isFree_47 : decode cX6_isFree 47 = .ok (.iconst 1, 1) := by decide +kernel
theorem dX6_isFree_48 : decode cX6_isFree 48 = .ok (.ireturn, 1) := by decide +kernel
theorem dX6_top_0 : decode cX6_top 0 = .ok (.aload_n 0, 1) := by decide +kernel
theorem dX6_top_1 : decode cX6_top 1 = .ok (.aload_n 0, 1) := by decide +kernel
theorem dX6_top_2 : decode cX6_top 2 = .ok (.getfield 19, 3) := by decide +kernel
theorem dX6_top_5 : decode cX6_top 5 = .ok (.bipush 56, 2) := by decide +kernel
theorem dX6_top_7 : decode cX6_top 7 = .ok (.iconst 3, 1) := by decide +kernel
theorem dX6_top_8 : decode cX6_top 8 = .ok (.iload_n 1, 1) := by decide +kernel
theorem dX6_top_9 : decode cX6_top 9 = .ok (.imul, 1) := by decide +kernel
theorem dX6_top_10 : decode cX6_top 10 = .ok (.iadd, 1) := by decide +kernel
theorem dX6_top_11 : decode cX6_top 11 = .ok (.iaload, 1) := by decide +kernel
theorem dX6_top_12 : decode cX6_top 12 = .ok (.invokevirtual 199, 3) := by decide +kernel
theorem dX6_top_15 : decode cX6_top 15 = .ok (.aload_n 0, 1) := by decide +kernel
theorem dX6_top_16 : decode cX6_top 16 = .ok (.getfield 19, 3) := by decide +kernel
theorem dX6_top_19 : decode cX6_top 19 = .ok (.bipush 56, 2) := by decide +kernel
theorem dX6_top_21 : decode cX6_top 21 = .ok (.iconst 3, 1) := by decide +kernel
theorem dX6_top_22 : decode cX6_top 22 = .ok (.iload_n 1, 1) := by decide +kernel
theorem dX6_top_23 : decode cX6_top 23 = .ok (.imul, 1) := by decide +kernel
theorem dX6_top_24 : decode cX6_top 24 = .ok (.iadd, 1) := by decide +kernel
theorem dX6_top_25 : decode cX6_top 25 = .ok (.iconst 1, 1) := by decide +kernel
theorem dX6_top_26 : decode cX6_top 26 = .ok (.iadd, 1) := by decide +kernel
theorem dX6_top_27 : decode cX6_top 27 = .ok (.iaload, 1) := by decide +kernel
theorem dX6_top_28 : decode cX6_top 28 = .ok (.iadd, 1) := by decide +kernel
theorem dX6_top_29 : decode cX6_top 29 = .ok (.ireturn, 1) := by decide +kernel
theorem dX6_isSeen_0 : decode cX6_isSeen 0 = .ok (.aload_n 0, 1) := by decide +kernel
theorem dX6_isSeen_1 : decode cX6_isSeen 1 = .ok (.getfield 19, 3) := by decide +kernel
theorem dX6_isSeen_4 : decode cX6_isSeen 4 = .ok (.bipush 56, 2) := by decide +kernel
theorem dX6_isSeen_6 : decode cX6_isSeen 6 = .ok (.iconst 3, 1) := by decide +kernel
theorem dX6_isSeen_7 : decode cX6_isSeen 7 = .ok (.iload_n 3, 1) := by decide +kernel
theorem dX6_isSeen_8 : decode cX6_isSeen 8 = .ok (.imul, 1) := by decide +kernel
theorem dX6_isSeen_9 : decode cX6_isSeen 9 = .ok (.iadd, 1) := by decide +kernel
theorem dX6_isSeen_10 : decode cX6_isSeen 10 = .ok (.iaload, 1) := by decide +kernel
theorem dX6_isSeen_11 : decode cX6_isSeen 11 = .ok (.istore 4, 2) := by decide +kernel
theorem dX6_isSeen_13 : decode cX6_isSeen 13 = .ok (.iload_n 1, 1) := by decide +kernel
theorem dX6_isSeen_14 : decode cX6_isSeen 14 = .ok (.iload 4, 2) := by decide +kernel
theorem dX6_isSeen_16 : decode cX6_isSeen 16 = .ok (.if_icmp .ge 29, 3) := by decide +kernel
theorem dX6_isSeen_19 : decode cX6_isSeen 19 = .ok (.aload_n 0, 1) := by decide +kernel
theorem dX6_isSeen_20 : decode cX6_isSeen 20 = .ok (.iload_n 1, 1) := by decide +kernel
theorem dX6_isSeen_21 : decode cX6_isSeen 21 = .ok (.aload_n 0, 1) := by decide +kernel
theorem dX6_isSeen_22 : decode cX6_isSeen 22 = .ok (.iload_n 1, 1) := by decide +kernel
theorem dX6_isSeen_23 : decode cX6_isSeen 23 = .ok (.invokevirtual 199, 3) := by decide +kernel
theorem dX6_isSeen_26 : decode cX6_isSeen 26 = .ok (.iload_n 2, 1) := by decide +kernel
theorem dX6_isSeen_27 : decode cX6_isSeen 27 = .ok (.iadd, 1) := by decide +kernel
theorem dX6_isSeen_28 : decode cX6_isSeen 28 = .ok (.iload 4, 2) := by decide +kernel
theorem dX6_isSeen_30 : decode cX6_isSeen 30 = .ok (.aload_n 0, 1) := by decide +kernel
theorem dX6_isSeen_31 : decode cX6_isSeen 31 = .ok (.iload_n 3, 1) := by decide +kernel
theorem dX6_isSeen_32 : decode cX6_isSeen 32 = .ok (.invokevirtual 230, 3) := by decide +kernel
theorem dX6_isSeen_35 : decode cX6_isSeen 35 = .ok (.invokevirtual 233, 3) := by decide +kernel
theorem dX6_isSeen_38 : decode cX6_isSeen 38 = .ok (.ifCond .eq 7, 3) := by decide +kernel
theorem dX6_isSeen_41 : decode cX6_isSeen 41 = .ok (.iconst 1, 1) := by decide +kernel
theorem dX6_isSeen_42 : decode cX6_isSeen 42 = .ok (.goto 4, 3) := by decide +kernel
theorem dX6_isSeen_45 : decode cX6_isSeen 45 = .ok (.iconst 0, 1) := by decide +kernel
theorem dX6_isSeen_46 : decode cX6_isSeen 46 = .ok (.ireturn, 1) := by decide +kernel
theorem dX6_seenFrom_0 : decode cX6_seenFrom 0 = .ok (.iconst 0, 1) := by decide +kernel
theorem dX6_seenFrom_1 : decode cX6_seenFrom 1 = .ok (.istore_n 3, 1) := by decide +kernel
theorem dX6_seenFrom_2 : decode cX6_seenFrom 2 = .ok (.iconst 0, 1) := by decide +kernel
theorem dX6_seenFrom_3 : decode cX6_seenFrom 3 = .ok (.istore 4, 2) := by decide +kernel
theorem dX6_seenFrom_5 : decode cX6_seenFrom 5 = .ok (.iload 4, 2) := by decide +kernel
theorem dX6_seenFrom_7 : decode cX6_seenFrom 7 = .ok (.aload_n 0, 1) := by decide +kernel
theorem dX6_seenFrom_8 : decode cX6_seenFrom 8 = .ok (.getfield 19, 3) := by decide +kernel
theorem dX6_seenFrom_11 : decode cX6_seenFrom 11 = .ok (.iconst 1, 1) := by decide +kernel
theorem dX6_seenFrom_12 : decode cX6_seenFrom 12 = .ok (.iaload, 1) := by decide +kernel
theorem dX6_seenFrom_13 : decode cX6_seenFrom 13 = .ok (.if_icmp .ge 31, 3) := by decide +kernel
theorem dX6_seenFrom_16 : decode cX6_seenFrom 16 = .ok (.iload_n 3, 1) := by decide +kernel
theorem dX6_seenFrom_17 : decode cX6_seenFrom 17 = .ok (.aload_n 0, 1) := by decide +kernel
theorem dX6_seenFrom_18 : decode cX6_seenFrom 18 = .ok (.iload_n 1, 1) := by decide +kernel
theorem dX6_seenFrom_19 : decode cX6_seenFrom 19 = .ok (.iload_n 2, 1) := by decide +kernel
theorem dX6_seenFrom_20 : decode cX6_seenFrom 20 = .ok (.iload 4, 2) := by decide +kernel
theorem dX6_seenFrom_22 : decode cX6_seenFrom 22 = .ok (.invokevirtual 237, 3) := by decide +kernel
theorem dX6_seenFrom_25 : decode cX6_seenFrom 25 = .ok (.ifCond .eq 10, 3) := by decide +kernel
theorem dX6_seenFrom_28 : decode cX6_seenFrom 28 = .ok (.iconst 1, 1) := by decide +kernel
theorem dX6_seenFrom_29 : decode cX6_seenFrom 29 = .ok (.iload 4, 2) := by decide +kernel
theorem dX6_seenFrom_31 : decode cX6_seenFrom 31 = .ok (.ishl, 1) := by decide +kernel
theorem dX6_seenFrom_32 : decode cX6_seenFrom 32 = .ok (.goto 4, 3) := by decide +kernel
theorem dX6_seenFrom_35 : decode cX6_seenFrom 35 = .ok (.iconst 0, 1) := by decide +kernel
theorem dX6_seenFrom_36 : decode cX6_seenFrom 36 = .ok (.ior, 1) := by decide +kernel
theorem dX6_seenFrom_37 : decode cX6_seenFrom 37 = .ok (.istore_n 3, 1) := by decide +kernel
theorem dX6_seenFrom_38 : decode cX6_seenFrom 38 = .ok (.iinc 4 1, 3) := by decide +kernel
theorem dX6_seenFrom_41 : decode cX6_seenFrom 41 = .ok (.goto (-36), 3) := by decide +kernel
theorem dX6_seenFrom_44 : decode cX6_seenFrom 44 = .ok (.iload_n 3, 1) := by decide +kernel
theorem dX6_seenFrom_45 : decode cX6_seenFrom 45 = .ok (.ireturn, 1) := by decide +kernel
theorem dX6_isEye_0 : decode cX6_isEye 0 = .ok (.iload_n 0, 1) := by decide +kernel
theorem dX6_isEye_1 : decode cX6_isEye 1 = .ok (.i2l, 1) := by decide +kernel
theorem dX6_isEye_2 : decode cX6_isEye 2 = .ok (.lconst 0, 1) := by decide +kernel
theorem dX6_isEye_3 : decode cX6_isEye 3 = .ok (.ldc2_w 241, 3) := by decide +kernel
theorem dX6_isEye_6 : decode cX6_isEye 6 = .ok (.invokestatic 54, 3) := by decide +kernel
theorem dX6_isEye_9 : decode cX6_isEye 9 = .ok (.ireturn, 1) := by decide +kernel
theorem dX6_seen_0 : decode cX6_seen 0 = .ok (.aload_n 0, 1) := by decide +kernel
theorem dX6_seen_1 : decode cX6_seen 1 = .ok (.iconst 0, 1) := by decide +kernel
theorem dX6_seen_2 : decode cX6_seen 2 = .ok (.putfield 44, 3) := by decide +kernel
theorem dX6_seen_5 : decode cX6_seen 5 = .ok (.aload_n 0, 1) := by decide +kernel
theorem dX6_seen_6 : decode cX6_seen 6 = .ok (.getfield 186, 3) := by decide +kernel
theorem dX6_seen_9 : decode cX6_seen 9 = .ok (.ifCond .ne 6, 3) := by decide +kernel
theorem dX6_seen_12 : decode cX6_seen 12 = .ok (.ldc 205, 2) := by decide +kernel
theorem dX6_seen_14 : decode cX6_seen 14 = .ok (.ireturn, 1) := by decide +kernel
theorem dX6_seen_15 : decode cX6_seen 15 = .ok (.iload_n 1, 1) := by decide +kernel
theorem dX6_seen_16 : decode cX6_seen 16 = .ok (.i2l, 1) := by decide +kernel
theorem dX6_seen_17 : decode cX6_seen 17 = .ok (.lconst 0, 1) := by decide +kernel
theorem dX6_seen_18 : decode cX6_seen 18 = .ok (.ldc2_w 217, 3) := by decide +kernel
theorem dX6_seen_21 : decode cX6_seen 21 = .ok (.invokestatic 54, 3) := by decide +kernel
theorem dX6_seen_24 : decode cX6_seen 24 = .ok (.ifCond .eq 19, 3) := by decide +kernel
theorem dX6_seen_27 : decode cX6_seen 27 = .ok (.iload_n 2, 1) := by decide +kernel
theorem dX6_seen_28 : decode cX6_seen 28 = .ok (.invokestatic 243, 3) := by decide +kernel
theorem dX6_seen_31 : decode cX6_seen 31 = .ok (.ifCond .eq 12, 3) := by decide +kernel
theorem dX6_seen_34 : decode cX6_seen 34 = .ok (.aload_n 0, 1) := by decide +kernel
theorem dX6_seen_35 : decode cX6_seen 35 = .ok (.iload_n 1, 1) := by decide +kernel
theorem dX6_seen_36 : decode cX6_seen 36 = .ok (.iload_n 2, 1) := by decide +kernel
theorem dX6_seen_37 : decode cX6_seen 37 = .ok (.invokevirtual 246, 3) := by decide +kernel
theorem dX6_seen_40 : decode cX6_seen 40 = .ok (.goto 5, 3) := by decide +kernel
theorem dX6_seen_43 : decode cX6_seen 43 = .ok (.ldc 64, 2) := by decide +kernel
theorem dX6_seen_45 : decode cX6_seen 45 = .ok (.ireturn, 1) := by decide +kernel
theorem dX6_isDoubled_0 : decode cX6_isDoubled 0 = .ok (.aload_n 0, 1) := by decide +kernel
theorem dX6_isDoubled_1 : decode cX6_isDoubled 1 = .ok (.getfield 19, 3) := by decide +kernel
theorem dX6_isDoubled_4 : decode cX6_isDoubled 4 = .ok (.bipush 56, 2) := by decide +kernel
theorem dX6_isDoubled_6 : decode cX6_isDoubled 6 = .ok (.iconst 3, 1) := by decide +kernel
theorem dX6_isDoubled_7 : decode cX6_isDoubled 7 = .ok (.iload_n 2, 1) := by decide +kernel
theorem dX6_isDoubled_8 : decode cX6_isDoubled 8 = .ok (.imul, 1) := by decide +kernel
theorem dX6_isDoubled_9 : decode cX6_isDoubled 9 = .ok (.iadd, 1) := by decide +kernel
theorem dX6_isDoubled_10 : decode cX6_isDoubled 10 = .ok (.iaload, 1) := by decide +kernel
theorem dX6_isDoubled_11 : decode cX6_isDoubled 11 = .ok (.istore_n 3, 1) := by decide +kernel
theorem dX6_isDoubled_12 : decode cX6_isDoubled 12 = .ok (.iconst 0, 1) := by decide +kernel
theorem dX6_isDoubled_13 : decode cX6_isDoubled 13 = .ok (.istore 4, 2) := by decide +kernel
theorem dX6_isDoubled_15 : decode cX6_isDoubled 15 = .ok (.aload_n 0, 1) := by decide +kernel
theorem dX6_isDoubled_16 : decode cX6_isDoubled 16 = .ok (.getfield 19, 3) := by decide +kernel
theorem dX6_isDoubled_19 : decode cX6_isDoubled 19 = .ok (.iconst 4, 1) := by decide +kernel
theorem dX6_isDoubled_20 : decode cX6_isDoubled 20 = .ok (.iaload, 1) := by decide +kernel
theorem dX6_isDoubled_21 : decode cX6_isDoubled 21 = .ok (.istore 5, 2) := by decide +kernel
theorem dX6_isDoubled_23 : decode cX6_isDoubled 23 = .ok (.iload 5, 2) := by decide +kernel
theorem dX6_isDoubled_25 : decode cX6_isDoubled 25 = .ok (.aload_n 0, 1) := by decide +kernel
theorem dX6_isDoubled_26 : decode cX6_isDoubled 26 = .ok (.getfield 19, 3) := by decide +kernel
theorem dX6_isDoubled_29 : decode cX6_isDoubled 29 = .ok (.iconst 5, 1) := by decide +kernel
theorem dX6_isDoubled_30 : decode cX6_isDoubled 30 = .ok (.iaload, 1) := by decide +kernel
theorem dX6_isDoubled_31 : decode cX6_isDoubled 31 = .ok (.if_icmp .gt 76, 3) := by decide +kernel
theorem dX6_isDoubled_34 : decode cX6_isDoubled 34 = .ok (.iload 4, 2) := by decide +kernel
theorem dX6_isDoubled_36 : decode cX6_isDoubled 36 = .ok (.ifCond .ne 58, 3) := by decide +kernel
theorem dX6_isDoubled_39 : decode cX6_isDoubled 39 = .ok (.iload 5, 2) := by decide +kernel
theorem dX6_isDoubled_41 : decode cX6_isDoubled 41 = .ok (.ifCond .le 57, 3) := by decide +kernel
theorem dX6_isDoubled_44 : decode cX6_isDoubled 44 = .ok (.iload 5, 2) := by decide +kernel
theorem dX6_isDoubled_46 : decode cX6_isDoubled 46 = .ok (.iload_n 3, 1) := by decide +kernel
theorem dX6_isDoubled_47 : decode cX6_isDoubled 47 = .ok (.if_icmp .ge 51, 3) := by decide +kernel
theorem dX6_isDoubled_50 : decode cX6_isDoubled 50 = .ok (.aload_n 0, 1) := by decide +kernel
theorem dX6_isDoubled_51 : decode cX6_isDoubled 51 = .ok (.iconst 0, 1) := by decide +kernel
theorem dX6_isDoubled_52 : decode cX6_isDoubled 52 = .ok (.aload_n 0, 1) := by decide +kernel
theorem dX6_isDoubled_53 : decode cX6_isDoubled 53 = .ok (.iconst 0, 1) := by decide +kernel
theorem dX6_isDoubled_54 : decode cX6_isDoubled 54 = .ok (.invokevirtual 199, 3) := by decide +kernel
theorem dX6_isDoubled_57 : decode cX6_isDoubled 57 = .ok (.iload_n 1, 1) := by decide +kernel
theorem dX6_isDoubled_58 : decode cX6_isDoubled 58 = .ok (.iadd, 1) := by decide +kernel
theorem dX6_isDoubled_59 : decode cX6_isDoubled 59 = .ok (.iload 5, 2) := by decide +kernel
theorem dX6_isDoubled_61 : decode cX6_isDoubled 61 = .ok (.aload_n 0, 1) := by decide +kernel
theorem dX6_isDoubled_62 : decode cX6_isDoubled 62 = .ok (.iload 5, 2) := by decide +kernel
theorem dX6_isDoubled_64 : decode cX6_isDoubled 64 = .ok (.invokevirtual 199, 3) := by decide +kernel
theorem dX6_isDoubled_67 : decode cX6_isDoubled 67 = .ok (.invokevirtual 233, 3) := by decide +kernel
theorem dX6_isDoubled_70 : decode cX6_isDoubled 70 = .ok (.ifCond .eq 28, 3) := by decide +kernel
theorem dX6_isDoubled_73 : decode cX6_isDoubled 73 = .ok (.aload_n 0, 1) := by decide +kernel
theorem dX6_isDoubled_74 : decode cX6_isDoubled 74 = .ok (.iload 5, 2) := by decide +kernel
theorem dX6_isDoubled_76 : decode cX6_isDoubled 76 = .ok (.aload_n 0, 1) := by decide +kernel
theorem dX6_isDoubled_77 : decode cX6_isDoubled 77 = .ok (.iload 5, 2) := by decide +kernel
theorem dX6_isDoubled_79 : decode cX6_isDoubled 79 = .ok (.invokevirtual 199, 3) := by decide +kernel
theorem dX6_isDoubled_82 : decode cX6_isDoubled 82 = .ok (.iload_n 3, 1) := by decide +kernel
theorem dX6_isDoubled_83 : decode cX6_isDoubled 83 = .ok (.aload_n 0, 1) := by decide +kernel
theorem dX6_isDoubled_84 : decode cX6_isDoubled 84 = .ok (.iload_n 2, 1) := by decide +kernel
theorem dX6_isDoubled_85 : decode cX6_isDoubled 85 = .ok (.invokevirtual 230, 3) := by decide +kernel
theorem dX6_isDoubled_88 : decode cX6_isDoubled 88 = .ok (.invokevirtual 233, 3) := by decide +kernel
theorem dX6_isDoubled_91 : decode cX6_isDoubled 91 = .ok (.ifCond .eq 7, 3) := by decide +kernel
theorem dX6_isDoubled_94 : decode cX6_isDoubled 94 = .ok (.iconst 1, 1) := by decide +kernel
theorem dX6_isDoubled_95 : decode cX6_isDoubled 95 = .ok (.goto 4, 3) := by decide +kernel
theorem dX6_isDoubled_98 : decode cX6_isDoubled 98 = .ok (.iconst 0, 1) := by decide +kernel
theorem dX6_isDoubled_99 : decode cX6_isDoubled 99 = .ok (.istore 4, 2) := by decide +kernel
theorem dX6_isDoubled_101 : decode cX6_isDoubled 101 = .ok (.iinc 5 1, 3) := by decide +kernel
theorem dX6_isDoubled_104 : decode cX6_isDoubled 104 = .ok (.goto (-81), 3) := by decide +kernel
theorem dX6_isDoubled_107 : decode cX6_isDoubled 107 = .ok (.iload 4, 2) := by decide +kernel
theorem dX6_isDoubled_109 : decode cX6_isDoubled 109 = .ok (.ifCond .eq 17, 3) := by decide +kernel
theorem dX6_isDoubled_112 : decode cX6_isDoubled 112 = .ok (.aload_n 0, 1) := by decide +kernel
theorem dX6_isDoubled_113 : decode cX6_isDoubled 113 = .ok (.iconst 0, 1) := by decide +kernel
theorem dX6_isDoubled_114 : decode cX6_isDoubled 114 = .ok (.iload_n 1, 1) := by decide +kernel
theorem dX6_isDoubled_115 : decode cX6_isDoubled 115 = .ok (.iload_n 2, 1) := by decide +kernel
theorem dX6_isDoubled_116 : decode cX6_isDoubled 116 = .ok (.invokevirtual 237, 3) := by decide +kernel
theorem dX6_isDoubled_119 : decode cX6_isDoubled 119 = .ok (.ifCond .eq 7, 3) := by decide +kernel
theorem dX6_isDoubled_122 : decode cX6_isDoubled 122 = .ok (.iconst 1, 1) := by decide +kernel
theorem dX6_isDoubled_123 : decode cX6_isDoubled 123 = .ok (.goto 4, 3) := by decide +kernel
theorem dX6_isDoubled_126 : decode cX6_isDoubled 126 = .ok (.iconst 0, 1) := by decide +kernel
theorem dX6_isDoubled_127 : decode cX6_isDoubled 127 = .ok (.ireturn, 1) := by decide +kernel
theorem dX6_doubled_0 : decode cX6_doubled 0 = .ok (.aload_n 0, 1) := by decide +kernel
theorem dX6_doubled_1 : decode cX6_doubled 1 = .ok (.iconst 0, 1) := by decide +kernel
theorem dX6_doubled_2 : decode cX6_doubled 2 = .ok (.putfield 44, 3) := by decide +kernel
theorem dX6_doubled_5 : decode cX6_doubled 5 = .ok (.aload_n 0, 1) := by decide +kernel
theorem dX6_doubled_6 : decode cX6_doubled 6 = .ok (.getfield 186, 3) := by decide +kernel
theorem dX6_doubled_9 : decode cX6_doubled 9 = .ok (.ifCond .ne 6, 3) := by decide +kernel
theorem dX6_doubled_12 : decode cX6_doubled 12 = .ok (.ldc 205, 2) := by decide +kernel
theorem dX6_doubled_14 : decode cX6_doubled 14 = .ok (.ireturn, 1) := by decide +kernel
theorem dX6_doubled_15 : decode cX6_doubled 15 = .ok (.iload_n 1, 1) := by decide +kernel
theorem dX6_doubled_16 : decode cX6_doubled 16 = .ok (.invokestatic 243, 3) := by decide +kernel
theorem dX6_doubled_19 : decode cX6_doubled 19 = .ok (.ifCond .ne 6, 3) := by decide +kernel
theorem dX6_doubled_22 : decode cX6_doubled 22 = .ok (.ldc 64, 2) := by decide +kernel
theorem dX6_doubled_24 : decode cX6_doubled 24 = .ok (.ireturn, 1) := by decide +kernel
theorem dX6_doubled_25 : decode cX6_doubled 25 = .ok (.iconst 0, 1) := by decide +kernel
theorem dX6_doubled_26 : decode cX6_doubled 26 = .ok (.istore_n 2, 1) := by decide +kernel
theorem dX6_doubled_27 : decode cX6_doubled 27 = .ok (.iconst 0, 1) := by decide +kernel
theorem dX6_doubled_28 : decode cX6_doubled 28 = .ok (.istore_n 3, 1) := by decide +kernel
theorem dX6_doubled_29 : decode cX6_doubled 29 = .ok (.iload_n 3, 1) := by decide +kernel
theorem dX6_doubled_30 : decode cX6_doubled 30 = .ok (.aload_n 0, 1) := by decide +kernel
theorem dX6_doubled_31 : decode cX6_doubled 31 = .ok (.getfield 19, 3) := by decide +kernel
theorem dX6_doubled_34 : decode cX6_doubled 34 = .ok (.iconst 1, 1) := by decide +kernel
theorem dX6_doubled_35 : decode cX6_doubled 35 = .ok (.iaload, 1) := by decide +kernel
theorem dX6_doubled_36 : decode cX6_doubled 36 = .ok (.if_icmp .ge 28, 3) := by decide +kernel
theorem dX6_doubled_39 : decode cX6_doubled 39 = .ok (.iload_n 2, 1) := by decide +kernel
theorem dX6_doubled_40 : decode cX6_doubled 40 = .ok (.aload_n 0, 1) := by decide +kernel
theorem dX6_doubled_41 : decode cX6_doubled 41 = .ok (.iload_n 1, 1) := by decide +kernel
theorem dX6_doubled_42 : decode cX6_doubled 42 = .ok (.iload_n 3, 1) := by decide +kernel
theorem dX6_doubled_43 : decode cX6_doubled 43 = .ok (.invokevirtual 249, 3) := by decide +kernel
theorem dX6_doubled_46 : decode cX6_doubled 46 = .ok (.ifCond .eq 9, 3) := by decide +kernel
theorem dX6_doubled_49 : decode cX6_doubled 49 = .ok (.iconst 1, 1) := by decide +kernel
theorem dX6_doubled_50 : decode cX6_doubled 50 = .ok (.iload_n 3, 1) := by decide +kernel
theorem dX6_doubled_51 : decode cX6_doubled 51 = .ok (.ishl, 1) := by decide +kernel
theorem dX6_doubled_52 : decode cX6_doubled 52 = .ok (.goto 4, 3) := by decide +kernel
theorem dX6_doubled_55 : decode cX6_doubled 55 = .ok (.iconst 0, 1) := by decide +kernel
theorem dX6_doubled_56 : decode cX6_doubled 56 = .ok (.ior, 1) := by decide +kernel
theorem dX6_doubled_57 : decode cX6_doubled 57 = .ok (.istore_n 2, 1) := by decide +kernel
theorem dX6_doubled_58 : decode cX6_doubled 58 = .ok (.iinc 3 1, 3) := by decide +kernel
theorem dX6_doubled_61 : decode cX6_doubled 61 = .ok (.goto (-32), 3) := by decide +kernel
theorem dX6_doubled_64 : decode cX6_doubled 64 = .ok (.iload_n 2, 1) := by decide +kernel
theorem dX6_doubled_65 : decode cX6_doubled 65 = .ok (.ireturn, 1) := by decide +kernel
theorem dX6_areMet_0 : decode cX6_areMet 0 = .ok (.iconst 1, 1) := by decide +kernel
theorem dX6_areMet_1 : decode cX6_areMet 1 = .ok (.istore_n 2, 1) := by decide +kernel
theorem dX6_areMet_2 : decode cX6_areMet 2 = .ok (.iconst 0, 1) := by decide +kernel
theorem dX6_areMet_3 : decode cX6_areMet 3 = .ok (.istore_n 3, 1) := by decide +kernel
theorem dX6_areMet_4 : decode cX6_areMet 4 = .ok (.iload_n 3, 1) := by decide +kernel
theorem dX6_areMet_5 : decode cX6_areMet 5 = .ok (.aload_n 0, 1) := by decide +kernel
theorem dX6_areMet_6 : decode cX6_areMet 6 = .ok (.getfield 19, 3) := by decide +kernel
theorem dX6_areMet_9 : decode cX6_areMet 9 = .ok (.iconst 1, 1) := by decide +kernel
theorem dX6_areMet_10 : decode cX6_areMet 10 = .ok (.iaload, 1) := by decide +kernel
theorem dX6_areMet_11 : decode cX6_areMet 11 = .ok (.if_icmp .ge 51, 3) := by decide +kernel
theorem dX6_areMet_14 : decode cX6_areMet 14 = .ok (.iload_n 2, 1) := by decide +kernel
theorem dX6_areMet_15 : decode cX6_areMet 15 = .ok (.ifCond .eq 39, 3) := by decide +kernel
theorem dX6_areMet_18 : decode cX6_areMet 18 = .ok (.aload_n 0, 1) := by decide +kernel
theorem dX6_areMet_19 : decode cX6_areMet 19 = .ok (.iconst 0, 1) := by decide +kernel
theorem dX6_areMet_20 : decode cX6_areMet 20 = .ok (.iload_n 1, 1) := by decide +kernel
theorem dX6_areMet_21 : decode cX6_areMet 21 = .ok (.iload_n 3, 1) := by decide +kernel
theorem dX6_areMet_22 : decode cX6_areMet 22 = .ok (.invokevirtual 237, 3) := by decide +kernel
theorem dX6_areMet_25 : decode cX6_areMet 25 = .ok (.aload_n 0, 1) := by decide +kernel
theorem dX6_areMet_26 : decode cX6_areMet 26 = .ok (.getfield 19, 3) := by decide +kernel
theorem dX6_areMet_29 : decode cX6_areMet 29 = .ok (.bipush 56, 2) := by decide +kernel
theorem dX6_areMet_31 : decode cX6_areMet 31 = .ok (.iconst 3, 1) := by decide +kernel
theorem dX6_areMet_32 : decode cX6_areMet 32 = .ok (.iload_n 3, 1) := by decide +kernel
theorem dX6_areMet_33 : decode cX6_areMet 33 = .ok (.imul, 1) := by decide +kernel
theorem dX6_areMet_34 : decode cX6_areMet 34 = .ok (.iadd, 1) := by decide +kernel
theorem dX6_areMet_35 : decode cX6_areMet 35 = .ok (.iconst 2, 1) := by decide +kernel
theorem dX6_areMet_36 : decode cX6_areMet 36 = .ok (.iadd, 1) := by decide +kernel
theorem dX6_areMet_37 : decode cX6_areMet 37 = .ok (.iaload, 1) := by decide +kernel
theorem dX6_areMet_38 : decode cX6_areMet 38 = .ok (.iconst 1, 1) := by decide +kernel
theorem dX6_areMet_39 : decode cX6_areMet 39 = .ok (.if_icmp .ne 7, 3) := by decide +kernel
theorem dX6_areMet_42 : decode cX6_areMet 42 = .ok (.iconst 1, 1) := by decide +kernel
theorem dX6_areMet_43 : decode cX6_areMet 43 = .ok (.goto 4, 3) := by decide +kernel
theorem dX6_areMet_46 : decode cX6_areMet 46 = .ok (.iconst 0, 1) := by decide +kernel
theorem dX6_areMet_47 : decode cX6_areMet 47 = .ok (.if_icmp .ne 7, 3) := by decide +kernel
theorem dX6_areMet_50 : decode cX6_areMet 50 = .ok (.iconst 1, 1) := by decide +kernel
theorem dX6_areMet_51 : decode cX6_areMet 51 = .ok (.goto 4, 3) := by decide +kernel
theorem dX6_areMet_54 : decode cX6_areMet 54 = .ok (.iconst 0, 1) := by decide +kernel
theorem dX6_areMet_55 : decode cX6_areMet 55 = .ok (.istore_n 2, 1) := by decide +kernel
theorem dX6_areMet_56 : decode cX6_areMet 56 = .ok (.iinc 3 1, 3) := by decide +kernel
theorem dX6_areMet_59 : decode cX6_areMet 59 = .ok (.goto (-55), 3) := by decide +kernel
theorem dX6_areMet_62 : decode cX6_areMet 62 = .ok (.iload_n 2, 1) := by decide +kernel
theorem dX6_areMet_63 : decode cX6_areMet 63 = .ok (.ireturn, 1) := by decide +kernel
theorem dX6_metBy_0 : decode cX6_metBy 0 = .ok (.iconst 0, 1) := by decide +kernel
theorem dX6_metBy_1 : decode cX6_metBy 1 = .ok (.istore_n 2, 1) := by decide +kernel
theorem dX6_metBy_2 : decode cX6_metBy 2 = .ok (.iconst 0, 1) := by decide +kernel
theorem dX6_metBy_3 : decode cX6_metBy 3 = .ok (.istore_n 3, 1) := by decide +kernel
theorem dX6_metBy_4 : decode cX6_metBy 4 = .ok (.iload_n 3, 1) := by decide +kernel
theorem dX6_metBy_5 : decode cX6_metBy 5 = .ok (.bipush 31, 2) := by decide +kernel
theorem dX6_metBy_7 : decode cX6_metBy 7 = .ok (.if_icmp .ge 36, 3) := by decide +kernel
theorem dX6_metBy_10 : decode cX6_metBy 10 = .ok (.iload_n 2, 1) := by decide +kernel
theorem dX6_metBy_11 : decode cX6_metBy 11 = .ok (.iload_n 1, 1) := by decide +kernel
theorem dX6_metBy_12 : decode cX6_metBy 12 = .ok (.iload_n 3, 1) := by decide +kernel
theorem dX6_metBy_13 : decode cX6_metBy 13 = .ok (.ishr, 1) := by decide +kernel
theorem dX6_metBy_14 : decode cX6_metBy 14 = .ok (.iconst 1, 1) := by decide +kernel
theorem dX6_metBy_15 : decode cX6_metBy 15 = .ok (.iand, 1) := by decide +kernel
theorem dX6_metBy_16 : decode cX6_metBy 16 = .ok (.iconst 1, 1) := by decide +kernel
theorem dX6_metBy_17 : decode cX6_metBy 17 = .ok (.if_icmp .ne 17, 3) := by decide +kernel
theorem dX6_metBy_20 : decode cX6_metBy 20 = .ok (.aload_n 0, 1) := by decide +kernel
theorem dX6_metBy_21 : decode cX6_metBy 21 = .ok (.iload_n 3, 1) := by decide +kernel
theorem dX6_metBy_22 : decode cX6_metBy 22 = .ok (.invokevirtual 253, 3) := by decide +kernel
theorem dX6_metBy_25 : decode cX6_metBy 25 = .ok (.ifCond .eq 9, 3) := by decide +kernel
theorem dX6_metBy_28 : decode cX6_metBy 28 = .ok (.iconst 1, 1) := by decide +kernel
theorem dX6_metBy_29 : decode cX6_metBy 29 = .ok (.iload_n 3, 1) := by decide +kernel
theorem dX6_metBy_30 : decode cX6_metBy 30 = .ok (.ishl, 1) := by decide +kernel
theorem dX6_metBy_31 : decode cX6_metBy 31 = .ok (.goto 4, 3) := by decide +kernel
theorem dX6_metBy_34 : decode cX6_metBy 34 = .ok (.iconst 0, 1) := by decide +kernel
theorem dX6_metBy_35 : decode cX6_metBy 35 = .ok (.ior, 1) := by decide +kernel
theorem dX6_metBy_36 : decode cX6_metBy 36 = .ok (.istore_n 2, 1) := by decide +kernel
theorem dX6_metBy_37 : decode cX6_metBy 37 = .ok (.iinc 3 1, 3) := by decide +kernel
theorem dX6_metBy_40 : decode cX6_metBy 40 = .ok (.goto (-36), 3) := by decide +kernel
theorem dX6_metBy_43 : decode cX6_metBy 43 = .ok (.iload_n 2, 1) := by decide +kernel
theorem dX6_metBy_44 : decode cX6_metBy 44 = .ok (.ireturn, 1) := by decide +kernel
theorem dX6_met_0 : decode cX6_met 0 = .ok (.aload_n 0, 1) := by decide +kernel
theorem dX6_met_1 : decode cX6_met 1 = .ok (.iconst 0, 1) := by decide +kernel
theorem dX6_met_2 : decode cX6_met 2 = .ok (.putfield 44, 3) := by decide +kernel
theorem dX6_met_5 : decode cX6_met 5 = .ok (.aload_n 0, 1) := by decide +kernel
theorem dX6_met_6 : decode cX6_met 6 = .ok (.getfield 186, 3) := by decide +kernel
theorem dX6_met_9 : decode cX6_met 9 = .ok (.ifCond .ne 6, 3) := by decide +kernel
theorem dX6_met_12 : decode cX6_met 12 = .ok (.ldc 205, 2) := by decide +kernel
theorem dX6_met_14 : decode cX6_met 14 = .ok (.ireturn, 1) := by decide +kernel
theorem dX6_met_15 : decode cX6_met 15 = .ok (.iload_n 1, 1) := by decide +kernel
theorem dX6_met_16 : decode cX6_met 16 = .ok (.ifCond .ge 8, 3) := by decide +kernel
theorem dX6_met_19 : decode cX6_met 19 = .ok (.ldc 64, 2) := by decide +kernel
theorem dX6_met_21 : decode cX6_met 21 = .ok (.goto 8, 3) := by decide +kernel
theorem dX6_met_24 : decode cX6_met 24 = .ok (.aload_n 0, 1) := by decide +kernel
theorem dX6_met_25 : decode cX6_met 25 = .ok (.iload_n 1, 1) := by decide +kernel
theorem dX6_met_26 : decode cX6_met 26 = .ok (.invokevirtual 256, 3) := by decide +kernel
theorem dX6_met_29 : decode cX6_met 29 = .ok (.ireturn, 1) := by decide +kernel
theorem dX6_cut_0 : decode cX6_cut 0 = .ok (.aload_n 0, 1) := by decide +kernel
theorem dX6_cut_1 : decode cX6_cut 1 = .ok (.iconst 0, 1) := by decide +kernel
theorem dX6_cut_2 : decode cX6_cut 2 = .ok (.putfield 44, 3) := by decide +kernel
theorem dX6_cut_5 : decode cX6_cut 5 = .ok (.iload_n 1, 1) := by decide +kernel
theorem dX6_cut_6 : decode cX6_cut 6 = .ok (.ifCond .lt 51, 3) := by decide +kernel
theorem dX6_cut_9 : decode cX6_cut 9 = .ok (.aload_n 0, 1) := by decide +kernel
theorem dX6_cut_10 : decode cX6_cut 10 = .ok (.iload_n 2, 1) := by decide +kernel
theorem dX6_cut_11 : decode cX6_cut 11 = .ok (.invokevirtual 211, 3) := by decide +kernel
theorem dX6_cut_14 : decode cX6_cut 14 = .ok (.ifCond .eq 43, 3) := by decide +kernel
theorem dX6_cut_17 : decode cX6_cut 17 = .ok (.aload_n 0, 1) := by decide +kernel
theorem dX6_cut_18 : decode cX6_cut 18 = .ok (.iload_n 3, 1) := by decide +kernel
theorem dX6_cut_19 : decode cX6_cut 19 = .ok (.invokevirtual 211, 3) := by decide +kernel
theorem dX6_cut_22 : decode cX6_cut 22 = .ok (.ifCond .eq 35, 3) := by decide +kernel
theorem dX6_cut_25 : decode cX6_cut 25 = .ok (.iload_n 2, 1) := by decide +kernel
theorem dX6_cut_26 : decode cX6_cut 26 = .ok (.iload_n 3, 1) := by decide +kernel
theorem dX6_cut_27 : decode cX6_cut 27 = .ok (.if_icmp .eq 30, 3) := by decide +kernel
theorem dX6_cut_30 : decode cX6_cut 30 = .ok (.aload_n 0, 1) := by decide +kernel
theorem dX6_cut_31 : decode cX6_cut 31 = .ok (.iload_n 2, 1) := by decide +kernel
theorem dX6_cut_32 : decode cX6_cut 32 = .ok (.invokevirtual 214, 3) := by decide +kernel
theorem dX6_cut_35 : decode cX6_cut 35 = .ok (.ifCond .eq 22, 3) := by decide +kernel
theorem dX6_cut_38 : decode cX6_cut 38 = .ok (.aload_n 0, 1) := by decide +kernel
theorem dX6_cut_39 : decode cX6_cut 39 = .ok (.iload_n 3, 1) := by decide +kernel
theorem dX6_cut_40 : decode cX6_cut 40 = .ok (.invokevirtual 214, 3) := by decide +kernel
theorem dX6_cut_43 : decode cX6_cut 43 = .ok (.ifCond .eq 14, 3) := by decide +kernel
theorem dX6_cut_46 : decode cX6_cut 46 = .ok (.iload 4, 2) := by decide +kernel
theorem dX6_cut_48 : decode cX6_cut 48 = .ok (.i2l, 1) := by decide +kernel
theorem dX6_cut_49 : decode cX6_cut 49 = .ok (.lconst 0, 1) := by decide +kernel
theorem dX6_cut_50 : decode cX6_cut 50 = .ok (.lconst 1, 1) := by decide +kernel
theorem dX6_cut_51 : decode cX6_cut 51 = .ok (.invokestatic 54, 3) := by decide +kernel
theorem dX6_cut_54 : decode cX6_cut 54 = .ok (.ifCond .ne 6, 3) := by decide +kernel
theorem dX6_cut_57 : decode cX6_cut 57 = .ok (.ldc 64, 2) := by decide +kernel
theorem dX6_cut_59 : decode cX6_cut 59 = .ok (.ireturn, 1) := by decide +kernel
theorem dX6_cut_60 : decode cX6_cut 60 = .ok (.aload_n 0, 1) := by decide +kernel
theorem dX6_cut_61 : decode cX6_cut 61 = .ok (.iload_n 2, 1) := by decide +kernel
theorem dX6_cut_62 : decode cX6_cut 62 = .ok (.invokevirtual 202, 3) := by decide +kernel
theorem dX6_cut_65 : decode cX6_cut 65 = .ok (.istore 5, 2) := by decide +kernel
theorem dX6_cut_67 : decode cX6_cut 67 = .ok (.aload_n 0, 1) := by decide +kernel
theorem dX6_cut_68 : decode cX6_cut 68 = .ok (.iload_n 3, 1) := by decide +kernel
theorem dX6_cut_69 : decode cX6_cut 69 = .ok (.invokevirtual 202, 3) := by decide +kernel
theorem dX6_cut_72 : decode cX6_cut 72 = .ok (.istore 6, 2) := by decide +kernel
theorem dX6_cut_74 : decode cX6_cut 74 = .ok (.ldc 80, 2) := by decide +kernel
theorem dX6_cut_76 : decode cX6_cut 76 = .ok (.istore 7, 2) := by decide +kernel
theorem dX6_cut_78 : decode cX6_cut 78 = .ok (.ldc 80, 2) := by decide +kernel
theorem dX6_cut_80 : decode cX6_cut 80 = .ok (.istore 8, 2) := by decide +kernel
theorem dX6_cut_82 : decode cX6_cut 82 = .ok (.iconst 0, 1) := by decide +kernel
theorem dX6_cut_83 : decode cX6_cut 83 = .ok (.istore 9, 2) := by decide +kernel
theorem dX6_cut_85 : decode cX6_cut 85 = .ok (.iload 9, 2) := by decide +kernel
theorem dX6_cut_87 : decode cX6_cut 87 = .ok (.iload 5, 2) := by decide +kernel
theorem dX6_cut_89 : decode cX6_cut 89 = .ok (.iload 6, 2) := by decide +kernel
theorem dX6_cut_91 : decode cX6_cut 91 = .ok (.iadd, 1) := by decide +kernel
theorem dX6_cut_92 : decode cX6_cut 92 = .ok (.if_icmp .gt 110, 3) := by decide +kernel
theorem dX6_cut_95 : decode cX6_cut 95 = .ok (.iload 7, 2) := by decide +kernel
theorem dX6_cut_97 : decode cX6_cut 97 = .ok (.ldc 80, 2) := by decide +kernel
theorem dX6_cut_99 : decode cX6_cut 99 = .ok (.if_icmp .ne 103, 3) := by decide +kernel
theorem dX6_cut_102 : decode cX6_cut 102 = .ok (.iconst 0, 1) := by decide +kernel
theorem dX6_cut_103 : decode cX6_cut 103 = .ok (.istore 10, 2) := by decide +kernel
theorem dX6_cut_105 : decode cX6_cut 105 = .ok (.iload 10, 2) := by decide +kernel
theorem dX6_cut_107 : decode cX6_cut 107 = .ok (.iload 9, 2) := by decide +kernel
theorem dX6_cut_109 : decode cX6_cut 109 = .ok (.if_icmp .gt 87, 3) := by decide +kernel
theorem dX6_cut_112 : decode cX6_cut 112 = .ok (.iload 7, 2) := by decide +kernel
theorem dX6_cut_114 : decode cX6_cut 114 = .ok (.ldc 80, 2) := by decide +kernel
theorem dX6_cut_116 : decode cX6_cut 116 = .ok (.if_icmp .ne 80, 3) := by decide +kernel
theorem dX6_cut_119 : decode cX6_cut 119 = .ok (.iload 10, 2) := by decide +kernel
theorem dX6_cut_121 : decode cX6_cut 121 = .ok (.iload 5, 2) := by decide +kernel
theorem dX6_cut_123 : decode cX6_cut 123 = .ok (.if_icmp .gt 67, 3) := by decide +kernel
theorem dX6_cut_126 : decode cX6_cut 126 = .ok (.iload 9, 2) := by decide +kernel
theorem dX6_cut_128 : decode cX6_cut 128 = .ok (.iload 10, 2) := by decide +kernel
theorem dX6_cut_130 : decode cX6_cut 130 = .ok (.isub, 1) := by decide +kernel
theorem dX6_cut_131 : decode cX6_cut 131 = .ok (.iload 6, 2) := by decide +kernel
theorem dX6_cut_133 : decode cX6_cut 133 = .ok (.if_icmp .gt 57, 3) := by decide +kernel
theorem dX6_cut_136 : decode cX6_cut 136 = .ok (.aload_n 0, 1) := by decide +kernel
theorem dX6_cut_137 : decode cX6_cut 137 = .ok (.getfield 31, 3) := by decide +kernel
theorem dX6_cut_140 : decode cX6_cut 140 = .ok (.iload_n 2, 1) := by decide +kernel
theorem dX6_cut_141 : decode cX6_cut 141 = .ok (.iload 10, 2) := by decide +kernel
theorem dX6_cut_143 : decode cX6_cut 143 = .ok (.ineg, 1) := by decide +kernel
theorem dX6_cut_144 : decode cX6_cut 144 = .ok (.iastore, 1) := by decide +kernel
theorem dX6_cut_145 : decode cX6_cut 145 = .ok (.aload_n 0, 1) := by decide +kernel
theorem dX6_cut_146 : decode cX6_cut 146 = .ok (.getfield 31, 3) := by decide +kernel
theorem dX6_cut_149 : decode cX6_cut 149 = .ok (.iload_n 3, 1) := by decide +kernel
theorem dX6_cut_150 : decode cX6_cut 150 = .ok (.iload 10, 2) := by decide +kernel
theorem dX6_cut_152 : decode cX6_cut 152 = .ok (.iload 9, 2) := by decide +kernel
theorem dX6_cut_154 : decode cX6_cut 154 = .ok (.isub, 1) := by decide +kernel
theorem dX6_cut_155 : decode cX6_cut 155 = .ok (.iastore, 1) := by decide +kernel
theorem dX6_cut_156 : decode cX6_cut 156 = .ok (.aload_n 0, 1) := by decide +kernel
theorem dX6_cut_157 : decode cX6_cut 157 = .ok (.iload_n 1, 1) := by decide +kernel
theorem dX6_cut_158 : decode cX6_cut 158 = .ok (.invokevirtual 256, 3) := by decide +kernel
theorem dX6_cut_161 : decode cX6_cut 161 = .ok (.iload_n 1, 1) := by decide +kernel
theorem dX6_cut_162 : decode cX6_cut 162 = .ok (.if_icmp .ne 8, 3) := by decide +kernel
theorem dX6_cut_165 : decode cX6_cut 165 = .ok (.iload 10, 2) := by decide +kernel
theorem dX6_cut_167 : decode cX6_cut 167 = .ok (.goto 5, 3) := by decide +kernel
theorem dX6_cut_170 : decode cX6_cut 170 = .ok (.ldc 80, 2) := by decide +kernel
theorem dX6_cut_172 : decode cX6_cut 172 = .ok (.istore 7, 2) := by decide +kernel
theorem dX6_cut_174 : decode cX6_cut 174 = .ok (.iload 7, 2) := by decide +kernel
theorem dX6_cut_176 : decode cX6_cut 176 = .ok (.ldc 80, 2) := by decide +kernel
theorem dX6_cut_178 : decode cX6_cut 178 = .ok (.if_icmp .ne 8, 3) := by decide +kernel
theorem dX6_cut_181 : decode cX6_cut 181 = .ok (.ldc 80, 2) := by decide +kernel
theorem dX6_cut_183 : decode cX6_cut 183 = .ok (.goto 5, 3) := by decide +kernel
theorem dX6_cut_186 : decode cX6_cut 186 = .ok (.iload 9, 2) := by decide +kernel
theorem dX6_cut_188 : decode cX6_cut 188 = .ok (.istore 8, 2) := by decide +kernel
theorem dX6_cut_190 : decode cX6_cut 190 = .ok (.iinc 10 1, 3) := by decide +kernel
theorem dX6_cut_193 : decode cX6_cut 193 = .ok (.goto (-88), 3) := by decide +kernel
theorem dX6_cut_196 : decode cX6_cut 196 = .ok (.iinc 9 1, 3) := by decide +kernel
theorem dX6_cut_199 : decode cX6_cut 199 = .ok (.goto (-114), 3) := by decide +kernel
theorem dX6_cut_202 : decode cX6_cut 202 = .ok (.aload_n 0, 1) := by decide +kernel
theorem dX6_cut_203 : decode cX6_cut 203 = .ok (.getfield 31, 3) := by decide +kernel
theorem dX6_cut_206 : decode cX6_cut 206 = .ok (.iload_n 2, 1) := by decide +kernel
theorem dX6_cut_207 : decode cX6_cut 207 = .ok (.iconst 0, 1) := by decide +kernel
theorem dX6_cut_208 : decode cX6_cut 208 = .ok (.iastore, 1) := by decide +kernel
theorem dX6_cut_209 : decode cX6_cut 209 = .ok (.aload_n 0, 1) := by decide +kernel
theorem dX6_cut_210 : decode cX6_cut 210 = .ok (.getfield 31, 3) := by decide +kernel
theorem dX6_cut_213 : decode cX6_cut 213 = .ok (.iload_n 3, 1) := by decide +kernel
theorem dX6_cut_214 : decode cX6_cut 214 = .ok (.iconst 0, 1) := by decide +kernel
theorem dX6_cut_215 : decode cX6_cut 215 = .ok (.iastore, 1) := by decide +kernel
theorem dX6_cut_216 : decode cX6_cut 216 = .ok (.iload 4, 2) := by decide +kernel
theorem dX6_cut_218 : decode cX6_cut 218 = .ok (.ifCond .ne 8, 3) := by decide +kernel
theorem dX6_cut_221 : decode cX6_cut 221 = .ok (.iload 8, 2) := by decide +kernel
theorem dX6_cut_223 : decode cX6_cut 223 = .ok (.goto 5, 3) := by decide +kernel
theorem dX6_cut_226 : decode cX6_cut 226 = .ok (.iload 7, 2) := by decide +kernel
theorem dX6_cut_228 : decode cX6_cut 228 = .ok (.ireturn, 1) := by decide +kernel
theorem dX6_kindOfSort_0 : decode cX6_kindOfSort 0 = .ok (.iload_n 0, 1) := by decide +kernel
theorem dX6_kindOfSort_1 : decode cX6_kindOfSort 1 = .ok (.ifCond .ne 7, 3) := by decide +kernel
theorem dX6_kindOfSort_4 : decode cX6_kindOfSort 4 = .ok (.iconst 1, 1) := by decide +kernel
theorem dX6_kindOfSort_5 : decode cX6_kindOfSort 5 = .ok (.goto 31, 3) := by decide +kernel
theorem dX6_kindOfSort_8 : decode cX6_kindOfSort 8 = .ok (.iload_n 0, 1) := by decide +kernel
theorem dX6_kindOfSort_9 : decode cX6_kindOfSort 9 = .ok (.iconst 1, 1) := by decide +kernel
theorem dX6_kindOfSort_10 : decode cX6_kindOfSort 10 = .ok (.if_icmp .ne 7, 3) := by decide +kernel
theorem dX6_kindOfSort_13 : decode cX6_kindOfSort 13 = .ok (.iconst 3, 1) := by decide +kernel
theorem dX6_kindOfSort_14 : decode cX6_kindOfSort 14 = .ok (.goto 22, 3) := by decide +kernel
theorem dX6_kindOfSort_17 : decode cX6_kindOfSort 17 = .ok (.iload_n 0, 1) := by decide +kernel
theorem dX6_kindOfSort_18 : decode cX6_kindOfSort 18 = .ok (.iconst 2, 1) := by decide +kernel
theorem dX6_kindOfSort_19 : decode cX6_kindOfSort 19 = .ok (.if_icmp .ne 7, 3) := by decide +kernel
theorem dX6_kindOfSort_22 : decode cX6_kindOfSort 22 = .ok (.iconst 2, 1) := by decide +kernel
theorem dX6_kindOfSort_23 : decode cX6_kindOfSort 23 = .ok (.goto 13, 3) := by decide +kernel
theorem dX6_kindOfSort_26 : decode cX6_kindOfSort 26 = .ok (.iload_n 0, 1) := by decide +kernel
theorem dX6_kindOfSort_27 : decode cX6_kindOfSort 27 = .ok (.iconst 3, 1) := by decide +kernel
theorem dX6_kindOfSort_28 : decode cX6_kindOfSort 28 = .ok (.if_icmp .ne 7, 3) := by decide +kernel
theorem dX6_kindOfSort_31 : decode cX6_kindOfSort 31 = .ok (.iconst 4, 1) := by decide +kernel
theorem dX6_kindOfSort_32 : decode cX6_kindOfSort 32 = .ok (.goto 4, 3) := by decide +kernel
theorem dX6_kindOfSort_35 : decode cX6_kindOfSort 35 = .ok (.iconst 5, 1) := by decide +kernel
theorem dX6_kindOfSort_36 : decode cX6_kindOfSort 36 = .ok (.ireturn, 1) := by decide +kernel
theorem dX6_plant_0 : decode cX6_plant 0 = .ok (.aload_n 0, 1) := by decide +kernel
theorem dX6_plant_1 : decode cX6_plant 1 = .ok (.iconst 0, 1) := by decide +kernel
theorem dX6_plant_2 : decode cX6_plant 2 = .ok (.putfield 44, 3) := by decide +kernel
theorem dX6_plant_5 : decode cX6_plant 5 = .ok (.aload_n 0, 1) := by decide +kernel
theorem dX6_plant_6 : decode cX6_plant 6 = .ok (.getfield 186, 3) := by decide +kernel
theorem dX6_plant_9 : decode cX6_plant 9 = .ok (.ifCond .ne 6, 3) := by decide +kernel
theorem dX6_plant_12 : decode cX6_plant 12 = .ok (.ldc 205, 2) := by decide +kernel
theorem dX6_plant_14 : decode cX6_plant 14 = .ok (.ireturn, 1) := by decide +kernel
theorem dX6_plant_15 : decode cX6_plant 15 = .ok (.iload_n 1, 1) := by decide +kernel
theorem dX6_plant_16 : decode cX6_plant 16 = .ok (.ifCond .lt 40, 3) := by decide +kernel
theorem dX6_plant_19 : decode cX6_plant 19 = .ok (.iload_n 2, 1) := by decide +kernel
theorem dX6_plant_20 : decode cX6_plant 20 = .ok (.i2l, 1) := by decide +kernel
theorem dX6_plant_21 : decode cX6_plant 21 = .ok (.lconst 0, 1) := by decide +kernel
theorem dX6_plant_22 : decode cX6_plant 22 = .ok (.ldc2_w 259, 3) := by decide +kernel
theorem dX6_plant_25 : decode cX6_plant 25 = .ok (.invokestatic 54, 3) := by decide +kernel
theorem dX6_plant_28 : decode cX6_plant 28 = .ok (.ifCond .eq 28, 3) := by decide +kernel
theorem dX6_plant_31 : decode cX6_plant 31 = .ok (.iload_n 3, 1) := by decide +kernel
theorem dX6_plant_32 : decode cX6_plant 32 = .ok (.i2l, 1) := by decide +kernel
theorem dX6_plant_33 : decode cX6_plant 33 = .ok (.lconst 0, 1) := by decide +kernel
theorem dX6_plant_34 : decode cX6_plant 34 = .ok (.ldc2_w 261, 3) := by decide +kernel
theorem dX6_plant_37 : decode cX6_plant 37 = .ok (.invokestatic 54, 3) := by decide +kernel
theorem dX6_plant_40 : decode cX6_plant 40 = .ok (.ifCond .eq 16, 3) := by decide +kernel
theorem dX6_plant_43 : decode cX6_plant 43 = .ok (.iload 4, 2) := by decide +kernel
theorem dX6_plant_45 : decode cX6_plant 45 = .ok (.i2l, 1) := by decide +kernel
theorem dX6_plant_46 : decode cX6_plant 46 = .ok (.lconst 0, 1) := by decide +kernel
theorem dX6_plant_47 : decode cX6_plant 47 = .ok (.ldc2_w 206, 3) := by decide +kernel
theorem dX6_plant_50 : decode cX6_plant 50 = .ok (.invokestatic 54, 3) := by decide +kernel
theorem dX6_plant_53 : decode cX6_plant 53 = .ok (.ifCond .ne 6, 3) := by decide +kernel
theorem dX6_plant_56 : decode cX6_plant 56 = .ok (.ldc 64, 2) := by decide +kernel
theorem dX6_plant_58 : decode cX6_plant 58 = .ok (.ireturn, 1) := by decide +kernel
theorem dX6_plant_59 : decode cX6_plant 59 = .ok (.aload_n 0, 1) := by decide +kernel
theorem dX6_plant_60 : decode cX6_plant 60 = .ok (.getfield 19, 3) := by decide +kernel
theorem dX6_plant_63 : decode cX6_plant 63 = .ok (.iconst 0, 1) := by decide +kernel
theorem dX6_plant_64 : decode cX6_plant 64 = .ok (.iaload, 1) := by decide +kernel
theorem dX6_plant_65 : decode cX6_plant 65 = .ok (.bipush 6, 2) := by decide +kernel
theorem dX6_plant_67 : decode cX6_plant 67 = .ok (.if_icmp .ne 6, 3) := by decide +kernel
theorem dX6_plant_70 : decode cX6_plant 70 = .ok (.ldc 80, 2) := by decide +kernel
theorem dX6_plant_72 : decode cX6_plant 72 = .ok (.ireturn, 1) := by decide +kernel
theorem dX6_plant_73 : decode cX6_plant 73 = .ok (.bipush 26, 2) := by decide +kernel
theorem dX6_plant_75 : decode cX6_plant 75 = .ok (.iconst 5, 1) := by decide +kernel
theorem dX6_plant_76 : decode cX6_plant 76 = .ok (.aload_n 0, 1) := by decide +kernel
theorem dX6_plant_77 : decode cX6_plant 77 = .ok (.getfield 19, 3) := by decide +kernel
theorem dX6_plant_80 : decode cX6_plant 80 = .ok (.iconst 0, 1) := by decide +kernel
theorem dX6_plant_81 : decode cX6_plant 81 = .ok (.iaload, 1) := by decide +kernel
theorem dX6_plant_82 : decode cX6_plant 82 = .ok (.imul, 1) := by decide +kernel
theorem dX6_plant_83 : decode cX6_plant 83 = .ok (.iadd, 1) := by decide +kernel
theorem dX6_plant_84 : decode cX6_plant 84 = .ok (.istore 5, 2) := by decide +kernel
theorem dX6_plant_86 : decode cX6_plant 86 = .ok (.aload_n 0, 1) := by decide +kernel
theorem dX6_plant_87 : decode cX6_plant 87 = .ok (.getfield 19, 3) := by decide +kernel
theorem dX6_plant_90 : decode cX6_plant 90 = .ok (.iconst 3, 1) := by decide +kernel
theorem dX6_plant_91 : decode cX6_plant 91 = .ok (.iaload, 1) := by decide +kernel
theorem dX6_plant_92 : decode cX6_plant 92 = .ok (.istore 6, 2) := by decide +kernel
theorem dX6_plant_94 : decode cX6_plant 94 = .ok (.aload_n 0, 1) := by decide +kernel
theorem dX6_plant_95 : decode cX6_plant 95 = .ok (.getfield 19, 3) := by decide +kernel
theorem dX6_plant_98 : decode cX6_plant 98 = .ok (.iload 5, 2) := by decide +kernel
theorem dX6_plant_100 : decode cX6_plant 100 = .ok (.iload_n 2, 1) := by decide +kernel
theorem dX6_plant_101 : decode cX6_plant 101 = .ok (.invokestatic 263, 3) := by decide +kernel
theorem dX6_plant_104 : decode cX6_plant 104 = .ok (.iastore, 1) := by decide +kernel
theorem dX6_plant_105 : decode cX6_plant 105 = .ok (.aload_n 0, 1) := by decide +kernel
theorem dX6_plant_106 : decode cX6_plant 106 = .ok (.getfield 19, 3) := by decide +kernel
theorem dX6_plant_109 : decode cX6_plant 109 = .ok (.iload 5, 2) := by decide +kernel
theorem dX6_plant_111 : decode cX6_plant 111 = .ok (.iconst 2, 1) := by decide +kernel
theorem dX6_plant_112 : decode cX6_plant 112 = .ok (.iadd, 1) := by decide +kernel
theorem dX6_plant_113 : decode cX6_plant 113 = .ok (.iload_n 2, 1) := by decide +kernel
theorem dX6_plant_114 : decode cX6_plant 114 = .ok (.iconst 3, 1) := by decide +kernel
theorem dX6_plant_115 : decode cX6_plant 115 = .ok (.if_icmp .ge 16, 3) := by decide +kernel
theorem dX6_plant_118 : decode cX6_plant 118 = .ok (.iconst 5, 1) := by decide +kernel
theorem dX6_plant_119 : decode cX6_plant 119 = .ok (.iload_n 3, 1) := by decide +kernel
theorem dX6_plant_120 : decode cX6_plant 120 = .ok (.aload_n 0, 1) := by decide +kernel
theorem dX6_plant_121 : decode cX6_plant 121 = .ok (.getfield 19, 3) := by decide +kernel
theorem dX6_plant_124 : decode cX6_plant 124 = .ok (.iconst 2, 1) := by decide +kernel
theorem dX6_plant_125 : decode cX6_plant 125 = .ok (.iaload, 1) := by decide +kernel
theorem dX6_plant_126 : decode cX6_plant 126 = .ok (.imul, 1) := by decide +kernel
theorem dX6_plant_127 : decode cX6_plant 127 = .ok (.isub, 1) := by decide +kernel
theorem dX6_plant_128 : decode cX6_plant 128 = .ok (.goto 4, 3) := by decide +kernel
theorem dX6_plant_131 : decode cX6_plant 131 = .ok (.iconst 5, 1) := by decide +kernel
theorem dX6_plant_132 : decode cX6_plant 132 = .ok (.iastore, 1) := by decide +kernel
theorem dX6_plant_133 : decode cX6_plant 133 = .ok (.aload_n 0, 1) := by decide +kernel
theorem dX6_plant_134 : decode cX6_plant 134 = .ok (.getfield 19, 3) := by decide +kernel
theorem dX6_plant_137 : decode cX6_plant 137 = .ok (.iload 5, 2) := by decide +kernel
theorem dX6_plant_139 : decode cX6_plant 139 = .ok (.iconst 3, 1) := by decide +kernel
theorem dX6_plant_140 : decode cX6_plant 140 = .ok (.iadd, 1) := by decide +kernel
theorem dX6_plant_141 : decode cX6_plant 141 = .ok (.iload_n 3, 1) := by decide +kernel
theorem dX6_plant_142 : decode cX6_plant 142 = .ok (.iastore, 1) := by decide +kernel
theorem dX6_plant_143 : decode cX6_plant 143 = .ok (.aload_n 0, 1) := by decide +kernel
theorem dX6_plant_144 : decode cX6_plant 144 = .ok (.getfield 19, 3) := by decide +kernel
theorem dX6_plant_147 : decode cX6_plant 147 = .ok (.iload 5, 2) := by decide +kernel
theorem dX6_plant_149 : decode cX6_plant 149 = .ok (.iconst 4, 1) := by decide +kernel
theorem dX6_plant_150 : decode cX6_plant 150 = .ok (.iadd, 1) := by decide +kernel
theorem dX6_plant_151 : decode cX6_plant 151 = .ok (.iconst 0, 1) := by decide +kernel
theorem dX6_plant_152 : decode cX6_plant 152 = .ok (.iastore, 1) := by decide +kernel
theorem dX6_plant_153 : decode cX6_plant 153 = .ok (.aload_n 0, 1) := by decide +kernel
theorem dX6_plant_154 : decode cX6_plant 154 = .ok (.getfield 19, 3) := by decide +kernel
theorem dX6_plant_157 : decode cX6_plant 157 = .ok (.iconst 3, 1) := by decide +kernel
theorem dX6_plant_158 : decode cX6_plant 158 = .ok (.iconst 0, 1) := by decide +kernel
theorem dX6_plant_159 : decode cX6_plant 159 = .ok (.iastore, 1) := by decide +kernel
theorem dX6_plant_160 : decode cX6_plant 160 = .ok (.aload_n 0, 1) := by decide +kernel
theorem dX6_plant_161 : decode cX6_plant 161 = .ok (.getfield 19, 3) := by decide +kernel
theorem dX6_plant_164 : decode cX6_plant 164 = .ok (.iconst 2, 1) := by decide +kernel
theorem dX6_plant_165 : decode cX6_plant 165 = .ok (.dup2, 1) := by decide +kernel
theorem dX6_plant_166 : decode cX6_plant 166 = .ok (.iaload, 1) := by decide +kernel
theorem dX6_plant_167 : decode cX6_plant 167 = .ok (.iload 4, 2) := by decide +kernel
theorem dX6_plant_169 : decode cX6_plant 169 = .ok (.iadd, 1) := by decide +kernel
theorem dX6_plant_170 : decode cX6_plant 170 = .ok (.iastore, 1) := by decide +kernel
theorem dX6_plant_171 : decode cX6_plant 171 = .ok (.ldc 80, 2) := by decide +kernel
theorem dX6_plant_173 : decode cX6_plant 173 = .ok (.istore 7, 2) := by decide +kernel
theorem dX6_plant_175 : decode cX6_plant 175 = .ok (.iconst 1, 1) := by decide +kernel
theorem dX6_plant_176 : decode cX6_plant 176 = .ok (.istore 8, 2) := by decide +kernel
theorem dX6_plant_178 : decode cX6_plant 178 = .ok (.iload 8, 2) := by decide +kernel
theorem dX6_plant_180 : decode cX6_plant 180 = .ok (.bipush 18, 2) := by decide +kernel
theorem dX6_plant_182 : decode cX6_plant 182 = .ok (.if_icmp .gt 76, 3) := by decide +kernel
theorem dX6_plant_185 : decode cX6_plant 185 = .ok (.iload 7, 2) := by decide +kernel
theorem dX6_plant_187 : decode cX6_plant 187 = .ok (.ldc 80, 2) := by decide +kernel
theorem dX6_plant_189 : decode cX6_plant 189 = .ok (.if_icmp .ne 69, 3) := by decide +kernel
theorem dX6_plant_192 : decode cX6_plant 192 = .ok (.aload_n 0, 1) := by decide +kernel
theorem dX6_plant_193 : decode cX6_plant 193 = .ok (.iload 8, 2) := by decide +kernel
theorem dX6_plant_195 : decode cX6_plant 195 = .ok (.invokevirtual 196, 3) := by decide +kernel
theorem dX6_plant_198 : decode cX6_plant 198 = .ok (.ldc 80, 2) := by decide +kernel
theorem dX6_plant_200 : decode cX6_plant 200 = .ok (.if_icmp .ne 52, 3) := by decide +kernel
theorem dX6_plant_203 : decode cX6_plant 203 = .ok (.aload_n 0, 1) := by decide +kernel
theorem dX6_plant_204 : decode cX6_plant 204 = .ok (.getfield 19, 3) := by decide +kernel
theorem dX6_plant_207 : decode cX6_plant 207 = .ok (.iload 5, 2) := by decide +kernel
theorem dX6_plant_209 : decode cX6_plant 209 = .ok (.iconst 1, 1) := by decide +kernel
theorem dX6_plant_210 : decode cX6_plant 210 = .ok (.iadd, 1) := by decide +kernel
theorem dX6_plant_211 : decode cX6_plant 211 = .ok (.iload 8, 2) := by decide +kernel
theorem dX6_plant_213 : decode cX6_plant 213 = .ok (.iastore, 1) := by decide +kernel
theorem dX6_plant_214 : decode cX6_plant 214 = .ok (.aload_n 0, 1) := by decide +kernel
theorem dX6_plant_215 : decode cX6_plant 215 = .ok (.getfield 19, 3) := by decide +kernel
theorem dX6_plant_218 : decode cX6_plant 218 = .ok (.iconst 0, 1) := by decide +kernel
theorem dX6_plant_219 : decode cX6_plant 219 = .ok (.dup2, 1) := by decide +kernel
theorem dX6_plant_220 : decode cX6_plant 220 = .ok (.iaload, 1) := by decide +kernel
theorem dX6_plant_221 : decode cX6_plant 221 = .ok (.iconst 1, 1) := by decide +kernel
theorem dX6_plant_222 : decode cX6_plant 222 = .ok (.iadd, 1) := by decide +kernel
theorem dX6_plant_223 : decode cX6_plant 223 = .ok (.iastore, 1) := by decide +kernel
theorem dX6_plant_224 : decode cX6_plant 224 = .ok (.aload_n 0, 1) := by decide +kernel
theorem dX6_plant_225 : decode cX6_plant 225 = .ok (.iload_n 1, 1) := by decide +kernel
theorem dX6_plant_226 : decode cX6_plant 226 = .ok (.invokevirtual 256, 3) := by decide +kernel
theorem dX6_plant_229 : decode cX6_plant 229 = .ok (.iload_n 1, 1) := by decide +kernel
theorem dX6_plant_230 : decode cX6_plant 230 = .ok (.if_icmp .ne 8, 3) := by decide +kernel
theorem dX6_plant_233 : decode cX6_plant 233 = .ok (.iload 8, 2) := by decide +kernel
theorem dX6_plant_235 : decode cX6_plant 235 = .ok (.goto 5, 3) := by decide +kernel
theorem dX6_plant_238 : decode cX6_plant 238 = .ok (.ldc 80, 2) := by decide +kernel
theorem dX6_plant_240 : decode cX6_plant 240 = .ok (.istore 7, 2) := by decide +kernel
theorem dX6_plant_242 : decode cX6_plant 242 = .ok (.aload_n 0, 1) := by decide +kernel
theorem dX6_plant_243 : decode cX6_plant 243 = .ok (.getfield 19, 3) := by decide +kernel
theorem dX6_plant_246 : decode cX6_plant 246 = .ok (.iconst 0, 1) := by decide +kernel
theorem dX6_plant_247 : decode cX6_plant 247 = .ok (.dup2, 1) := by decide +kernel
theorem dX6_plant_248 : decode cX6_plant 248 = .ok (.iaload, 1) := by decide +kernel
theorem dX6_plant_249 : decode cX6_plant 249 = .ok (.iconst 1, 1) := by decide +kernel
theorem dX6_plant_250 : decode cX6_plant 250 = .ok (.isub, 1) := by decide +kernel
theorem dX6_plant_251 : decode cX6_plant 251 = .ok (.iastore, 1) := by decide +kernel
theorem dX6_plant_252 : decode cX6_plant 252 = .ok (.iinc 8 1, 3) := by decide +kernel
theorem dX6_plant_255 : decode cX6_plant 255 = .ok (.goto (-77), 3) := by decide +kernel
theorem dX6_plant_258 : decode cX6_plant 258 = .ok (.aload_n 0, 1) := by decide +kernel
theorem dX6_plant_259 : decode cX6_plant 259 = .ok (.getfield 19, 3) := by decide +kernel
theorem dX6_plant_262 : decode cX6_plant 262 = .ok (.iconst 3, 1) := by decide +kernel
theorem dX6_plant_263 : decode cX6_plant 263 = .ok (.iload 6, 2) := by decide +kernel
theorem dX6_plant_265 : decode cX6_plant 265 = .ok (.iastore, 1) := by decide +kernel
theorem dX6_plant_266 : decode cX6_plant 266 = .ok (.aload_n 0, 1) := by decide +kernel
theorem dX6_plant_267 : decode cX6_plant 267 = .ok (.getfield 19, 3) := by decide +kernel
theorem dX6_plant_270 : decode cX6_plant 270 = .ok (.iconst 2, 1) := by decide +kernel
theorem dX6_plant_271 : decode cX6_plant 271 = .ok (.dup2, 1) := by decide +kernel
theorem dX6_plant_272 : decode cX6_plant 272 = .ok (.iaload, 1) := by decide +kernel
theorem dX6_plant_273 : decode cX6_plant 273 = .ok (.iload 4, 2) := by decide +kernel
theorem dX6_plant_275 : decode cX6_plant 275 = .ok (.isub, 1) := by decide +kernel
theorem dX6_plant_276 : decode cX6_plant 276 = .ok (.iastore, 1) := by decide +kernel
theorem dX6_plant_277 : decode cX6_plant 277 = .ok (.iload 7, 2) := by decide +kernel
theorem dX6_plant_279 : decode cX6_plant 279 = .ok (.ireturn, 1) := by decide +kernel
theorem dX6_moon_0 : decode cX6_moon 0 = .ok (.aload_n 0, 1) := by decide +kernel
theorem dX6_moon_1 : decode cX6_moon 1 = .ok (.iconst 0, 1) := by decide +kernel
theorem dX6_moon_2 : decode cX6_moon 2 = .ok (.putfield 44, 3) := by decide +kernel
theorem dX6_moon_5 : decode cX6_moon 5 = .ok (.aload_n 0, 1) := by decide +kernel
theorem dX6_moon_6 : decode cX6_moon 6 = .ok (.getfield 186, 3) := by decide +kernel
theorem dX6_moon_9 : decode cX6_moon 9 = .ok (.ifCond .ne 6, 3) := by decide +kernel
theorem dX6_moon_12 : decode cX6_moon 12 = .ok (.ldc 205, 2) := by decide +kernel
theorem dX6_moon_14 : decode cX6_moon 14 = .ok (.ireturn, 1) := by decide +kernel
theorem dX6_moon_15 : decode cX6_moon 15 = .ok (.iload_n 1, 1) := by decide +kernel
theorem dX6_moon_16 : decode cX6_moon 16 = .ok (.invokestatic 243, 3) := by decide +kernel
theorem dX6_moon_19 : decode cX6_moon 19 = .ok (.ifCond .ne 6, 3) := by decide +kernel
theorem dX6_moon_22 : decode cX6_moon 22 = .ok (.ldc 64, 2) := by decide +kernel
theorem dX6_moon_24 : decode cX6_moon 24 = .ok (.ireturn, 1) := by decide +kernel
theorem dX6_moon_25 : decode cX6_moon 25 = .ok (.iconst 0, 1) := by decide +kernel
theorem dX6_moon_26 : decode cX6_moon 26 = .ok (.istore_n 2, 1) := by decide +kernel
theorem dX6_moon_27 : decode cX6_moon 27 = .ok (.iconst 0, 1) := by decide +kernel
theorem dX6_moon_28 : decode cX6_moon 28 = .ok (.istore_n 3, 1) := by decide +kernel
theorem dX6_moon_29 : decode cX6_moon 29 = .ok (.iload_n 3, 1) := by decide +kernel
theorem dX6_moon_30 : decode cX6_moon 30 = .ok (.bipush 12, 2) := by decide +kernel
theorem dX6_moon_32 : decode cX6_moon 32 = .ok (.if_icmp .gt 49, 3) := by decide +kernel
theorem dX6_moon_35 : decode cX6_moon 35 = .ok (.iload_n 2, 1) := by decide +kernel
theorem dX6_moon_36 : decode cX6_moon 36 = .ok (.aload_n 0, 1) := by decide +kernel
theorem dX6_moon_37 : decode cX6_moon 37 = .ok (.iconst 0, 1) := by decide +kernel
theorem dX6_moon_38 : decode cX6_moon 38 = .ok (.aload_n 0, 1) := by decide +kernel
theorem dX6_moon_39 : decode cX6_moon 39 = .ok (.iconst 0, 1) := by decide +kernel
theorem dX6_moon_40 : decode cX6_moon 40 = .ok (.invokevirtual 199, 3) := by decide +kernel
theorem dX6_moon_43 : decode cX6_moon 43 = .ok (.iload_n 1, 1) := by decide +kernel
theorem dX6_moon_44 : decode cX6_moon 44 = .ok (.iadd, 1) := by decide +kernel
theorem dX6_moon_45 : decode cX6_moon 45 = .ok (.bipush 19, 2) := by decide +kernel
theorem dX6_moon_47 : decode cX6_moon 47 = .ok (.aload_n 0, 1) := by decide +kernel
theorem dX6_moon_48 : decode cX6_moon 48 = .ok (.bipush 19, 2) := by decide +kernel
theorem dX6_moon_50 : decode cX6_moon 50 = .ok (.invokevirtual 199, 3) := by decide +kernel
theorem dX6_moon_53 : decode cX6_moon 53 = .ok (.bipush 20, 2) := by decide +kernel
theorem dX6_moon_55 : decode cX6_moon 55 = .ok (.iadd, 1) := by decide +kernel
theorem dX6_moon_56 : decode cX6_moon 56 = .ok (.iconst 3, 1) := by decide +kernel
theorem dX6_moon_57 : decode cX6_moon 57 = .ok (.iload_n 3, 1) := by decide +kernel
theorem dX6_moon_58 : decode cX6_moon 58 = .ok (.imul, 1) := by decide +kernel
theorem dX6_moon_59 : decode cX6_moon 59 = .ok (.iadd, 1) := by decide +kernel
theorem dX6_moon_60 : decode cX6_moon 60 = .ok (.invokevirtual 233, 3) := by decide +kernel
theorem dX6_moon_63 : decode cX6_moon 63 = .ok (.ifCond .eq 9, 3) := by decide +kernel
theorem dX6_moon_66 : decode cX6_moon 66 = .ok (.iconst 1, 1) := by decide +kernel
theorem dX6_moon_67 : decode cX6_moon 67 = .ok (.iload_n 3, 1) := by decide +kernel
theorem dX6_moon_68 : decode cX6_moon 68 = .ok (.ishl, 1) := by decide +kernel
theorem dX6_moon_69 : decode cX6_moon 69 = .ok (.goto 4, 3) := by decide +kernel
theorem dX6_moon_72 : decode cX6_moon 72 = .ok (.iconst 0, 1) := by decide +kernel
theorem dX6_moon_73 : decode cX6_moon 73 = .ok (.ior, 1) := by decide +kernel
theorem dX6_moon_74 : decode cX6_moon 74 = .ok (.istore_n 2, 1) := by decide +kernel
theorem dX6_moon_75 : decode cX6_moon 75 = .ok (.iinc 3 1, 3) := by decide +kernel
theorem dX6_moon_78 : decode cX6_moon 78 = .ok (.goto (-49), 3) := by decide +kernel
theorem dX6_moon_81 : decode cX6_moon 81 = .ok (.iload_n 2, 1) := by decide +kernel
theorem dX6_moon_82 : decode cX6_moon 82 = .ok (.ireturn, 1) := by decide +kernel
theorem dX6_areThings_0 : decode cX6_areThings 0 = .ok (.iload_n 1, 1) := by decide +kernel
theorem dX6_areThings_1 : decode cX6_areThings 1 = .ok (.i2l, 1) := by decide +kernel
theorem dX6_areThings_2 : decode cX6_areThings 2 = .ok (.lconst 0, 1) := by decide +kernel
theorem dX6_areThings_3 : decode cX6_areThings 3 = .ok (.iconst 1, 1) := by decide +kernel
theorem dX6_areThings_4 : decode cX6_areThings 4 = .ok (.aload_n 0, 1) := by decide +kernel
theorem dX6_areThings_5 : decode cX6_areThings 5 = .ok (.getfield 19, 3) := by decide +kernel
theorem dX6_areThings_8 : decode cX6_areThings 8 = .ok (.iconst 1, 1) := by decide +kernel
theorem dX6_areThings_9 : decode cX6_areThings 9 = .ok (.iaload, 1) := by decide +kernel
theorem dX6_areThings_10 : decode cX6_areThings 10 = .ok (.ishl, 1) := by decide +kernel
theorem dX6_areThings_11 : decode cX6_areThings 11 = .ok (.iconst 1, 1) := by decide +kernel
theorem dX6_areThings_12 : decode cX6_areThings 12 = .ok (.isub, 1) := by decide +kernel
theorem dX6_areThings_13 : decode cX6_areThings 13 = .ok (.i2l, 1) := by decide +kernel
theorem dX6_areThings_14 : decode cX6_areThings 14 = .ok (.invokestatic 54, 3) := by decide +kernel
theorem dX6_areThings_17 : decode cX6_areThings 17 = .ok (.ireturn, 1) := by decide +kernel
theorem dX6_path_0 : decode cX6_path 0 = .ok (.aload_n 0, 1) := by decide +kernel
theorem dX6_path_1 : decode cX6_path 1 = .ok (.iconst 0, 1) := by decide +kernel
theorem dX6_path_2 : decode cX6_path 2 = .ok (.putfield 44, 3) := by decide +kernel
theorem dX6_path_5 : decode cX6_path 5 = .ok (.aload_n 0, 1) := by decide +kernel
theorem dX6_path_6 : decode cX6_path 6 = .ok (.getfield 186, 3) := by decide +kernel
theorem dX6_path_9 : decode cX6_path 9 = .ok (.ifCond .ne 6, 3) := by decide +kernel
theorem dX6_path_12 : decode cX6_path 12 = .ok (.ldc 205, 2) := by decide +kernel
theorem dX6_path_14 : decode cX6_path 14 = .ok (.ireturn, 1) := by decide +kernel
theorem dX6_path_15 : decode cX6_path 15 = .ok (.iload_n 1, 1) := by decide +kernel
theorem dX6_path_16 : decode cX6_path 16 = .ok (.invokestatic 243, 3) := by decide +kernel
theorem dX6_path_19 : decode cX6_path 19 = .ok (.ifCond .eq 11, 3) := by decide +kernel
theorem dX6_path_22 : decode cX6_path 22 = .ok (.aload_n 0, 1) := by decide +kernel
theorem dX6_path_23 : decode cX6_path 23 = .ok (.iload_n 2, 1) := by decide +kernel
theorem dX6_path_24 : decode cX6_path 24 = .ok (.invokevirtual 266, 3) := by decide +kernel
theorem dX6_path_27 : decode cX6_path 27 = .ok (.ifCond .ne 6, 3) := by decide +kernel
theorem dX6_path_30 : decode cX6_path 30 = .ok (.ldc 64, 2) := by decide +kernel
theorem dX6_path_32 : decode cX6_path 32 = .ok (.ireturn, 1) := by decide +kernel
theorem dX6_path_33 : decode cX6_path 33 = .ok (.iconst 0, 1) := by decide +kernel
theorem dX6_path_34 : decode cX6_path 34 = .ok (.istore_n 3, 1) := by decide +kernel
theorem dX6_path_35 : decode cX6_path 35 = .ok (.iconst 0, 1) := by decide +kernel
theorem dX6_path_36 : decode cX6_path 36 = .ok (.istore 4, 2) := by decide +kernel
theorem dX6_path_38 : decode cX6_path 38 = .ok (.iload 4, 2) := by decide +kernel
theorem dX6_path_40 : decode cX6_path 40 = .ok (.bipush 18, 2) := by decide +kernel
theorem dX6_path_42 : decode cX6_path 42 = .ok (.if_icmp .gt 32, 3) := by decide +kernel
theorem dX6_path_45 : decode cX6_path 45 = .ok (.iload_n 3, 1) := by decide +kernel
theorem dX6_path_46 : decode cX6_path 46 = .ok (.aload_n 0, 1) := by decide +kernel
theorem dX6_path_47 : decode cX6_path 47 = .ok (.iload 4, 2) := by decide +kernel
theorem dX6_path_49 : decode cX6_path 49 = .ok (.iload_n 1, 1) := by decide +kernel
theorem dX6_path_50 : decode cX6_path 50 = .ok (.invokevirtual 246, 3) := by decide +kernel
theorem dX6_path_53 : decode cX6_path 53 = .ok (.iload_n 2, 1) := by decide +kernel
theorem dX6_path_54 : decode cX6_path 54 = .ok (.iand, 1) := by decide +kernel
theorem dX6_path_55 : decode cX6_path 55 = .ok (.ifCond .ne 10, 3) := by decide +kernel
theorem dX6_path_58 : decode cX6_path 58 = .ok (.iconst 1, 1) := by decide +kernel
theorem dX6_path_59 : decode cX6_path 59 = .ok (.iload 4, 2) := by decide +kernel
theorem dX6_path_61 : decode cX6_path 61 = .ok (.ishl, 1) := by decide +kernel
theorem dX6_path_62 : decode cX6_path 62 = .ok (.goto 4, 3) := by decide +kernel
theorem dX6_path_65 : decode cX6_path 65 = .ok (.iconst 0, 1) := by decide +kernel
theorem dX6_path_66 : decode cX6_path 66 = .ok (.ior, 1) := by decide +kernel
theorem dX6_path_67 : decode cX6_path 67 = .ok (.istore_n 3, 1) := by decide +kernel
theorem dX6_path_68 : decode cX6_path 68 = .ok (.iinc 4 1, 3) := by decide +kernel
theorem dX6_path_71 : decode cX6_path 71 = .ok (.goto (-33), 3) := by decide +kernel
theorem dX6_path_74 : decode cX6_path 74 = .ok (.iload_n 3, 1) := by decide +kernel
theorem dX6_path_75 : decode cX6_path 75 = .ok (.ireturn, 1) := by decide +kernel
theorem dX6_picture_0 : decode cX6_picture 0 = .ok (.aload_n 0, 1) := by decide +kernel
theorem dX6_picture_1 : decode cX6_picture 1 = .ok (.iconst 0, 1) := by decide +kernel
theorem dX6_picture_2 : decode cX6_picture 2 = .ok (.putfield 44, 3) := by decide +kernel
theorem dX6_picture_5 : decode cX6_picture 5 = .ok (.aload_n 0, 1) := by decide +kernel
theorem dX6_picture_6 : decode cX6_picture 6 = .ok (.getfield 186, 3) := by decide +kernel
theorem dX6_picture_9 : decode cX6_picture 9 = .ok (.ifCond .ne 6, 3) := by decide +kernel
theorem dX6_picture_12 : decode cX6_picture 12 = .ok (.ldc 205, 2) := by decide +kernel
theorem dX6_picture_14 : decode cX6_picture 14 = .ok (.ireturn, 1) := by decide +kernel
theorem dX6_picture_15 : decode cX6_picture 15 = .ok (.iload_n 1, 1) := by decide +kernel
theorem dX6_picture_16 : decode cX6_picture 16 = .ok (.invokestatic 243, 3) := by decide +kernel
theorem dX6_picture_19 : decode cX6_picture 19 = .ok (.ifCond .eq 11, 3) := by decide +kernel
theorem dX6_picture_22 : decode cX6_picture 22 = .ok (.aload_n 0, 1) := by decide +kernel
theorem dX6_picture_23 : decode cX6_picture 23 = .ok (.iload_n 2, 1) := by decide +kernel
theorem dX6_picture_24 : decode cX6_picture 24 = .ok (.invokevirtual 266, 3) := by decide +kernel
theorem dX6_picture_27 : decode cX6_picture 27 = .ok (.ifCond .ne 6, 3) := by decide +kernel
theorem dX6_picture_30 : decode cX6_picture 30 = .ok (.ldc 64, 2) := by decide +kernel
theorem dX6_picture_32 : decode cX6_picture 32 = .ok (.ireturn, 1) := by decide +kernel
theorem dX6_picture_33 : decode cX6_picture 33 = .ok (.iconst 0, 1) := by decide +kernel
theorem dX6_picture_34 : decode cX6_picture 34 = .ok (.istore_n 3, 1) := by decide +kernel
theorem dX6_picture_35 : decode cX6_picture 35 = .ok (.iconst 0, 1) := by decide +kernel
theorem dX6_picture_36 : decode cX6_picture 36 = .ok (.istore 4, 2) := by decide +kernel
theorem dX6_picture_38 : decode cX6_picture 38 = .ok (.iload 4, 2) := by decide +kernel
theorem dX6_picture_40 : decode cX6_picture 40 = .ok (.bipush 18, 2) := by decide +kernel
theorem dX6_picture_42 : decode cX6_picture 42 = .ok (.if_icmp .gt 31, 3) := by decide +kernel
theorem dX6_picture_45 : decode cX6_picture 45 = .ok (.iload_n 3, 1) := by decide +kernel
theorem dX6_picture_46 : decode cX6_picture 46 = .ok (.aload_n 0, 1) := by decide +kernel
theorem dX6_picture_47 : decode cX6_picture 47 = .ok (.iload 4, 2) := by decide +kernel
theorem dX6_picture_49 : decode cX6_picture 49 = .ok (.iload_n 1, 1) := by decide +kernel
theorem dX6_picture_50 : decode cX6_picture 50 = .ok (.invokevirtual 246, 3) := by decide +kernel
theorem dX6_picture_53 : decode cX6_picture 53 = .ok (.iload_n 2, 1) := by decide +kernel
theorem dX6_picture_54 : decode cX6_picture 54 = .ok (.if_icmp .ne 10, 3) := by decide +kernel
theorem dX6_picture_57 : decode cX6_picture 57 = .ok (.iconst 1, 1) := by decide +kernel
theorem dX6_picture_58 : decode cX6_picture 58 = .ok (.iload 4, 2) := by decide +kernel
theorem dX6_picture_60 : decode cX6_picture 60 = .ok (.ishl, 1) := by decide +kernel
theorem dX6_picture_61 : decode cX6_picture 61 = .ok (.goto 4, 3) := by decide +kernel
theorem dX6_picture_64 : decode cX6_picture 64 = .ok (.iconst 0, 1) := by decide +kernel
theorem dX6_picture_65 : decode cX6_picture 65 = .ok (.ior, 1) := by decide +kernel
theorem dX6_picture_66 : decode cX6_picture 66 = .ok (.istore_n 3, 1) := by decide +kernel
theorem dX6_picture_67 : decode cX6_picture 67 = .ok (.iinc 4 1, 3) := by decide +kernel
theorem dX6_picture_70 : decode cX6_picture 70 = .ok (.goto (-32), 3) := by decide +kernel
theorem dX6_picture_73 : decode cX6_picture 73 = .ok (.iload_n 3, 1) := by decide +kernel
theorem dX6_picture_74 : decode cX6_picture 74 = .ok (.ireturn, 1) := by decide +kernel
theorem dX6_moreOf_0 : decode cX6_moreOf 0 = .ok (.aload_n 0, 1) := by decide +kernel
theorem dX6_moreOf_1 : decode cX6_moreOf 1 = .ok (.iload_n 1, 1) := by decide +kernel
theorem dX6_moreOf_2 : decode cX6_moreOf 2 = .ok (.iconst 1, 1) := by decide +kernel
theorem dX6_moreOf_3 : decode cX6_moreOf 3 = .ok (.invokevirtual 193, 3) := by decide +kernel
theorem dX6_moreOf_6 : decode cX6_moreOf 6 = .ok (.istore 4, 2) := by decide +kernel
theorem dX6_moreOf_8 : decode cX6_moreOf 8 = .ok (.iload 4, 2) := by decide +kernel
theorem dX6_moreOf_10 : decode cX6_moreOf 10 = .ok (.i2l, 1) := by decide +kernel
theorem dX6_moreOf_11 : decode cX6_moreOf 11 = .ok (.lconst 1, 1) := by decide +kernel
theorem dX6_moreOf_12 : decode cX6_moreOf 12 = .ok (.ldc2_w 269, 3) := by decide +kernel
theorem dX6_moreOf_15 : decode cX6_moreOf 15 = .ok (.invokestatic 54, 3) := by decide +kernel
theorem dX6_moreOf_18 : decode cX6_moreOf 18 = .ok (.ifCond .eq 35, 3) := by decide +kernel
theorem dX6_moreOf_21 : decode cX6_moreOf 21 = .ok (.aload_n 0, 1) := by decide +kernel
theorem dX6_moreOf_22 : decode cX6_moreOf 22 = .ok (.iload_n 1, 1) := by decide +kernel
theorem dX6_moreOf_23 : decode cX6_moreOf 23 = .ok (.invokevirtual 214, 3) := by decide +kernel
theorem dX6_moreOf_26 : decode cX6_moreOf 26 = .ok (.ifCond .eq 27, 3) := by decide +kernel
theorem dX6_moreOf_29 : decode cX6_moreOf 29 = .ok (.aload_n 0, 1) := by decide +kernel
theorem dX6_moreOf_30 : decode cX6_moreOf 30 = .ok (.iload_n 1, 1) := by decide +kernel
theorem dX6_moreOf_31 : decode cX6_moreOf 31 = .ok (.iconst 0, 1) := by decide +kernel
theorem dX6_moreOf_32 : decode cX6_moreOf 32 = .ok (.invokevirtual 193, 3) := by decide +kernel
theorem dX6_moreOf_35 : decode cX6_moreOf 35 = .ok (.iconst 1, 1) := by decide +kernel
theorem dX6_moreOf_36 : decode cX6_moreOf 36 = .ok (.if_icmp .ne 13, 3) := by decide +kernel
theorem dX6_moreOf_39 : decode cX6_moreOf 39 = .ok (.aload_n 0, 1) := by decide +kernel
theorem dX6_moreOf_40 : decode cX6_moreOf 40 = .ok (.getfield 19, 3) := by decide +kernel
theorem dX6_moreOf_43 : decode cX6_moreOf 43 = .ok (.iconst 3, 1) := by decide +kernel
theorem dX6_moreOf_44 : decode cX6_moreOf 44 = .ok (.iaload, 1) := by decide +kernel
theorem dX6_moreOf_45 : decode cX6_moreOf 45 = .ok (.iconst 1, 1) := by decide +kernel
theorem dX6_moreOf_46 : decode cX6_moreOf 46 = .ok (.if_icmp .eq 7, 3) := by decide +kernel
theorem dX6_moreOf_49 : decode cX6_moreOf 49 = .ok (.iconst 1, 1) := by decide +kernel
theorem dX6_moreOf_50 : decode cX6_moreOf 50 = .ok (.goto 4, 3) := by decide +kernel
theorem dX6_moreOf_53 : decode cX6_moreOf 53 = .ok (.iconst 0, 1) := by decide +kernel
theorem dX6_moreOf_54 : decode cX6_moreOf 54 = .ok (.istore 5, 2) := by decide +kernel
theorem dX6_moreOf_56 : decode cX6_moreOf 56 = .ok (.iload_n 3, 1) := by decide +kernel
theorem dX6_moreOf_57 : decode cX6_moreOf 57 = .ok (.iload_n 2, 1) := by decide +kernel
theorem dX6_moreOf_58 : decode cX6_moreOf 58 = .ok (.isub, 1) := by decide +kernel
theorem dX6_moreOf_59 : decode cX6_moreOf 59 = .ok (.iload 4, 2) := by decide +kernel
theorem dX6_moreOf_61 : decode cX6_moreOf 61 = .ok (.imul, 1) := by decide +kernel
theorem dX6_moreOf_62 : decode cX6_moreOf 62 = .ok (.iload_n 2, 1) := by decide +kernel
theorem dX6_moreOf_63 : decode cX6_moreOf 63 = .ok (.bipush 18, 2) := by decide +kernel
theorem dX6_moreOf_65 : decode cX6_moreOf 65 = .ok (.imul, 1) := by decide +kernel
theorem dX6_moreOf_66 : decode cX6_moreOf 66 = .ok (.iadd, 1) := by decide +kernel
theorem dX6_moreOf_67 : decode cX6_moreOf 67 = .ok (.istore 6, 2) := by decide +kernel
theorem dX6_moreOf_69 : decode cX6_moreOf 69 = .ok (.iload 6, 2) := by decide +kernel
theorem dX6_moreOf_71 : decode cX6_moreOf 71 = .ok (.bipush 17, 2) := by decide +kernel
theorem dX6_moreOf_73 : decode cX6_moreOf 73 = .ok (.iadd, 1) := by decide +kernel
theorem dX6_moreOf_74 : decode cX6_moreOf 74 = .ok (.bipush 18, 2) := by decide +kernel
theorem dX6_moreOf_76 : decode cX6_moreOf 76 = .ok (.idiv, 1) := by decide +kernel
theorem dX6_moreOf_77 : decode cX6_moreOf 77 = .ok (.aload_n 0, 1) := by decide +kernel
theorem dX6_moreOf_78 : decode cX6_moreOf 78 = .ok (.iload 4, 2) := by decide +kernel
theorem dX6_moreOf_80 : decode cX6_moreOf 80 = .ok (.invokevirtual 199, 3) := by decide +kernel
theorem dX6_moreOf_83 : decode cX6_moreOf 83 = .ok (.isub, 1) := by decide +kernel
theorem dX6_moreOf_84 : decode cX6_moreOf 84 = .ok (.istore 7, 2) := by decide +kernel
theorem dX6_moreOf_86 : decode cX6_moreOf 86 = .ok (.iload 6, 2) := by decide +kernel
theorem dX6_moreOf_88 : decode cX6_moreOf 88 = .ok (.ifCond .ge 7, 3) := by decide +kernel
theorem dX6_moreOf_91 : decode cX6_moreOf 91 = .ok (.iconst 0, 1) := by decide +kernel
theorem dX6_moreOf_92 : decode cX6_moreOf 92 = .ok (.goto 5, 3) := by decide +kernel
theorem dX6_moreOf_95 : decode cX6_moreOf 95 = .ok (.iload 7, 2) := by decide +kernel
theorem dX6_moreOf_97 : decode cX6_moreOf 97 = .ok (.istore 7, 2) := by decide +kernel
theorem dX6_moreOf_99 : decode cX6_moreOf 99 = .ok (.iload 5, 2) := by decide +kernel
theorem dX6_moreOf_101 : decode cX6_moreOf 101 = .ok (.ifCond .eq 21, 3) := by decide +kernel
theorem dX6_moreOf_104 : decode cX6_moreOf 104 = .ok (.iload 7, 2) := by decide +kernel
theorem dX6_moreOf_106 : decode cX6_moreOf 106 = .ok (.bipush 99, 2) := by decide +kernel
theorem dX6_moreOf_108 : decode cX6_moreOf 108 = .ok (.if_icmp .gt 14, 3) := by decide +kernel
theorem dX6_moreOf_111 : decode cX6_moreOf 111 = .ok (.iload 7, 2) := by decide +kernel
theorem dX6_moreOf_113 : decode cX6_moreOf 113 = .ok (.aload_n 0, 1) := by decide +kernel
theorem dX6_moreOf_114 : decode cX6_moreOf 114 = .ok (.iload_n 1, 1) := by decide +kernel
theorem dX6_moreOf_115 : decode cX6_moreOf 115 = .ok (.invokevirtual 202, 3) := by decide +kernel
theorem dX6_moreOf_118 : decode cX6_moreOf 118 = .ok (.isub, 1) := by decide +kernel
theorem dX6_moreOf_119 : decode cX6_moreOf 119 = .ok (.goto 5, 3) := by decide +kernel
theorem dX6_moreOf_122 : decode cX6_moreOf 122 = .ok (.ldc 80, 2) := by decide +kernel
theorem dX6_moreOf_124 : decode cX6_moreOf 124 = .ok (.ireturn, 1) := by decide +kernel
theorem dX6_rival_0 : decode cX6_rival 0 = .ok (.aload_n 0, 1) := by decide +kernel
theorem dX6_rival_1 : decode cX6_rival 1 = .ok (.iconst 0, 1) := by decide +kernel
theorem dX6_rival_2 : decode cX6_rival 2 = .ok (.putfield 44, 3) := by decide +kernel
theorem dX6_rival_5 : decode cX6_rival 5 = .ok (.aload_n 0, 1) := by decide +kernel
theorem dX6_rival_6 : decode cX6_rival 6 = .ok (.getfield 186, 3) := by decide +kernel
theorem dX6_rival_9 : decode cX6_rival 9 = .ok (.ifCond .ne 6, 3) := by decide +kernel
theorem dX6_rival_12 : decode cX6_rival 12 = .ok (.ldc 205, 2) := by decide +kernel
theorem dX6_rival_14 : decode cX6_rival 14 = .ok (.ireturn, 1) := by decide +kernel
theorem dX6_rival_15 : decode cX6_rival 15 = .ok (.iload_n 1, 1) := by decide +kernel
theorem dX6_rival_16 : decode cX6_rival 16 = .ok (.invokestatic 243, 3) := by decide +kernel
theorem dX6_rival_19 : decode cX6_rival 19 = .ok (.ifCond .eq 15, 3) := by decide +kernel
theorem dX6_rival_22 : decode cX6_rival 22 = .ok (.iload_n 2, 1) := by decide +kernel
theorem dX6_rival_23 : decode cX6_rival 23 = .ok (.i2l, 1) := by decide +kernel
theorem dX6_rival_24 : decode cX6_rival 24 = .ok (.lconst 1, 1) := by decide +kernel
theorem dX6_rival_25 : decode cX6_rival 25 = .ok (.ldc2_w 261, 3) := by decide +kernel
theorem dX6_rival_28 : decode cX6_rival 28 = .ok (.invokestatic 54, 3) := by decide +kernel
theorem dX6_rival_31 : decode cX6_rival 31 = .ok (.ifCond .ne 6, 3) := by decide +kernel
theorem dX6_rival_34 : decode cX6_rival 34 = .ok (.ldc 64, 2) := by decide +kernel
theorem dX6_rival_36 : decode cX6_rival 36 = .ok (.ireturn, 1) := by decide +kernel
theorem dX6_rival_37 : decode cX6_rival 37 = .ok (.aload_n 0, 1) := by decide +kernel
theorem dX6_rival_38 : decode cX6_rival 38 = .ok (.iconst 0, 1) := by decide +kernel
theorem dX6_rival_39 : decode cX6_rival 39 = .ok (.invokevirtual 199, 3) := by decide +kernel
theorem dX6_rival_42 : decode cX6_rival 42 = .ok (.iload_n 1, 1) := by decide +kernel
theorem dX6_rival_43 : decode cX6_rival 43 = .ok (.iadd, 1) := by decide +kernel
theorem dX6_rival_44 : decode cX6_rival 44 = .ok (.istore_n 3, 1) := by decide +kernel
theorem dX6_rival_45 : decode cX6_rival 45 = .ok (.iconst 0, 1) := by decide +kernel
theorem dX6_rival_46 : decode cX6_rival 46 = .ok (.istore 4, 2) := by decide +kernel
theorem dX6_rival_48 : decode cX6_rival 48 = .ok (.iconst 1, 1) := by decide +kernel
theorem dX6_rival_49 : decode cX6_rival 49 = .ok (.istore 5, 2) := by decide +kernel
theorem dX6_rival_51 : decode cX6_rival 51 = .ok (.iload 5, 2) := by decide +kernel
theorem dX6_rival_53 : decode cX6_rival 53 = .ok (.iload_n 2, 1) := by decide +kernel
theorem dX6_rival_54 : decode cX6_rival 54 = .ok (.if_icmp .gt 159, 3) := by decide +kernel
theorem dX6_rival_57 : decode cX6_rival 57 = .ok (.iload 4, 2) := by decide +kernel
theorem dX6_rival_59 : decode cX6_rival 59 = .ok (.ldc 80, 2) := by decide +kernel
theorem dX6_rival_61 : decode cX6_rival 61 = .ok (.if_icmp .eq 152, 3) := by decide +kernel
theorem dX6_rival_64 : decode cX6_rival 64 = .ok (.aload_n 0, 1) := by decide +kernel
theorem dX6_rival_65 : decode cX6_rival 65 = .ok (.bipush 18, 2) := by decide +kernel
theorem dX6_rival_67 : decode cX6_rival 67 = .ok (.invokevirtual 199, 3) := by decide +kernel
theorem dX6_rival_70 : decode cX6_rival 70 = .ok (.bipush 10, 2) := by decide +kernel
theorem dX6_rival_72 : decode cX6_rival 72 = .ok (.iload 5, 2) := by decide +kernel
theorem dX6_rival_74 : decode cX6_rival 74 = .ok (.imul, 1) := by decide +kernel
theorem dX6_rival_75 : decode cX6_rival 75 = .ok (.iadd, 1) := by decide +kernel
theorem dX6_rival_76 : decode cX6_rival 76 = .ok (.istore 6, 2) := by decide +kernel
theorem dX6_rival_78 : decode cX6_rival 78 = .ok (.aload_n 0, 1) := by decide +kernel
theorem dX6_rival_79 : decode cX6_rival 79 = .ok (.iconst 0, 1) := by decide +kernel
theorem dX6_rival_80 : decode cX6_rival 80 = .ok (.iload_n 3, 1) := by decide +kernel
theorem dX6_rival_81 : decode cX6_rival 81 = .ok (.bipush 18, 2) := by decide +kernel
theorem dX6_rival_83 : decode cX6_rival 83 = .ok (.iload 6, 2) := by decide +kernel
theorem dX6_rival_85 : decode cX6_rival 85 = .ok (.invokevirtual 233, 3) := by decide +kernel
theorem dX6_rival_88 : decode cX6_rival 88 = .ok (.ifCond .eq 119, 3) := by decide +kernel
theorem dX6_rival_91 : decode cX6_rival 91 = .ok (.ldc 80, 2) := by decide +kernel
theorem dX6_rival_93 : decode cX6_rival 93 = .ok (.istore 7, 2) := by decide +kernel
theorem dX6_rival_95 : decode cX6_rival 95 = .ok (.iconst 0, 1) := by decide +kernel
theorem dX6_rival_96 : decode cX6_rival 96 = .ok (.istore 8, 2) := by decide +kernel
theorem dX6_rival_98 : decode cX6_rival 98 = .ok (.iload 8, 2) := by decide +kernel
theorem dX6_rival_100 : decode cX6_rival 100 = .ok (.aload_n 0, 1) := by decide +kernel
theorem dX6_rival_101 : decode cX6_rival 101 = .ok (.getfield 19, 3) := by decide +kernel
theorem dX6_rival_104 : decode cX6_rival 104 = .ok (.iconst 0, 1) := by decide +kernel
theorem dX6_rival_105 : decode cX6_rival 105 = .ok (.iaload, 1) := by decide +kernel
theorem dX6_rival_106 : decode cX6_rival 106 = .ok (.if_icmp .ge 57, 3) := by decide +kernel
theorem dX6_rival_109 : decode cX6_rival 109 = .ok (.aload_n 0, 1) := by decide +kernel
theorem dX6_rival_110 : decode cX6_rival 110 = .ok (.iload 8, 2) := by decide +kernel
theorem dX6_rival_112 : decode cX6_rival 112 = .ok (.iload_n 3, 1) := by decide +kernel
theorem dX6_rival_113 : decode cX6_rival 113 = .ok (.iload 6, 2) := by decide +kernel
theorem dX6_rival_115 : decode cX6_rival 115 = .ok (.invokevirtual 271, 3) := by decide +kernel
theorem dX6_rival_118 : decode cX6_rival 118 = .ok (.istore 9, 2) := by decide +kernel
theorem dX6_rival_120 : decode cX6_rival 120 = .ok (.iload 9, 2) := by decide +kernel
theorem dX6_rival_122 : decode cX6_rival 122 = .ok (.ldc 80, 2) := by decide +kernel
theorem dX6_rival_124 : decode cX6_rival 124 = .ok (.if_icmp .eq 29, 3) := by decide +kernel
theorem dX6_rival_127 : decode cX6_rival 127 = .ok (.iload 7, 2) := by decide +kernel
theorem dX6_rival_129 : decode cX6_rival 129 = .ok (.ldc 80, 2) := by decide +kernel
theorem dX6_rival_131 : decode cX6_rival 131 = .ok (.if_icmp .eq 17, 3) := by decide +kernel
theorem dX6_rival_134 : decode cX6_rival 134 = .ok (.iload 9, 2) := by decide +kernel
theorem dX6_rival_136 : decode cX6_rival 136 = .ok (.aload_n 0, 1) := by decide +kernel
theorem dX6_rival_137 : decode cX6_rival 137 = .ok (.iload 7, 2) := by decide +kernel
theorem dX6_rival_139 : decode cX6_rival 139 = .ok (.iload_n 3, 1) := by decide +kernel
theorem dX6_rival_140 : decode cX6_rival 140 = .ok (.iload 6, 2) := by decide +kernel
theorem dX6_rival_142 : decode cX6_rival 142 = .ok (.invokevirtual 271, 3) := by decide +kernel
theorem dX6_rival_145 : decode cX6_rival 145 = .ok (.if_icmp .ge 8, 3) := by decide +kernel
theorem dX6_rival_148 : decode cX6_rival 148 = .ok (.iload 8, 2) := by decide +kernel
theorem dX6_rival_150 : decode cX6_rival 150 = .ok (.goto 5, 3) := by decide +kernel
theorem dX6_rival_153 : decode cX6_rival 153 = .ok (.iload 7, 2) := by decide +kernel
theorem dX6_rival_155 : decode cX6_rival 155 = .ok (.istore 7, 2) := by decide +kernel
theorem dX6_rival_157 : decode cX6_rival 157 = .ok (.iinc 8 1, 3) := by decide +kernel
theorem dX6_rival_160 : decode cX6_rival 160 = .ok (.goto (-62), 3) := by decide +kernel
theorem dX6_rival_163 : decode cX6_rival 163 = .ok (.iload 7, 2) := by decide +kernel
theorem dX6_rival_165 : decode cX6_rival 165 = .ok (.ldc 80, 2) := by decide +kernel
theorem dX6_rival_167 : decode cX6_rival 167 = .ok (.if_icmp .ne 10, 3) := by decide +kernel
theorem dX6_rival_170 : decode cX6_rival 170 = .ok (.ldc 80, 2) := by decide +kernel
theorem dX6_rival_172 : decode cX6_rival 172 = .ok (.istore 4, 2) := by decide +kernel
theorem dX6_rival_174 : decode cX6_rival 174 = .ok (.goto 33, 3) := by decide +kernel
theorem dX6_rival_177 : decode cX6_rival 177 = .ok (.aload_n 0, 1) := by decide +kernel
theorem dX6_rival_178 : decode cX6_rival 178 = .ok (.iload 7, 2) := by decide +kernel
theorem dX6_rival_180 : decode cX6_rival 180 = .ok (.iload_n 3, 1) := by decide +kernel
theorem dX6_rival_181 : decode cX6_rival 181 = .ok (.iload 6, 2) := by decide +kernel
theorem dX6_rival_183 : decode cX6_rival 183 = .ok (.invokevirtual 271, 3) := by decide +kernel
theorem dX6_rival_186 : decode cX6_rival 186 = .ok (.istore 8, 2) := by decide +kernel
theorem dX6_rival_188 : decode cX6_rival 188 = .ok (.aload_n 0, 1) := by decide +kernel
theorem dX6_rival_189 : decode cX6_rival 189 = .ok (.getfield 31, 3) := by decide +kernel
theorem dX6_rival_192 : decode cX6_rival 192 = .ok (.iload 7, 2) := by decide +kernel
theorem dX6_rival_194 : decode cX6_rival 194 = .ok (.dup2, 1) := by decide +kernel
theorem dX6_rival_195 : decode cX6_rival 195 = .ok (.iaload, 1) := by decide +kernel
theorem dX6_rival_196 : decode cX6_rival 196 = .ok (.iload 8, 2) := by decide +kernel
theorem dX6_rival_198 : decode cX6_rival 198 = .ok (.iadd, 1) := by decide +kernel
theorem dX6_rival_199 : decode cX6_rival 199 = .ok (.iastore, 1) := by decide +kernel
theorem dX6_rival_200 : decode cX6_rival 200 = .ok (.iload 4, 2) := by decide +kernel
theorem dX6_rival_202 : decode cX6_rival 202 = .ok (.iload 8, 2) := by decide +kernel
theorem dX6_rival_204 : decode cX6_rival 204 = .ok (.iadd, 1) := by decide +kernel
theorem dX6_rival_205 : decode cX6_rival 205 = .ok (.istore 4, 2) := by decide +kernel
theorem dX6_rival_207 : decode cX6_rival 207 = .ok (.iinc 5 1, 3) := by decide +kernel
theorem dX6_rival_210 : decode cX6_rival 210 = .ok (.goto (-159), 3) := by decide +kernel
theorem dX6_rival_213 : decode cX6_rival 213 = .ok (.iconst 0, 1) := by decide +kernel
theorem dX6_rival_214 : decode cX6_rival 214 = .ok (.istore 5, 2) := by decide +kernel
theorem dX6_rival_216 : decode cX6_rival 216 = .ok (.iload 5, 2) := by decide +kernel
theorem dX6_rival_218 : decode cX6_rival 218 = .ok (.bipush 6, 2) := by decide +kernel
theorem dX6_rival_220 : decode cX6_rival 220 = .ok (.if_icmp .ge 17, 3) := by decide +kernel
theorem dX6_rival_223 : decode cX6_rival 223 = .ok (.aload_n 0, 1) := by decide +kernel
theorem dX6_rival_224 : decode cX6_rival 224 = .ok (.getfield 31, 3) := by decide +kernel
theorem dX6_rival_227 : decode cX6_rival 227 = .ok (.iload 5, 2) := by decide +kernel
theorem dX6_rival_229 : decode cX6_rival 229 = .ok (.iconst 0, 1) := by decide +kernel
theorem dX6_rival_230 : decode cX6_rival 230 = .ok (.iastore, 1) := by decide +kernel
theorem dX6_rival_231 : decode cX6_rival 231 = .ok (.iinc 5 1, 3) := by decide +kernel
theorem dX6_rival_234 : decode cX6_rival 234 = .ok (.goto (-18), 3) := by decide +kernel
theorem dX6_rival_237 : decode cX6_rival 237 = .ok (.iload 4, 2) := by decide +kernel
theorem dX6_rival_239 : decode cX6_rival 239 = .ok (.ireturn, 1) := by decide +kernel
theorem dX6_image_0 : decode cX6_image 0 = .ok (.aload_n 0, 1) := by decide +kernel
theorem dX6_image_1 : decode cX6_image 1 = .ok (.iconst 0, 1) := by decide +kernel
theorem dX6_image_2 : decode cX6_image 2 = .ok (.putfield 44, 3) := by decide +kernel
theorem dX6_image_5 : decode cX6_image 5 = .ok (.iload_n 1, 1) := by decide +kernel
theorem dX6_image_6 : decode cX6_image 6 = .ok (.i2l, 1) := by decide +kernel
theorem dX6_image_7 : decode cX6_image 7 = .ok (.lconst 0, 1) := by decide +kernel
theorem dX6_image_8 : decode cX6_image 8 = .ok (.lconst 1, 1) := by decide +kernel
theorem dX6_image_9 : decode cX6_image 9 = .ok (.invokestatic 54, 3) := by decide +kernel
theorem dX6_image_12 : decode cX6_image 12 = .ok (.ifCond .ne 6, 3) := by decide +kernel
theorem dX6_image_15 : decode cX6_image 15 = .ok (.ldc 64, 2) := by decide +kernel
theorem dX6_image_17 : decode cX6_image 17 = .ok (.ireturn, 1) := by decide +kernel
theorem dX6_image_18 : decode cX6_image 18 = .ok (.aload_n 0, 1) := by decide +kernel
theorem dX6_image_19 : decode cX6_image 19 = .ok (.getfield 186, 3) := by decide +kernel
theorem dX6_image_22 : decode cX6_image 22 = .ok (.ifCond .ne 6, 3) := by decide +kernel
theorem dX6_image_25 : decode cX6_image 25 = .ok (.ldc 205, 2) := by decide +kernel
theorem dX6_image_27 : decode cX6_image 27 = .ok (.ireturn, 1) := by decide +kernel
theorem dX6_image_28 : decode cX6_image 28 = .ok (.iconst 0, 1) := by decide +kernel
theorem dX6_image_29 : decode cX6_image 29 = .ok (.istore_n 2, 1) := by decide +kernel
theorem dX6_image_30 : decode cX6_image 30 = .ok (.iload_n 2, 1) := by decide +kernel
theorem dX6_image_31 : decode cX6_image 31 = .ok (.bipush 74, 2) := by decide +kernel
theorem dX6_image_33 : decode cX6_image 33 = .ok (.if_icmp .ge 26, 3) := by decide +kernel
theorem dX6_image_36 : decode cX6_image 36 = .ok (.aload_n 0, 1) := by decide +kernel
theorem dX6_image_37 : decode cX6_image 37 = .ok (.getfield 38, 3) := by decide +kernel
theorem dX6_image_40 : decode cX6_image 40 = .ok (.bipush 74, 2) := by decide +kernel
theorem dX6_image_42 : decode cX6_image 42 = .ok (.iload_n 1, 1) := by decide +kernel
theorem dX6_image_43 : decode cX6_image 43 = .ok (.imul, 1) := by decide +kernel
theorem dX6_image_44 : decode cX6_image 44 = .ok (.iload_n 2, 1) := by decide +kernel
theorem dX6_image_45 : decode cX6_image 45 = .ok (.iadd, 1) := by decide +kernel
theorem dX6_image_46 : decode cX6_image 46 = .ok (.aload_n 0, 1) := by decide +kernel
theorem dX6_image_47 : decode cX6_image 47 = .ok (.getfield 19, 3) := by decide +kernel
theorem dX6_image_50 : decode cX6_image 50 = .ok (.iload_n 2, 1) := by decide +kernel
theorem dX6_image_51 : decode cX6_image 51 = .ok (.iaload, 1) := by decide +kernel
theorem dX6_image_52 : decode cX6_image 52 = .ok (.iastore, 1) := by decide +kernel
theorem dX6_image_53 : decode cX6_image 53 = .ok (.iinc 2 1, 3) := by decide +kernel
theorem dX6_image_56 : decode cX6_image 56 = .ok (.goto (-26), 3) := by decide +kernel
theorem dX6_image_59 : decode cX6_image 59 = .ok (.aload_n 0, 1) := by decide +kernel
theorem dX6_image_60 : decode cX6_image 60 = .ok (.getfield 34, 3) := by decide +kernel
theorem dX6_image_63 : decode cX6_image 63 = .ok (.iload_n 1, 1) := by decide +kernel
theorem dX6_image_64 : decode cX6_image 64 = .ok (.iconst 1, 1) := by decide +kernel
theorem dX6_image_65 : decode cX6_image 65 = .ok (.bastore, 1) := by decide +kernel
theorem dX6_image_66 : decode cX6_image 66 = .ok (.iconst 1, 1) := by decide +kernel
theorem dX6_image_67 : decode cX6_image 67 = .ok (.ireturn, 1) := by decide +kernel
theorem dX6_restore_0 : decode cX6_restore 0 = .ok (.aload_n 0, 1) := by decide +kernel
theorem dX6_restore_1 : decode cX6_restore 1 = .ok (.iconst 0, 1) := by decide +kernel
theorem dX6_restore_2 : decode cX6_restore 2 = .ok (.putfield 44, 3) := by decide +kernel
theorem dX6_restore_5 : decode cX6_restore 5 = .ok (.iload_n 1, 1) := by decide +kernel
theorem dX6_restore_6 : decode cX6_restore 6 = .ok (.i2l, 1) := by decide +kernel
theorem dX6_restore_7 : decode cX6_restore 7 = .ok (.lconst 0, 1) := by decide +kernel
theorem dX6_restore_8 : decode cX6_restore 8 = .ok (.lconst 1, 1) := by decide +kernel
theorem dX6_restore_9 : decode cX6_restore 9 = .ok (.invokestatic 54, 3) := by decide +kernel
theorem dX6_restore_12 : decode cX6_restore 12 = .ok (.ifCond .ne 6, 3) := by decide +kernel
theorem dX6_restore_15 : decode cX6_restore 15 = .ok (.ldc 64, 2) := by decide +kernel
theorem dX6_restore_17 : decode cX6_restore 17 = .ok (.ireturn, 1) := by decide +kernel
theorem dX6_restore_18 : decode cX6_restore 18 = .ok (.aload_n 0, 1) := by decide +kernel
theorem dX6_restore_19 : decode cX6_restore 19 = .ok (.getfield 34, 3) := by decide +kernel
theorem dX6_restore_22 : decode cX6_restore 22 = .ok (.iload_n 1, 1) := by decide +kernel
theorem dX6_restore_23 : decode cX6_restore 23 = .ok (.baload, 1) := by decide +kernel
theorem dX6_restore_24 : decode cX6_restore 24 = .ok (.ifCond .ne 6, 3) := by decide +kernel
theorem dX6_restore_27 : decode cX6_restore 27 = .ok (.ldc 205, 2) := by decide +kernel
theorem dX6_restore_29 : decode cX6_restore 29 = .ok (.ireturn, 1) := by decide +kernel
theorem dX6_restore_30 : decode cX6_restore 30 = .ok (.iconst 0, 1) := by decide +kernel
theorem dX6_restore_31 : decode cX6_restore 31 = .ok (.istore_n 2, 1) := by decide +kernel
theorem dX6_restore_32 : decode cX6_restore 32 = .ok (.iload_n 2, 1) := by decide +kernel
theorem dX6_restore_33 : decode cX6_restore 33 = .ok (.bipush 74, 2) := by decide +kernel
theorem dX6_restore_35 : decode cX6_restore 35 = .ok (.if_icmp .ge 26, 3) := by decide +kernel
theorem dX6_restore_38 : decode cX6_restore 38 = .ok (.aload_n 0, 1) := by decide +kernel
theorem dX6_restore_39 : decode cX6_restore 39 = .ok (.getfield 19, 3) := by decide +kernel
theorem dX6_restore_42 : decode cX6_restore 42 = .ok (.iload_n 2, 1) := by decide +kernel
theorem dX6_restore_43 : decode cX6_restore 43 = .ok (.aload_n 0, 1) := by decide +kernel
theorem dX6_restore_44 : decode cX6_restore 44 = .ok (.getfield 38, 3) := by decide +kernel
theorem dX6_restore_47 : decode cX6_restore 47 = .ok (.bipush 74, 2) := by decide +kernel
theorem dX6_restore_49 : decode cX6_restore 49 = .ok (.iload_n 1, 1) := by decide +kernel
theorem dX6_restore_50 : decode cX6_restore 50 = .ok (.imul, 1) := by decide +kernel
theorem dX6_restore_51 : decode cX6_restore 51 = .ok (.iload_n 2, 1) := by decide +kernel
theorem dX6_restore_52 : decode cX6_restore 52 = .ok (.iadd, 1) := by decide +kernel
theorem dX6_restore_53 : decode cX6_restore 53 = .ok (.iaload, 1) := by decide +kernel
theorem dX6_restore_54 : decode cX6_restore 54 = .ok (.iastore, 1) := by decide +kernel
theorem dX6_restore_55 : decode cX6_restore 55 = .ok (.iinc 2 1, 3) := by decide +kernel
theorem dX6_restore_58 : decode cX6_restore 58 = .ok (.goto (-26), 3) := by decide +kernel
theorem dX6_restore_61 : decode cX6_restore 61 = .ok (.aload_n 0, 1) := by decide +kernel
theorem dX6_restore_62 : decode cX6_restore 62 = .ok (.iconst 0, 1) := by decide +kernel
theorem dX6_restore_63 : decode cX6_restore 63 = .ok (.putfield 190, 3) := by decide +kernel
theorem dX6_restore_66 : decode cX6_restore 66 = .ok (.iconst 1, 1) := by decide +kernel
theorem dX6_restore_67 : decode cX6_restore 67 = .ok (.ireturn, 1) := by decide +kernel
theorem dX6_isOf_0 : decode cX6_isOf 0 = .ok (.iload_n 1, 1) := by decide +kernel
theorem dX6_isOf_1 : decode cX6_isOf 1 = .ok (.ifCond .eq 28, 3) := by decide +kernel
theorem dX6_isOf_4 : decode cX6_isOf 4 = .ok (.iload_n 0, 1) := by decide +kernel
theorem dX6_isOf_5 : decode cX6_isOf 5 = .ok (.iload_n 1, 1) := by decide +kernel
theorem dX6_isOf_6 : decode cX6_isOf 6 = .ok (.if_icmp .eq 23, 3) := by decide +kernel
theorem dX6_isOf_9 : decode cX6_isOf 9 = .ok (.iload_n 1, 1) := by decide +kernel
theorem dX6_isOf_10 : decode cX6_isOf 10 = .ok (.iconst 1, 1) := by decide +kernel
theorem dX6_isOf_11 : decode cX6_isOf 11 = .ok (.if_icmp .ne 8, 3) := by decide +kernel
theorem dX6_isOf_14 : decode cX6_isOf 14 = .ok (.iload_n 0, 1) := by decide +kernel
theorem dX6_isOf_15 : decode cX6_isOf 15 = .ok (.iconst 2, 1) := by decide +kernel
theorem dX6_isOf_16 : decode cX6_isOf 16 = .ok (.if_icmp .eq 13, 3) := by decide +kernel
theorem dX6_isOf_19 : decode cX6_isOf 19 = .ok (.iload_n 1, 1) := by decide +kernel
theorem dX6_isOf_20 : decode cX6_isOf 20 = .ok (.iconst 4, 1) := by decide +kernel
theorem dX6_isOf_21 : decode cX6_isOf 21 = .ok (.if_icmp .ne 12, 3) := by decide +kernel
theorem dX6_isOf_24 : decode cX6_isOf 24 = .ok (.iload_n 0, 1) := by decide +kernel
theorem dX6_isOf_25 : decode cX6_isOf 25 = .ok (.iconst 5, 1) := by decide +kernel
theorem dX6_isOf_26 : decode cX6_isOf 26 = .ok (.if_icmp .ne 7, 3) := by decide +kernel
theorem dX6_isOf_29 : decode cX6_isOf 29 = .ok (.iconst 1, 1) := by decide +kernel
theorem dX6_isOf_30 : decode cX6_isOf 30 = .ok (.goto 4, 3) := by decide +kernel
theorem dX6_isOf_33 : decode cX6_isOf 33 = .ok (.iconst 0, 1) := by decide +kernel
theorem dX6_isOf_34 : decode cX6_isOf 34 = .ok (.ireturn, 1) := by decide +kernel
theorem dX6_kind_0 : decode cX6_kind 0 = .ok (.aload_n 0, 1) := by decide +kernel
theorem dX6_kind_1 : decode cX6_kind 1 = .ok (.iconst 0, 1) := by decide +kernel
theorem dX6_kind_2 : decode cX6_kind 2 = .ok (.putfield 44, 3) := by decide +kernel
theorem dX6_kind_5 : decode cX6_kind 5 = .ok (.aload_n 0, 1) := by decide +kernel
theorem dX6_kind_6 : decode cX6_kind 6 = .ok (.iload_n 1, 1) := by decide +kernel
theorem dX6_kind_7 : decode cX6_kind 7 = .ok (.invokevirtual 211, 3) := by decide +kernel
theorem dX6_kind_10 : decode cX6_kind 10 = .ok (.ifCond .eq 12, 3) := by decide +kernel
theorem dX6_kind_13 : decode cX6_kind 13 = .ok (.aload_n 0, 1) := by decide +kernel
theorem dX6_kind_14 : decode cX6_kind 14 = .ok (.iload_n 1, 1) := by decide +kernel
theorem dX6_kind_15 : decode cX6_kind 15 = .ok (.iconst 0, 1) := by decide +kernel
theorem dX6_kind_16 : decode cX6_kind 16 = .ok (.invokevirtual 193, 3) := by decide +kernel
theorem dX6_kind_19 : decode cX6_kind 19 = .ok (.goto 5, 3) := by decide +kernel
theorem dX6_kind_22 : decode cX6_kind 22 = .ok (.ldc 64, 2) := by decide +kernel
theorem dX6_kind_24 : decode cX6_kind 24 = .ok (.ireturn, 1) := by decide +kernel
theorem dX6_as_0 : decode cX6_as 0 = .ok (.aload_n 0, 1) := by decide +kernel
theorem dX6_as_1 : decode cX6_as 1 = .ok (.iconst 0, 1) := by decide +kernel
theorem dX6_as_2 : decode cX6_as 2 = .ok (.putfield 44, 3) := by decide +kernel
theorem dX6_as_5 : decode cX6_as 5 = .ok (.aload_n 0, 1) := by decide +kernel
theorem dX6_as_6 : decode cX6_as 6 = .ok (.iload_n 1, 1) := by decide +kernel
theorem dX6_as_7 : decode cX6_as 7 = .ok (.invokevirtual 211, 3) := by decide +kernel
theorem dX6_as_10 : decode cX6_as 10 = .ok (.ifCond .eq 15, 3) := by decide +kernel
theorem dX6_as_13 : decode cX6_as 13 = .ok (.iload_n 2, 1) := by decide +kernel
theorem dX6_as_14 : decode cX6_as 14 = .ok (.i2l, 1) := by decide +kernel
theorem dX6_as_15 : decode cX6_as 15 = .ok (.lconst 0, 1) := by decide +kernel
theorem dX6_as_16 : decode cX6_as 16 = .ok (.ldc2_w 275, 3) := by decide +kernel
theorem dX6_as_19 : decode cX6_as 19 = .ok (.invokestatic 54, 3) := by decide +kernel
theorem dX6_as_22 : decode cX6_as 22 = .ok (.ifCond .ne 6, 3) := by decide +kernel
theorem dX6_as_25 : decode cX6_as 25 = .ok (.ldc 64, 2) := by decide +kernel
theorem dX6_as_27 : decode cX6_as 27 = .ok (.ireturn, 1) := by decide +kernel
theorem dX6_as_28 : decode cX6_as 28 = .ok (.aload_n 0, 1) := by decide +kernel
theorem dX6_as_29 : decode cX6_as 29 = .ok (.iconst 0, 1) := by decide +kernel
theorem dX6_as_30 : decode cX6_as 30 = .ok (.putfield 48, 3) := by decide +kernel
theorem dX6_as_33 : decode cX6_as 33 = .ok (.aload_n 0, 1) := by decide +kernel
theorem dX6_as_34 : decode cX6_as 34 = .ok (.iload_n 1, 1) := by decide +kernel
theorem dX6_as_35 : decode cX6_as 35 = .ok (.iconst 0, 1) := by decide +kernel
theorem dX6_as_36 : decode cX6_as 36 = .ok (.invokevirtual 193, 3) := by decide +kernel
theorem dX6_as_39 : decode cX6_as 39 = .ok (.iload_n 2, 1) := by decide +kernel
theorem dX6_as_40 : decode cX6_as 40 = .ok (.invokestatic 277, 3) := by decide +kernel
theorem dX6_as_43 : decode cX6_as 43 = .ok (.ifCond .eq 7, 3) := by decide +kernel
theorem dX6_as_46 : decode cX6_as 46 = .ok (.iload_n 1, 1) := by decide +kernel
theorem dX6_as_47 : decode cX6_as 47 = .ok (.goto 8, 3) := by decide +kernel
theorem dX6_as_50 : decode cX6_as 50 = .ok (.aload_n 0, 1) := by decide +kernel
theorem dX6_as_51 : decode cX6_as 51 = .ok (.iconst 3, 1) := by decide +kernel
theorem dX6_as_52 : decode cX6_as 52 = .ok (.invokevirtual 65, 3) := by decide +kernel
theorem dX6_as_55 : decode cX6_as 55 = .ok (.ireturn, 1) := by decide +kernel
theorem dX6_began_0 : decode cX6_began 0 = .ok (.aload_n 0, 1) := by decide +kernel
theorem dX6_began_1 : decode cX6_began 1 = .ok (.getfield 280, 3) := by decide +kernel
theorem dX6_began_4 : decode cX6_began 4 = .ok (.bipush 16, 2) := by decide +kernel
theorem dX6_began_6 : decode cX6_began 6 = .ok (.if_icmp .ge 23, 3) := by decide +kernel
theorem dX6_began_9 : decode cX6_began 9 = .ok (.aload_n 0, 1) := by decide +kernel
theorem dX6_began_10 : decode cX6_began 10 = .ok (.getfield 41, 3) := by decide +kernel
theorem dX6_began_13 : decode cX6_began 13 = .ok (.aload_n 0, 1) := by decide +kernel
theorem dX6_began_14 : decode cX6_began 14 = .ok (.getfield 280, 3) := by decide +kernel
theorem dX6_began_17 : decode cX6_began 17 = .ok (.iload_n 1, 1) := by decide +kernel
theorem dX6_began_18 : decode cX6_began 18 = .ok (.iastore, 1) := by decide +kernel
theorem dX6_began_19 : decode cX6_began 19 = .ok (.aload_n 0, 1) := by decide +kernel
theorem dX6_began_20 : decode cX6_began 20 = .ok (.dup, 1) := by decide +kernel
theorem dX6_began_21 : decode cX6_began 21 = .ok (.getfield 280, 3) := by decide +kernel
theorem dX6_began_24 : decode cX6_began 24 = .ok (.iconst 1, 1) := by decide +kernel
theorem dX6_began_25 : decode cX6_began 25 = .ok (.iadd, 1) := by decide +kernel
theorem dX6_began_26 : decode cX6_began 26 = .ok (.putfield 280, 3) := by decide +kernel
theorem dX6_began_29 : decode cX6_began 29 = .ok (.return_, 1) := by decide +kernel
theorem dX6_plainSize_0 : decode cX6_plainSize 0 = .ok (.aload_n 0, 1) := by decide +kernel
theorem dX6_plainSize_1 : decode cX6_plainSize 1 = .ok (.bipush 10, 2) := by decide +kernel
theorem dX6_plainSize_3 : decode cX6_plainSize 3 = .ok (.invokevirtual 283, 3) := by decide +kernel
theorem dX6_plainSize_6 : decode cX6_plainSize 6 = .ok (.aload_n 0, 1) := by decide +kernel
theorem dX6_plainSize_7 : decode cX6_plainSize 7 = .ok (.iload_n 1, 1) := by decide +kernel
theorem dX6_plainSize_8 : decode cX6_plainSize 8 = .ok (.invokevirtual 202, 3) := by decide +kernel
theorem dX6_plainSize_11 : decode cX6_plainSize 11 = .ok (.ireturn, 1) := by decide +kernel
theorem dX6_markOf_0 : decode cX6_markOf 0 = .ok (.aload_n 0, 1) := by decide +kernel
theorem dX6_markOf_1 : decode cX6_markOf 1 = .ok (.iload_n 1, 1) := by decide +kernel
theorem dX6_markOf_2 : decode cX6_markOf 2 = .ok (.iconst 0, 1) := by decide +kernel
theorem dX6_markOf_3 : decode cX6_markOf 3 = .ok (.invokevirtual 193, 3) := by decide +kernel
theorem dX6_markOf_6 : decode cX6_markOf 6 = .ok (.istore_n 2, 1) := by decide +kernel
theorem dX6_markOf_7 : decode cX6_markOf 7 = .ok (.iload_n 2, 1) := by decide +kernel
theorem dX6_markOf_8 : decode cX6_markOf 8 = .ok (.iconst 2, 1) := by decide +kernel
theorem dX6_markOf_9 : decode cX6_markOf 9 = .ok (.if_icmp .ne 9, 3) := by decide +kernel
theorem dX6_markOf_12 : decode cX6_markOf 12 = .ok (.aload_n 0, 1) := by decide +kernel
theorem dX6_markOf_13 : decode cX6_markOf 13 = .ok (.bipush 24, 2) := by decide +kernel
theorem dX6_markOf_15 : decode cX6_markOf 15 = .ok (.invokevirtual 283, 3) := by decide +kernel
theorem dX6_markOf_18 : decode cX6_markOf 18 = .ok (.aload_n 0, 1) := by decide +kernel
theorem dX6_markOf_19 : decode cX6_markOf 19 = .ok (.iload_n 2, 1) := by decide +kernel
theorem dX6_markOf_20 : decode cX6_markOf 20 = .ok (.iconst 3, 1) := by decide +kernel
theorem dX6_markOf_21 : decode cX6_markOf 21 = .ok (.if_icmp .ge 8, 3) := by decide +kernel
theorem dX6_markOf_24 : decode cX6_markOf 24 = .ok (.bipush 21, 2) := by decide +kernel
theorem dX6_markOf_26 : decode cX6_markOf 26 = .ok (.goto 15, 3) := by decide +kernel
theorem dX6_markOf_29 : decode cX6_markOf 29 = .ok (.iload_n 2, 1) := by decide +kernel
theorem dX6_markOf_30 : decode cX6_markOf 30 = .ok (.iconst 3, 1) := by decide +kernel
theorem dX6_markOf_31 : decode cX6_markOf 31 = .ok (.if_icmp .ne 8, 3) := by decide +kernel
theorem dX6_markOf_34 : decode cX6_markOf 34 = .ok (.bipush 22, 2) := by decide +kernel
theorem dX6_markOf_36 : decode cX6_markOf 36 = .ok (.goto 5, 3) := by decide +kernel
theorem dX6_markOf_39 : decode cX6_markOf 39 = .ok (.bipush 23, 2) := by decide +kernel
theorem dX6_markOf_41 : decode cX6_markOf 41 = .ok (.invokevirtual 283, 3) := by decide +kernel
theorem dX6_markOf_44 : decode cX6_markOf 44 = .ok (.aload_n 0, 1) := by decide +kernel
theorem dX6_markOf_45 : decode cX6_markOf 45 = .ok (.bipush 20, 2) := by decide +kernel
theorem dX6_markOf_47 : decode cX6_markOf 47 = .ok (.invokevirtual 283, 3) := by decide +kernel
theorem dX6_markOf_50 : decode cX6_markOf 50 = .ok (.iload_n 2, 1) := by decide +kernel
theorem dX6_markOf_51 : decode cX6_markOf 51 = .ok (.iconst 3, 1) := by decide +kernel
theorem dX6_markOf_52 : decode cX6_markOf 52 = .ok (.if_icmp .ne 11, 3) := by decide +kernel
theorem dX6_markOf_55 : decode cX6_markOf 55 = .ok (.iload_n 1, 1) := by decide +kernel
theorem dX6_markOf_56 : decode cX6_markOf 56 = .ok (.aload_n 0, 1) := by decide +kernel
theorem dX6_markOf_57 : decode cX6_markOf 57 = .ok (.iload_n 1, 1) := by decide +kernel
theorem dX6_markOf_58 : decode cX6_markOf 58 = .ok (.invokevirtual 286, 3) := by decide +kernel
theorem dX6_markOf_61 : decode cX6_markOf 61 = .ok (.isub, 1) := by decide +kernel
theorem dX6_markOf_62 : decode cX6_markOf 62 = .ok (.ireturn, 1) := by decide +kernel
theorem dX6_markOf_63 : decode cX6_markOf 63 = .ok (.iload_n 2, 1) := by decide +kernel
theorem dX6_markOf_64 : decode cX6_markOf 64 = .ok (.iconst 3, 1) := by decide +kernel
theorem dX6_markOf_65 : decode cX6_markOf 65 = .ok (.if_icmp .le 14, 3) := by decide +kernel
theorem dX6_markOf_68 : decode cX6_markOf 68 = .ok (.iload_n 1, 1) := by decide +kernel
theorem dX6_markOf_69 : decode cX6_markOf 69 = .ok (.aload_n 0, 1) := by decide +kernel
theorem dX6_markOf_70 : decode cX6_markOf 70 = .ok (.iload_n 1, 1) := by decide +kernel
theorem dX6_markOf_71 : decode cX6_markOf 71 = .ok (.iconst 3, 1) := by decide +kernel
theorem dX6_markOf_72 : decode cX6_markOf 72 = .ok (.invokevirtual 193, 3) := by decide +kernel
theorem dX6_markOf_75 : decode cX6_markOf 75 = .ok (.iadd, 1) := by decide +kernel
theorem dX6_markOf_76 : decode cX6_markOf 76 = .ok (.goto 24, 3) := by decide +kernel
theorem dX6_markOf_79 : decode cX6_markOf 79 = .ok (.iload_n 1, 1) := by decide +kernel
theorem dX6_markOf_80 : decode cX6_markOf 80 = .ok (.aload_n 0, 1) := by decide +kernel
theorem dX6_markOf_81 : decode cX6_markOf 81 = .ok (.iload_n 1, 1) := by decide +kernel
theorem dX6_markOf_82 : decode cX6_markOf 82 = .ok (.iconst 1, 1) := by decide +kernel
theorem dX6_markOf_83 : decode cX6_markOf 83 = .ok (.invokevirtual 193, 3) := by decide +kernel
theorem dX6_markOf_86 : decode cX6_markOf 86 = .ok (.iadd, 1) := by decide +kernel
theorem dX6_markOf_87 : decode cX6_markOf 87 = .ok (.iload_n 2, 1) := by decide +kernel
theorem dX6_markOf_88 : decode cX6_markOf 88 = .ok (.iconst 2, 1) := by decide +kernel
theorem dX6_markOf_89 : decode cX6_markOf 89 = .ok (.if_icmp .ne 9, 3) := by decide +kernel
theorem dX6_markOf_92 : decode cX6_markOf 92 = .ok (.sipush 1000, 3) := by decide +kernel
theorem dX6_markOf_95 : decode cX6_markOf 95 = .ok (.goto 4, 3) := by decide +kernel
theorem dX6_markOf_98 : decode cX6_markOf 98 = .ok (.iconst 0, 1) := by decide +kernel
theorem dX6_markOf_99 : decode cX6_markOf 99 = .ok (.iadd, 1) := by decide +kernel
theorem dX6_markOf_100 : decode cX6_markOf 100 = .ok (.ireturn, 1) := by decide +kernel
theorem dX6_sizeOf_0 : decode cX6_sizeOf 0 = .ok (.aload_n 0, 1) := by decide +kernel
theorem dX6_sizeOf_1 : decode cX6_sizeOf 1 = .ok (.iload_n 1, 1) := by decide +kernel
theorem dX6_sizeOf_2 : decode cX6_sizeOf 2 = .ok (.iconst 0, 1) := by decide +kernel
theorem dX6_sizeOf_3 : decode cX6_sizeOf 3 = .ok (.invokevirtual 193, 3) := by decide +kernel
theorem dX6_sizeOf_6 : decode cX6_sizeOf 6 = .ok (.istore_n 2, 1) := by decide +kernel
theorem dX6_sizeOf_7 : decode cX6_sizeOf 7 = .ok (.iload_n 2, 1) := by decide +kernel
theorem dX6_sizeOf_8 : decode cX6_sizeOf 8 = .ok (.iconst 3, 1) := by decide +kernel
theorem dX6_sizeOf_9 : decode cX6_sizeOf 9 = .ok (.if_icmp .ne 9, 3) := by decide +kernel
theorem dX6_sizeOf_12 : decode cX6_sizeOf 12 = .ok (.aload_n 0, 1) := by decide +kernel
theorem dX6_sizeOf_13 : decode cX6_sizeOf 13 = .ok (.iload_n 1, 1) := by decide +kernel
theorem dX6_sizeOf_14 : decode cX6_sizeOf 14 = .ok (.invokevirtual 286, 3) := by decide +kernel
theorem dX6_sizeOf_17 : decode cX6_sizeOf 17 = .ok (.ireturn, 1) := by decide +kernel
theorem dX6_sizeOf_18 : decode cX6_sizeOf 18 = .ok (.iload_n 2, 1) := by decide +kernel
theorem dX6_sizeOf_19 : decode cX6_sizeOf 19 = .ok (.iconst 2, 1) := by decide +kernel
theorem dX6_sizeOf_20 : decode cX6_sizeOf 20 = .ok (.if_icmp .eq 8, 3) := by decide +kernel
theorem dX6_sizeOf_23 : decode cX6_sizeOf 23 = .ok (.iload_n 2, 1) := by decide +kernel
theorem dX6_sizeOf_24 : decode cX6_sizeOf 24 = .ok (.iconst 5, 1) := by decide +kernel
theorem dX6_sizeOf_25 : decode cX6_sizeOf 25 = .ok (.if_icmp .ne 19, 3) := by decide +kernel
theorem dX6_sizeOf_28 : decode cX6_sizeOf 28 = .ok (.aload_n 0, 1) := by decide +kernel
theorem dX6_sizeOf_29 : decode cX6_sizeOf 29 = .ok (.iload_n 2, 1) := by decide +kernel
theorem dX6_sizeOf_30 : decode cX6_sizeOf 30 = .ok (.iconst 2, 1) := by decide +kernel
theorem dX6_sizeOf_31 : decode cX6_sizeOf 31 = .ok (.if_icmp .ne 8, 3) := by decide +kernel
theorem dX6_sizeOf_34 : decode cX6_sizeOf 34 = .ok (.bipush 12, 2) := by decide +kernel
theorem dX6_sizeOf_36 : decode cX6_sizeOf 36 = .ok (.goto 5, 3) := by decide +kernel
theorem dX6_sizeOf_39 : decode cX6_sizeOf 39 = .ok (.bipush 14, 2) := by decide +kernel
theorem dX6_sizeOf_41 : decode cX6_sizeOf 41 = .ok (.invokevirtual 283, 3) := by decide +kernel
theorem dX6_sizeOf_44 : decode cX6_sizeOf 44 = .ok (.aload_n 0, 1) := by decide +kernel
theorem dX6_sizeOf_45 : decode cX6_sizeOf 45 = .ok (.iload_n 2, 1) := by decide +kernel
theorem dX6_sizeOf_46 : decode cX6_sizeOf 46 = .ok (.iconst 3, 1) := by decide +kernel
theorem dX6_sizeOf_47 : decode cX6_sizeOf 47 = .ok (.if_icmp .ge 8, 3) := by decide +kernel
theorem dX6_sizeOf_50 : decode cX6_sizeOf 50 = .ok (.bipush 11, 2) := by decide +kernel
theorem dX6_sizeOf_52 : decode cX6_sizeOf 52 = .ok (.goto 5, 3) := by decide +kernel
theorem dX6_sizeOf_55 : decode cX6_sizeOf 55 = .ok (.bipush 13, 2) := by decide +kernel
theorem dX6_sizeOf_57 : decode cX6_sizeOf 57 = .ok (.invokevirtual 283, 3) := by decide +kernel
theorem dX6_sizeOf_60 : decode cX6_sizeOf 60 = .ok (.aload_n 0, 1) := by decide +kernel
theorem dX6_sizeOf_61 : decode cX6_sizeOf 61 = .ok (.iload_n 1, 1) := by decide +kernel
theorem dX6_sizeOf_62 : decode cX6_sizeOf 62 = .ok (.invokevirtual 286, 3) := by decide +kernel
theorem dX6_sizeOf_65 : decode cX6_sizeOf 65 = .ok (.istore_n 3, 1) := by decide +kernel
theorem dX6_sizeOf_66 : decode cX6_sizeOf 66 = .ok (.iload_n 3, 1) := by decide +kernel
theorem dX6_sizeOf_67 : decode cX6_sizeOf 67 = .ok (.iload_n 2, 1) := by decide +kernel
theorem dX6_sizeOf_68 : decode cX6_sizeOf 68 = .ok (.iconst 3, 1) := by decide +kernel
theorem dX6_sizeOf_69 : decode cX6_sizeOf 69 = .ok (.if_icmp .ge 11, 3) := by decide +kernel
theorem dX6_sizeOf_72 : decode cX6_sizeOf 72 = .ok (.aload_n 0, 1) := by decide +kernel
theorem dX6_sizeOf_73 : decode cX6_sizeOf 73 = .ok (.iload_n 1, 1) := by decide +kernel
theorem dX6_sizeOf_74 : decode cX6_sizeOf 74 = .ok (.invokevirtual 289, 3) := by decide +kernel
theorem dX6_sizeOf_77 : decode cX6_sizeOf 77 = .ok (.goto 5, 3) := by decide +kernel
theorem dX6_sizeOf_80 : decode cX6_sizeOf 80 = .ok (.bipush (-100), 2) := by decide +kernel
theorem dX6_sizeOf_82 : decode cX6_sizeOf 82 = .ok (.iadd, 1) := by decide +kernel
theorem dX6_sizeOf_83 : decode cX6_sizeOf 83 = .ok (.istore_n 3, 1) := by decide +kernel
theorem dX6_sizeOf_84 : decode cX6_sizeOf 84 = .ok (.iload_n 2, 1) := by decide +kernel
theorem dX6_sizeOf_85 : decode cX6_sizeOf 85 = .ok (.iconst 2, 1) := by decide +kernel
theorem dX6_sizeOf_86 : decode cX6_sizeOf 86 = .ok (.if_icmp .ne 8, 3) := by decide +kernel
theorem dX6_sizeOf_89 : decode cX6_sizeOf 89 = .ok (.iload_n 3, 1) := by decide +kernel
theorem dX6_sizeOf_90 : decode cX6_sizeOf 90 = .ok (.ineg, 1) := by decide +kernel
theorem dX6_sizeOf_91 : decode cX6_sizeOf 91 = .ok (.goto 15, 3) := by decide +kernel
theorem dX6_sizeOf_94 : decode cX6_sizeOf 94 = .ok (.iload_n 2, 1) := by decide +kernel
theorem dX6_sizeOf_95 : decode cX6_sizeOf 95 = .ok (.iconst 5, 1) := by decide +kernel
theorem dX6_sizeOf_96 : decode cX6_sizeOf 96 = .ok (.if_icmp .ne 9, 3) := by decide +kernel
theorem dX6_sizeOf_99 : decode cX6_sizeOf 99 = .ok (.iconst 2, 1) := by decide +kernel
theorem dX6_sizeOf_100 : decode cX6_sizeOf 100 = .ok (.iload_n 3, 1) := by decide +kernel
theorem dX6_sizeOf_101 : decode cX6_sizeOf 101 = .ok (.imul, 1) := by decide +kernel
theorem dX6_sizeOf_102 : decode cX6_sizeOf 102 = .ok (.goto 4, 3) := by decide +kernel
theorem dX6_sizeOf_105 : decode cX6_sizeOf 105 = .ok (.iload_n 3, 1) := by decide +kernel
theorem dX6_sizeOf_106 : decode cX6_sizeOf 106 = .ok (.ireturn, 1) := by decide +kernel
theorem dX6_ask_0 : decode cX6_ask 0 = .ok (.aload_n 0, 1) := by decide +kernel
theorem dX6_ask_1 : decode cX6_ask 1 = .ok (.iconst 0, 1) := by decide +kernel
theorem dX6_ask_2 : decode cX6_ask 2 = .ok (.putfield 44, 3) := by decide +kernel
theorem dX6_ask_5 : decode cX6_ask 5 = .ok (.aload_n 0, 1) := by decide +kernel
theorem dX6_ask_6 : decode cX6_ask 6 = .ok (.iload_n 1, 1) := by decide +kernel
theorem dX6_ask_7 : decode cX6_ask 7 = .ok (.invokevirtual 211, 3) := by decide +kernel
theorem dX6_ask_10 : decode cX6_ask 10 = .ok (.ifCond .eq 13, 3) := by decide +kernel
theorem dX6_ask_13 : decode cX6_ask 13 = .ok (.iload_n 2, 1) := by decide +kernel
theorem dX6_ask_14 : decode cX6_ask 14 = .ok (.i2l, 1) := by decide +kernel
theorem dX6_ask_15 : decode cX6_ask 15 = .ok (.lconst 0, 1) := by decide +kernel
theorem dX6_ask_16 : decode cX6_ask 16 = .ok (.lconst 1, 1) := by decide +kernel
theorem dX6_ask_17 : decode cX6_ask 17 = .ok (.invokestatic 54, 3) := by decide +kernel
theorem dX6_ask_20 : decode cX6_ask 20 = .ok (.ifCond .ne 6, 3) := by decide +kernel
theorem dX6_ask_23 : decode cX6_ask 23 = .ok (.ldc 64, 2) := by decide +kernel
theorem dX6_ask_25 : decode cX6_ask 25 = .ok (.ireturn, 1) := by decide +kernel
theorem dX6_ask_26 : decode cX6_ask 26 = .ok (.aload_n 0, 1) := by decide +kernel
theorem dX6_ask_27 : decode cX6_ask 27 = .ok (.iconst 0, 1) := by decide +kernel
theorem dX6_ask_28 : decode cX6_ask 28 = .ok (.putfield 280, 3) := by decide +kernel
theorem dX6_ask_31 : decode cX6_ask 31 = .ok (.iload_n 2, 1) := by decide +kernel
theorem dX6_ask_32 : decode cX6_ask 32 = .ok (.ifCond .ne 11, 3) := by decide +kernel
theorem dX6_ask_35 : decode cX6_ask 35 = .ok (.aload_n 0, 1) := by decide +kernel
theorem dX6_ask_36 : decode cX6_ask 36 = .ok (.iload_n 1, 1) := by decide +kernel
theorem dX6_ask_37 : decode cX6_ask 37 = .ok (.invokevirtual 292, 3) := by decide +kernel
theorem dX6_ask_40 : decode cX6_ask 40 = .ok (.goto 8, 3) := by decide +kernel
theorem dX6_ask_43 : decode cX6_ask 43 = .ok (.aload_n 0, 1) := by decide +kernel
theorem dX6_ask_44 : decode cX6_ask 44 = .ok (.iload_n 1, 1) := by decide +kernel
theorem dX6_ask_45 : decode cX6_ask 45 = .ok (.invokevirtual 289, 3) := by decide +kernel
theorem dX6_ask_48 : decode cX6_ask 48 = .ok (.ireturn, 1) := by decide +kernel
theorem dX6_trace_0 : decode cX6_trace 0 = .ok (.aload_n 0, 1) := by decide +kernel
theorem dX6_trace_1 : decode cX6_trace 1 = .ok (.iconst 0, 1) := by decide +kernel
theorem dX6_trace_2 : decode cX6_trace 2 = .ok (.putfield 44, 3) := by decide +kernel
theorem dX6_trace_5 : decode cX6_trace 5 = .ok (.iload_n 1, 1) := by decide +kernel
theorem dX6_trace_6 : decode cX6_trace 6 = .ok (.i2l, 1) := by decide +kernel
theorem dX6_trace_7 : decode cX6_trace 7 = .ok (.lconst 0, 1) := by decide +kernel
theorem dX6_trace_8 : decode cX6_trace 8 = .ok (.aload_n 0, 1) := by decide +kernel
theorem dX6_trace_9 : decode cX6_trace 9 = .ok (.getfield 280, 3) := by decide +kernel
theorem dX6_trace_12 : decode cX6_trace 12 = .ok (.iconst 1, 1) := by decide +kernel
theorem dX6_trace_13 : decode cX6_trace 13 = .ok (.isub, 1) := by decide +kernel
theorem dX6_trace_14 : decode cX6_trace 14 = .ok (.i2l, 1) := by decide +kernel
theorem dX6_trace_15 : decode cX6_trace 15 = .ok (.invokestatic 54, 3) := by decide +kernel
theorem dX6_trace_18 : decode cX6_trace 18 = .ok (.ifCond .eq 12, 3) := by decide +kernel
theorem dX6_trace_21 : decode cX6_trace 21 = .ok (.aload_n 0, 1) := by decide +kernel
theorem dX6_trace_22 : decode cX6_trace 22 = .ok (.getfield 41, 3) := by decide +kernel
theorem dX6_trace_25 : decode cX6_trace 25 = .ok (.iload_n 1, 1) := by decide +kernel
theorem dX6_trace_26 : decode cX6_trace 26 = .ok (.iaload, 1) := by decide +kernel
theorem dX6_trace_27 : decode cX6_trace 27 = .ok (.goto 5, 3) := by decide +kernel
theorem dX6_trace_30 : decode cX6_trace 30 = .ok (.ldc 80, 2) := by decide +kernel
theorem dX6_trace_32 : decode cX6_trace 32 = .ok (.ireturn, 1) := by decide +kernel
theorem dX6_count_0 : decode cX6_count 0 = .ok (.aload_n 0, 1) := by decide +kernel
theorem dX6_count_1 : decode cX6_count 1 = .ok (.iconst 0, 1) := by decide +kernel
theorem dX6_count_2 : decode cX6_count 2 = .ok (.putfield 44, 3) := by decide +kernel
theorem dX6_count_5 : decode cX6_count 5 = .ok (.iconst 0, 1) := by decide +kernel
theorem dX6_count_6 : decode cX6_count 6 = .ok (.istore_n 2, 1) := by decide +kernel
theorem dX6_count_7 : decode cX6_count 7 = .ok (.iload_n 1, 1) := by decide +kernel
theorem dX6_count_8 : decode cX6_count 8 = .ok (.tableswitch 103 0 6 #[44, 77, 77, 77, 86, 91, 98], 44) := by decide +kernel
theorem dX6_count_52 : decode cX6_count 52 = .ok (.iconst 0, 1) := by decide +kernel
theorem dX6_count_53 : decode cX6_count 53 = .ok (.istore_n 3, 1) := by decide +kernel
theorem dX6_count_54 : decode cX6_count 54 = .ok (.iload_n 3, 1) := by decide +kernel
theorem dX6_count_55 : decode cX6_count 55 = .ok (.bipush 8, 2) := by decide +kernel
theorem dX6_count_57 : decode cX6_count 57 = .ok (.if_icmp .ge 26, 3) := by decide +kernel
theorem dX6_count_60 : decode cX6_count 60 = .ok (.iload_n 2, 1) := by decide +kernel
theorem dX6_count_61 : decode cX6_count 61 = .ok (.aload_n 0, 1) := by decide +kernel
theorem dX6_count_62 : decode cX6_count 62 = .ok (.getfield 7, 3) := by decide +kernel
theorem dX6_count_65 : decode cX6_count 65 = .ok (.iload_n 3, 1) := by decide +kernel
theorem dX6_count_66 : decode cX6_count 66 = .ok (.iaload, 1) := by decide +kernel
theorem dX6_count_67 : decode cX6_count 67 = .ok (.ifCond .lt 7, 3) := by decide +kernel
theorem dX6_count_70 : decode cX6_count 70 = .ok (.iconst 1, 1) := by decide +kernel
theorem dX6_count_71 : decode cX6_count 71 = .ok (.goto 4, 3) := by decide +kernel
theorem dX6_count_74 : decode cX6_count 74 = .ok (.iconst 0, 1) := by decide +kernel
theorem dX6_count_75 : decode cX6_count 75 = .ok (.iadd, 1) := by decide +kernel
theorem dX6_count_76 : decode cX6_count 76 = .ok (.istore_n 2, 1) := by decide +kernel
theorem dX6_count_77 : decode cX6_count 77 = .ok (.iinc 3 1, 3) := by decide +kernel
theorem dX6_count_80 : decode cX6_count 80 = .ok (.goto (-26), 3) := by decide +kernel
theorem dX6_count_83 : decode cX6_count 83 = .ok (.iload_n 2, 1) := by decide +kernel
theorem dX6_count_84 : decode cX6_count 84 = .ok (.ireturn, 1) := by decide +kernel
theorem dX6_count_85 : decode cX6_count 85 = .ok (.aload_n 0, 1) := by decide +kernel
theorem dX6_count_86 : decode cX6_count 86 = .ok (.getfield 19, 3) := by decide +kernel
theorem dX6_count_89 : decode cX6_count 89 = .ok (.iload_n 1, 1) := by decide +kernel
theorem dX6_count_90 : decode cX6_count 90 = .ok (.iconst 1, 1) := by decide +kernel
theorem dX6_count_91 : decode cX6_count 91 = .ok (.isub, 1) := by decide +kernel
theorem dX6_count_92 : decode cX6_count 92 = .ok (.iaload, 1) := by decide +kernel
theorem dX6_count_93 : decode cX6_count 93 = .ok (.ireturn, 1) := by decide +kernel
theorem dX6_count_94 : decode cX6_count 94 = .ok (.aload_n 0, 1) := by decide +kernel
theorem dX6_count_95 : decode cX6_count 95 = .ok (.getfield 190, 3) := by decide +kernel
theorem dX6_count_98 : decode cX6_count 98 = .ok (.ireturn, 1) := by decide +kernel
theorem dX6_count_99 : decode cX6_count 99 = .ok (.aload_n 0, 1) := by decide +kernel
theorem dX6_count_100 : decode cX6_count 100 = .ok (.getfield 19, 3) := by decide +kernel
theorem dX6_count_103 : decode cX6_count 103 = .ok (.iconst 3, 1) := by decide +kernel
theorem dX6_count_104 : decode cX6_count 104 = .ok (.iaload, 1) := by decide +kernel
theorem dX6_count_105 : decode cX6_count 105 = .ok (.ireturn, 1) := by decide +kernel
theorem dX6_count_106 : decode cX6_count 106 = .ok (.aload_n 0, 1) := by decide +kernel
theorem dX6_count_107 : decode cX6_count 107 = .ok (.getfield 71, 3) := by decide +kernel
theorem dX6_count_110 : decode cX6_count 110 = .ok (.ireturn, 1) := by decide +kernel
theorem dX6_count_111 : decode cX6_count 111 = .ok (.ldc 64, 2) := by decide +kernel
theorem dX6_count_113 : decode cX6_count 113 = .ok (.ireturn, 1) := by decide +kernel
theorem dX6_status_0 : decode cX6_status 0 = .ok (.aload_n 0, 1) := by decide +kernel
theorem dX6_status_1 : decode cX6_status 1 = .ok (.iconst 0, 1) := by decide +kernel
theorem dX6_status_2 : decode cX6_status 2 = .ok (.putfield 44, 3) := by decide +kernel
theorem dX6_status_5 : decode cX6_status 5 = .ok (.aload_n 0, 1) := by decide +kernel
theorem dX6_status_6 : decode cX6_status 6 = .ok (.getfield 48, 3) := by decide +kernel
theorem dX6_status_9 : decode cX6_status 9 = .ok (.ireturn, 1) := by decide +kernel
