theorem dX9_init_0 : decode cX9_init 0 = .ok (.aload_n 0, 1) := by decide +kernel
theorem dX9_init_1 : decode cX9_init 1 = .ok (.invokespecial 1, 3) := by decide +kernel
theorem dX9_init_4 : decode cX9_init 4 = .ok (.aload_n 0, 1) := by decide +kernel
theorem dX9_init_5 : decode cX9_init 5 = .ok (.bipush 24, 2) := by decide +kernel
theorem dX9_init_7 : decode cX9_init 7 = .ok (.newarray .int, 2) := by decide +kernel
theorem dX9_init_9 : decode cX9_init 9 = .ok (.putfield 7, 3) := by decide +kernel
theorem dX9_init_12 : decode cX9_init 12 = .ok (.aload_n 0, 1) := by decide +kernel
theorem dX9_init_13 : decode cX9_init 13 = .ok (.bipush 6, 2) := by decide +kernel
theorem dX9_init_15 : decode cX9_init 15 = .ok (.newarray .int, 2) := by decide +kernel
theorem dX9_init_17 : decode cX9_init 17 = .ok (.putfield 13, 3) := by decide +kernel
theorem dX9_init_20 : decode cX9_init 20 = .ok (.aload_n 0, 1) := by decide +kernel
theorem dX9_init_21 : decode cX9_init 21 = .ok (.bipush 6, 2) := by decide +kernel
theorem dX9_init_23 : decode cX9_init 23 = .ok (.newarray .int, 2) := by decide +kernel
theorem dX9_init_25 : decode cX9_init 25 = .ok (.putfield 16, 3) := by decide +kernel
theorem dX9_init_28 : decode cX9_init 28 = .ok (.aload_n 0, 1) := by decide +kernel
theorem dX9_init_29 : decode cX9_init 29 = .ok (.bipush 20, 2) := by decide +kernel
theorem dX9_init_31 : decode cX9_init 31 = .ok (.newarray .int, 2) := by decide +kernel
theorem dX9_init_33 : decode cX9_init 33 = .ok (.putfield 19, 3) := by decide +kernel
theorem dX9_init_36 : decode cX9_init 36 = .ok (.aload_n 0, 1) := by decide +kernel
theorem dX9_init_37 : decode cX9_init 37 = .ok (.bipush 8, 2) := by decide +kernel
theorem dX9_init_39 : decode cX9_init 39 = .ok (.newarray .int, 2) := by decide +kernel
theorem dX9_init_41 : decode cX9_init 41 = .ok (.putfield 22, 3) := by decide +kernel
theorem dX9_init_44 : decode cX9_init 44 = .ok (.aload_n 0, 1) := by decide +kernel
theorem dX9_init_45 : decode cX9_init 45 = .ok (.bipush 6, 2) := by decide +kernel
theorem dX9_init_47 : decode cX9_init 47 = .ok (.newarray .int, 2) := by decide +kernel
theorem dX9_init_49 : decode cX9_init 49 = .ok (.putfield 25, 3) := by decide +kernel
theorem dX9_init_52 : decode cX9_init 52 = .ok (.aload_n 0, 1) := by decide +kernel
theorem dX9_init_53 : decode cX9_init 53 = .ok (.bipush 6, 2) := by decide +kernel
theorem dX9_init_55 : decode cX9_init 55 = .ok (.newarray .int, 2) := by decide +kernel
theorem dX9_init_57 : decode cX9_init 57 = .ok (.putfield 28, 3) := by decide +kernel
theorem dX9_init_60 : decode cX9_init 60 = .ok (.aload_n 0, 1) := by decide +kernel
theorem dX9_init_61 : decode cX9_init 61 = .ok (.bipush 6, 2) := by decide +kernel
theorem dX9_init_63 : decode cX9_init 63 = .ok (.newarray .int, 2) := by decide +kernel
theorem dX9_init_65 : decode cX9_init 65 = .ok (.putfield 31, 3) := by decide +kernel
theorem dX9_init_68 : decode cX9_init 68 = .ok (.aload_n 0, 1) := by decide +kernel
theorem dX9_init_69 : decode cX9_init 69 = .ok (.bipush 6, 2) := by decide +kernel
theorem dX9_init_71 : decode cX9_init 71 = .ok (.newarray .int, 2) := by decide +kernel
theorem dX9_init_73 : decode cX9_init 73 = .ok (.putfield 34, 3) := by decide +kernel
theorem dX9_init_76 : decode cX9_init 76 = .ok (.aload_n 0, 1) := by decide +kernel
theorem dX9_init_77 : decode cX9_init 77 = .ok (.bipush 6, 2) := by decide +kernel
theorem dX9_init_79 : decode cX9_init 79 = .ok (.newarray .int, 2) := by decide +kernel
theorem dX9_init_81 : decode cX9_init 81 = .ok (.putfield 37, 3) := by decide +kernel
theorem dX9_init_84 : decode cX9_init 84 = .ok (.aload_n 0, 1) := by decide +kernel
theorem dX9_init_85 : decode cX9_init 85 = .ok (.bipush 6, 2) := by decide +kernel
theorem dX9_init_87 : decode cX9_init 87 = .ok (.newarray .int, 2) := by decide +kernel
theorem dX9_init_89 : decode cX9_init 89 = .ok (.putfield 40, 3) := by decide +kernel
theorem dX9_init_92 : decode cX9_init 92 = .ok (.aload_n 0, 1) := by decide +kernel
theorem dX9_init_93 : decode cX9_init 93 = .ok (.bipush 6, 2) := by decide +kernel
theorem dX9_init_95 : decode cX9_init 95 = .ok (.newarray .int, 2) := by decide +kernel
theorem dX9_init_97 : decode cX9_init 97 = .ok (.putfield 43, 3) := by decide +kernel
theorem dX9_init_100 : decode cX9_init 100 = .ok (.aload_n 0, 1) := by decide +kernel
theorem dX9_init_101 : decode cX9_init 101 = .ok (.bipush 6, 2) := by decide +kernel
theorem dX9_init_103 : decode cX9_init 103 = .ok (.newarray .int, 2) := by decide +kernel
theorem dX9_init_105 : decode cX9_init 105 = .ok (.putfield 46, 3) := by decide +kernel
theorem dX9_init_108 : decode cX9_init 108 = .ok (.aload_n 0, 1) := by decide +kernel
theorem dX9_init_109 : decode cX9_init 109 = .ok (.bipush 6, 2) := by decide +kernel
theorem dX9_init_111 : decode cX9_init 111 = .ok (.newarray .int, 2) := by decide +kernel
theorem dX9_init_113 : decode cX9_init 113 = .ok (.putfield 49, 3) := by decide +kernel
theorem dX9_init_116 : decode cX9_init 116 = .ok (.aload_n 0, 1) := by decide +kernel
theorem dX9_init_117 : decode cX9_init 117 = .ok (.sipush 501, 3) := by decide +kernel
theorem dX9_init_120 : decode cX9_init 120 = .ok (.newarray .int, 2) := by decide +kernel
theorem dX9_init_122 : decode cX9_init 122 = .ok (.putfield 52, 3) := by decide +kernel
theorem dX9_init_125 : decode cX9_init 125 = .ok (.return_, 1) := by decide +kernel
theorem dX9_in_0 : decode cX9_in 0 = .ok (.lload_n 0, 1) := by decide +kernel
theorem dX9_in_1 : decode cX9_in 1 = .ok (.lload_n 2, 1) := by decide +kernel
theorem dX9_in_2 : decode cX9_in 2 = .ok (.lcmp, 1) := by decide +kernel
theorem dX9_in_3 : decode cX9_in 3 = .ok (.ifCond .lt 14, 3) := by decide +kernel
theorem dX9_in_6 : decode cX9_in 6 = .ok (.lload_n 0, 1) := by decide +kernel
theorem dX9_in_7 : decode cX9_in 7 = .ok (.lload 4, 2) := by decide +kernel
theorem dX9_in_9 : decode cX9_in 9 = .ok (.lcmp, 1) := by decide +kernel
theorem dX9_in_10 : decode cX9_in 10 = .ok (.ifCond .gt 7, 3) := by decide +kernel
theorem dX9_in_13 : decode cX9_in 13 = .ok (.iconst 1, 1) := by decide +kernel
theorem dX9_in_14 : decode cX9_in 14 = .ok (.goto 4, 3) := by decide +kernel
theorem dX9_in_17 : decode cX9_in 17 = .ok (.iconst 0, 1) := by decide +kernel
theorem dX9_in_18 : decode cX9_in 18 = .ok (.ireturn, 1) := by decide +kernel
theorem dX9_isLand_0 : decode cX9_isLand 0 = .ok (.iload_n 1, 1) := by decide +kernel
theorem dX9_isLand_1 : decode cX9_isLand 1 = .ok (.i2l, 1) := by decide +kernel
theorem dX9_isLand_2 : decode cX9_isLand 2 = .ok (.lconst 0, 1) := by decide +kernel
theorem dX9_isLand_3 : decode cX9_isLand 3 = .ok (.aload_n 0, 1) := by decide +kernel
theorem dX9_isLand_4 : decode cX9_isLand 4 = .ok (.getfield 55, 3) := by decide +kernel
theorem dX9_isLand_7 : decode cX9_isLand 7 = .ok (.iconst 1, 1) := by decide +kernel
theorem dX9_isLand_8 : decode cX9_isLand 8 = .ok (.isub, 1) := by decide +kernel
theorem dX9_isLand_9 : decode cX9_isLand 9 = .ok (.i2l, 1) := by decide +kernel
theorem dX9_isLand_10 : decode cX9_isLand 10 = .ok (.invokestatic 59, 3) := by decide +kernel
theorem dX9_isLand_13 : decode cX9_isLand 13 = .ok (.ireturn, 1) := by decide +kernel
theorem dX9_isNumber_0 : decode cX9_isNumber 0 = .ok (.iload_n 1, 1) := by decide +kernel
theorem dX9_isNumber_1 : decode cX9_isNumber 1 = .ok (.i2l, 1) := by decide +kernel
theorem dX9_isNumber_2 : decode cX9_isNumber 2 = .ok (.iload_n 0, 1) := by decide +kernel
theorem dX9_isNumber_3 : decode cX9_isNumber 3 = .ok (.iconst 2, 1) := by decide +kernel
theorem dX9_isNumber_4 : decode cX9_isNumber 4 = .ok (.if_icmp .ge 7, 3) := by decide +kernel
theorem dX9_isNumber_7 : decode cX9_isNumber 7 = .ok (.lconst 1, 1) := by decide +kernel
theorem dX9_isNumber_8 : decode cX9_isNumber 8 = .ok (.goto 4, 3) := by decide +kernel
theorem dX9_isNumber_11 : decode cX9_isNumber 11 = .ok (.lconst 0, 1) := by decide +kernel
theorem dX9_isNumber_12 : decode cX9_isNumber 12 = .ok (.iload_n 0, 1) := by decide +kernel
theorem dX9_isNumber_13 : decode cX9_isNumber 13 = .ok (.iconst 2, 1) := by decide +kernel
theorem dX9_isNumber_14 : decode cX9_isNumber 14 = .ok (.if_icmp .ge 9, 3) := by decide +kernel
theorem dX9_isNumber_17 : decode cX9_isNumber 17 = .ok (.ldc2_w 63, 3) := by decide +kernel
theorem dX9_isNumber_20 : decode cX9_isNumber 20 = .ok (.goto 17, 3) := by decide +kernel
theorem dX9_isNumber_23 : decode cX9_isNumber 23 = .ok (.iload_n 0, 1) := by decide +kernel
theorem dX9_isNumber_24 : decode cX9_isNumber 24 = .ok (.iconst 2, 1) := by decide +kernel
theorem dX9_isNumber_25 : decode cX9_isNumber 25 = .ok (.if_icmp .ne 9, 3) := by decide +kernel
theorem dX9_isNumber_28 : decode cX9_isNumber 28 = .ok (.ldc2_w 65, 3) := by decide +kernel
theorem dX9_isNumber_31 : decode cX9_isNumber 31 = .ok (.goto 6, 3) := by decide +kernel
theorem dX9_isNumber_34 : decode cX9_isNumber 34 = .ok (.ldc2_w 67, 3) := by decide +kernel
theorem dX9_isNumber_37 : decode cX9_isNumber 37 = .ok (.invokestatic 59, 3) := by decide +kernel
theorem dX9_isNumber_40 : decode cX9_isNumber 40 = .ok (.ireturn, 1) := by decide +kernel
theorem dX9_land_0 : decode cX9_land 0 = .ok (.iconst 0, 1) := by decide +kernel
theorem dX9_land_1 : decode cX9_land 1 = .ok (.iload_n 1, 1) := by decide +kernel
theorem dX9_land_2 : decode cX9_land 2 = .ok (.invokestatic 69, 3) := by decide +kernel
theorem dX9_land_5 : decode cX9_land 5 = .ok (.ifCond .eq 28, 3) := by decide +kernel
theorem dX9_land_8 : decode cX9_land 8 = .ok (.iconst 1, 1) := by decide +kernel
theorem dX9_land_9 : decode cX9_land 9 = .ok (.iload_n 2, 1) := by decide +kernel
theorem dX9_land_10 : decode cX9_land 10 = .ok (.invokestatic 69, 3) := by decide +kernel
theorem dX9_land_13 : decode cX9_land 13 = .ok (.ifCond .eq 20, 3) := by decide +kernel
theorem dX9_land_16 : decode cX9_land 16 = .ok (.iconst 2, 1) := by decide +kernel
theorem dX9_land_17 : decode cX9_land 17 = .ok (.iload_n 3, 1) := by decide +kernel
theorem dX9_land_18 : decode cX9_land 18 = .ok (.invokestatic 69, 3) := by decide +kernel
theorem dX9_land_21 : decode cX9_land 21 = .ok (.ifCond .eq 12, 3) := by decide +kernel
theorem dX9_land_24 : decode cX9_land 24 = .ok (.iconst 3, 1) := by decide +kernel
theorem dX9_land_25 : decode cX9_land 25 = .ok (.iload 4, 2) := by decide +kernel
theorem dX9_land_27 : decode cX9_land 27 = .ok (.invokestatic 69, 3) := by decide +kernel
theorem dX9_land_30 : decode cX9_land 30 = .ok (.ifCond .ne 6, 3) := by decide +kernel
theorem dX9_land_33 : decode cX9_land 33 = .ok (.bipush (-2), 2) := by decide +kernel
theorem dX9_land_35 : decode cX9_land 35 = .ok (.ireturn, 1) := by decide +kernel
theorem dX9_land_36 : decode cX9_land 36 = .ok (.aload_n 0, 1) := by decide +kernel
theorem dX9_land_37 : decode cX9_land 37 = .ok (.getfield 55, 3) := by decide +kernel
theorem dX9_land_40 : decode cX9_land 40 = .ok (.bipush 6, 2) := by decide +kernel
theorem dX9_land_42 : decode cX9_land 42 = .ok (.if_icmp .ne 6, 3) := by decide +kernel
theorem dX9_land_45 : decode cX9_land 45 = .ok (.bipush (-4), 2) := by decide +kernel
theorem dX9_land_47 : decode cX9_land 47 = .ok (.ireturn, 1) := by decide +kernel
theorem dX9_land_48 : decode cX9_land 48 = .ok (.aload_n 0, 1) := by decide +kernel
theorem dX9_land_49 : decode cX9_land 49 = .ok (.getfield 7, 3) := by decide +kernel
theorem dX9_land_52 : decode cX9_land 52 = .ok (.iconst 4, 1) := by decide +kernel
theorem dX9_land_53 : decode cX9_land 53 = .ok (.aload_n 0, 1) := by decide +kernel
theorem dX9_land_54 : decode cX9_land 54 = .ok (.getfield 55, 3) := by decide +kernel
theorem dX9_land_57 : decode cX9_land 57 = .ok (.imul, 1) := by decide +kernel
theorem dX9_land_58 : decode cX9_land 58 = .ok (.iload_n 1, 1) := by decide +kernel
theorem dX9_land_59 : decode cX9_land 59 = .ok (.iastore, 1) := by decide +kernel
theorem dX9_land_60 : decode cX9_land 60 = .ok (.aload_n 0, 1) := by decide +kernel
theorem dX9_land_61 : decode cX9_land 61 = .ok (.getfield 7, 3) := by decide +kernel
theorem dX9_land_64 : decode cX9_land 64 = .ok (.iconst 4, 1) := by decide +kernel
theorem dX9_land_65 : decode cX9_land 65 = .ok (.aload_n 0, 1) := by decide +kernel
theorem dX9_land_66 : decode cX9_land 66 = .ok (.getfield 55, 3) := by decide +kernel
theorem dX9_land_69 : decode cX9_land 69 = .ok (.imul, 1) := by decide +kernel
theorem dX9_land_70 : decode cX9_land 70 = .ok (.iconst 1, 1) := by decide +kernel
theorem dX9_land_71 : decode cX9_land 71 = .ok (.iadd, 1) := by decide +kernel
theorem dX9_land_72 : decode cX9_land 72 = .ok (.iload_n 2, 1) := by decide +kernel
theorem dX9_land_73 : decode cX9_land 73 = .ok (.iastore, 1) := by decide +kernel
theorem dX9_land_74 : decode cX9_land 74 = .ok (.aload_n 0, 1) := by decide +kernel
theorem dX9_land_75 : decode cX9_land 75 = .ok (.getfield 7, 3) := by decide +kernel
theorem dX9_land_78 : decode cX9_land 78 = .ok (.iconst 4, 1) := by decide +kernel
theorem dX9_land_79 : decode cX9_land 79 = .ok (.aload_n 0, 1) := by decide +kernel
theorem dX9_land_80 : decode cX9_land 80 = .ok (.getfield 55, 3) := by decide +kernel
theorem dX9_land_83 : decode cX9_land 83 = .ok (.imul, 1) := by decide +kernel
theorem dX9_land_84 : decode cX9_land 84 = .ok (.iconst 2, 1) := by decide +kernel
theorem dX9_land_85 : decode cX9_land 85 = .ok (.iadd, 1) := by decide +kernel
theorem dX9_land_86 : decode cX9_land 86 = .ok (.iload_n 3, 1) := by decide +kernel
theorem dX9_land_87 : decode cX9_land 87 = .ok (.iastore, 1) := by decide +kernel
theorem dX9_land_88 : decode cX9_land 88 = .ok (.aload_n 0, 1) := by decide +kernel
theorem dX9_land_89 : decode cX9_land 89 = .ok (.getfield 7, 3) := by decide +kernel
theorem dX9_land_92 : decode cX9_land 92 = .ok (.iconst 4, 1) := by decide +kernel
theorem dX9_land_93 : decode cX9_land 93 = .ok (.aload_n 0, 1) := by decide +kernel
theorem dX9_land_94 : decode cX9_land 94 = .ok (.getfield 55, 3) := by decide +kernel
theorem dX9_land_97 : decode cX9_land 97 = .ok (.imul, 1) := by decide +kernel
theorem dX9_land_98 : decode cX9_land 98 = .ok (.iconst 3, 1) := by decide +kernel
theorem dX9_land_99 : decode cX9_land 99 = .ok (.iadd, 1) := by decide +kernel
theorem dX9_land_100 : decode cX9_land 100 = .ok (.iload 4, 2) := by decide +kernel
theorem dX9_land_102 : decode cX9_land 102 = .ok (.iastore, 1) := by decide +kernel
theorem dX9_land_103 : decode cX9_land 103 = .ok (.aload_n 0, 1) := by decide +kernel
theorem dX9_land_104 : decode cX9_land 104 = .ok (.getfield 13, 3) := by decide +kernel
theorem dX9_land_107 : decode cX9_land 107 = .ok (.aload_n 0, 1) := by decide +kernel
theorem dX9_land_108 : decode cX9_land 108 = .ok (.getfield 55, 3) := by decide +kernel
theorem dX9_land_111 : decode cX9_land 111 = .ok (.aload_n 0, 1) := by decide +kernel
theorem dX9_land_112 : decode cX9_land 112 = .ok (.aload_n 0, 1) := by decide +kernel
theorem dX9_land_113 : decode cX9_land 113 = .ok (.getfield 13, 3) := by decide +kernel
theorem dX9_land_116 : decode cX9_land 116 = .ok (.invokevirtual 73, 3) := by decide +kernel
theorem dX9_land_119 : decode cX9_land 119 = .ok (.iastore, 1) := by decide +kernel
theorem dX9_land_120 : decode cX9_land 120 = .ok (.aload_n 0, 1) := by decide +kernel
theorem dX9_land_121 : decode cX9_land 121 = .ok (.dup, 1) := by decide +kernel
theorem dX9_land_122 : decode cX9_land 122 = .ok (.getfield 55, 3) := by decide +kernel
theorem dX9_land_125 : decode cX9_land 125 = .ok (.iconst 1, 1) := by decide +kernel
theorem dX9_land_126 : decode cX9_land 126 = .ok (.iadd, 1) := by decide +kernel
theorem dX9_land_127 : decode cX9_land 127 = .ok (.putfield 55, 3) := by decide +kernel
theorem dX9_land_130 : decode cX9_land 130 = .ok (.aload_n 0, 1) := by decide +kernel
theorem dX9_land_131 : decode cX9_land 131 = .ok (.getfield 55, 3) := by decide +kernel
theorem dX9_land_134 : decode cX9_land 134 = .ok (.iconst 1, 1) := by decide +kernel
theorem dX9_land_135 : decode cX9_land 135 = .ok (.isub, 1) := by decide +kernel
theorem dX9_land_136 : decode cX9_land 136 = .ok (.ireturn, 1) := by decide +kernel
theorem dX9_change_0 : decode cX9_change 0 = .ok (.aload_n 0, 1) := by decide +kernel
theorem dX9_change_1 : decode cX9_change 1 = .ok (.iload_n 1, 1) := by decide +kernel
theorem dX9_change_2 : decode cX9_change 2 = .ok (.invokevirtual 77, 3) := by decide +kernel
theorem dX9_change_5 : decode cX9_change 5 = .ok (.ifCond .ne 5, 3) := by decide +kernel
theorem dX9_change_8 : decode cX9_change 8 = .ok (.iconst (-1), 1) := by decide +kernel
theorem dX9_change_9 : decode cX9_change 9 = .ok (.ireturn, 1) := by decide +kernel
theorem dX9_change_10 : decode cX9_change 10 = .ok (.iload_n 2, 1) := by decide +kernel
theorem dX9_change_11 : decode cX9_change 11 = .ok (.i2l, 1) := by decide +kernel
theorem dX9_change_12 : decode cX9_change 12 = .ok (.lconst 0, 1) := by decide +kernel
theorem dX9_change_13 : decode cX9_change 13 = .ok (.ldc2_w 81, 3) := by decide +kernel
theorem dX9_change_16 : decode cX9_change 16 = .ok (.invokestatic 59, 3) := by decide +kernel
theorem dX9_change_19 : decode cX9_change 19 = .ok (.ifCond .eq 11, 3) := by decide +kernel
theorem dX9_change_22 : decode cX9_change 22 = .ok (.iload_n 2, 1) := by decide +kernel
theorem dX9_change_23 : decode cX9_change 23 = .ok (.iload_n 3, 1) := by decide +kernel
theorem dX9_change_24 : decode cX9_change 24 = .ok (.invokestatic 69, 3) := by decide +kernel
theorem dX9_change_27 : decode cX9_change 27 = .ok (.ifCond .ne 6, 3) := by decide +kernel
theorem dX9_change_30 : decode cX9_change 30 = .ok (.bipush (-2), 2) := by decide +kernel
theorem dX9_change_32 : decode cX9_change 32 = .ok (.ireturn, 1) := by decide +kernel
theorem dX9_change_33 : decode cX9_change 33 = .ok (.aload_n 0, 1) := by decide +kernel
theorem dX9_change_34 : decode cX9_change 34 = .ok (.getfield 7, 3) := by decide +kernel
theorem dX9_change_37 : decode cX9_change 37 = .ok (.iconst 4, 1) := by decide +kernel
theorem dX9_change_38 : decode cX9_change 38 = .ok (.iload_n 1, 1) := by decide +kernel
theorem dX9_change_39 : decode cX9_change 39 = .ok (.imul, 1) := by decide +kernel
theorem dX9_change_40 : decode cX9_change 40 = .ok (.iload_n 2, 1) := by decide +kernel
theorem dX9_change_41 : decode cX9_change 41 = .ok (.iadd, 1) := by decide +kernel
theorem dX9_change_42 : decode cX9_change 42 = .ok (.iaload, 1) := by decide +kernel
theorem dX9_change_43 : decode cX9_change 43 = .ok (.istore 4, 2) := by decide +kernel
theorem dX9_change_45 : decode cX9_change 45 = .ok (.aload_n 0, 1) := by decide +kernel
theorem dX9_change_46 : decode cX9_change 46 = .ok (.getfield 7, 3) := by decide +kernel
theorem dX9_change_49 : decode cX9_change 49 = .ok (.iconst 4, 1) := by decide +kernel
theorem dX9_change_50 : decode cX9_change 50 = .ok (.iload_n 1, 1) := by decide +kernel
theorem dX9_change_51 : decode cX9_change 51 = .ok (.imul, 1) := by decide +kernel
theorem dX9_change_52 : decode cX9_change 52 = .ok (.iload_n 2, 1) := by decide +kernel
theorem dX9_change_53 : decode cX9_change 53 = .ok (.iadd, 1) := by decide +kernel
theorem dX9_change_54 : decode cX9_change 54 = .ok (.iload_n 3, 1) := by decide +kernel
theorem dX9_change_55 : decode cX9_change 55 = .ok (.iastore, 1) := by decide +kernel
theorem dX9_change_56 : decode cX9_change 56 = .ok (.iload 4, 2) := by decide +kernel
theorem dX9_change_58 : decode cX9_change 58 = .ok (.ireturn, 1) := by decide +kernel
theorem dX9_set_0 : decode cX9_set 0 = .ok (.iload_n 1, 1) := by decide +kernel
theorem dX9_set_1 : decode cX9_set 1 = .ok (.i2l, 1) := by decide +kernel
theorem dX9_set_2 : decode cX9_set 2 = .ok (.lconst 0, 1) := by decide +kernel
theorem dX9_set_3 : decode cX9_set 3 = .ok (.lconst 1, 1) := by decide +kernel
theorem dX9_set_4 : decode cX9_set 4 = .ok (.invokestatic 59, 3) := by decide +kernel
theorem dX9_set_7 : decode cX9_set 7 = .ok (.ifCond .eq 15, 3) := by decide +kernel
theorem dX9_set_10 : decode cX9_set 10 = .ok (.iload_n 2, 1) := by decide +kernel
theorem dX9_set_11 : decode cX9_set 11 = .ok (.i2l, 1) := by decide +kernel
theorem dX9_set_12 : decode cX9_set 12 = .ok (.lconst 0, 1) := by decide +kernel
theorem dX9_set_13 : decode cX9_set 13 = .ok (.ldc2_w 83, 3) := by decide +kernel
theorem dX9_set_16 : decode cX9_set 16 = .ok (.invokestatic 59, 3) := by decide +kernel
theorem dX9_set_19 : decode cX9_set 19 = .ok (.ifCond .ne 6, 3) := by decide +kernel
theorem dX9_set_22 : decode cX9_set 22 = .ok (.bipush (-2), 2) := by decide +kernel
theorem dX9_set_24 : decode cX9_set 24 = .ok (.ireturn, 1) := by decide +kernel
theorem dX9_set_25 : decode cX9_set 25 = .ok (.iload_n 1, 1) := by decide +kernel
theorem dX9_set_26 : decode cX9_set 26 = .ok (.ifCond .ne 10, 3) := by decide +kernel
theorem dX9_set_29 : decode cX9_set 29 = .ok (.aload_n 0, 1) := by decide +kernel
theorem dX9_set_30 : decode cX9_set 30 = .ok (.getfield 85, 3) := by decide +kernel
theorem dX9_set_33 : decode cX9_set 33 = .ok (.goto 7, 3) := by decide +kernel
theorem dX9_set_36 : decode cX9_set 36 = .ok (.aload_n 0, 1) := by decide +kernel
theorem dX9_set_37 : decode cX9_set 37 = .ok (.getfield 88, 3) := by decide +kernel
theorem dX9_set_40 : decode cX9_set 40 = .ok (.istore_n 3, 1) := by decide +kernel
theorem dX9_set_41 : decode cX9_set 41 = .ok (.iload_n 1, 1) := by decide +kernel
theorem dX9_set_42 : decode cX9_set 42 = .ok (.ifCond .ne 11, 3) := by decide +kernel
theorem dX9_set_45 : decode cX9_set 45 = .ok (.aload_n 0, 1) := by decide +kernel
theorem dX9_set_46 : decode cX9_set 46 = .ok (.iload_n 2, 1) := by decide +kernel
theorem dX9_set_47 : decode cX9_set 47 = .ok (.putfield 85, 3) := by decide +kernel
theorem dX9_set_50 : decode cX9_set 50 = .ok (.goto 8, 3) := by decide +kernel
theorem dX9_set_53 : decode cX9_set 53 = .ok (.aload_n 0, 1) := by decide +kernel
theorem dX9_set_54 : decode cX9_set 54 = .ok (.iload_n 2, 1) := by decide +kernel
theorem dX9_set_55 : decode cX9_set 55 = .ok (.putfield 88, 3) := by decide +kernel
theorem dX9_set_58 : decode cX9_set 58 = .ok (.iload_n 3, 1) := by decide +kernel
theorem dX9_set_59 : decode cX9_set 59 = .ok (.ireturn, 1) := by decide +kernel
theorem dX9_manyOf_0 : decode cX9_manyOf 0 = .ok (.iconst 0, 1) := by decide +kernel
theorem dX9_manyOf_1 : decode cX9_manyOf 1 = .ok (.istore_n 2, 1) := by decide +kernel
theorem dX9_manyOf_2 : decode cX9_manyOf 2 = .ok (.iconst 0, 1) := by decide +kernel
theorem dX9_manyOf_3 : decode cX9_manyOf 3 = .ok (.istore_n 3, 1) := by decide +kernel
theorem dX9_manyOf_4 : decode cX9_manyOf 4 = .ok (.iload_n 3, 1) := by decide +kernel
theorem dX9_manyOf_5 : decode cX9_manyOf 5 = .ok (.aload_n 0, 1) := by decide +kernel
theorem dX9_manyOf_6 : decode cX9_manyOf 6 = .ok (.getfield 55, 3) := by decide +kernel
theorem dX9_manyOf_9 : decode cX9_manyOf 9 = .ok (.if_icmp .ge 26, 3) := by decide +kernel
theorem dX9_manyOf_12 : decode cX9_manyOf 12 = .ok (.aload_n 1, 1) := by decide +kernel
theorem dX9_manyOf_13 : decode cX9_manyOf 13 = .ok (.iload_n 3, 1) := by decide +kernel
theorem dX9_manyOf_14 : decode cX9_manyOf 14 = .ok (.iaload, 1) := by decide +kernel
theorem dX9_manyOf_15 : decode cX9_manyOf 15 = .ok (.iload_n 2, 1) := by decide +kernel
theorem dX9_manyOf_16 : decode cX9_manyOf 16 = .ok (.if_icmp .lt 11, 3) := by decide +kernel
theorem dX9_manyOf_19 : decode cX9_manyOf 19 = .ok (.aload_n 1, 1) := by decide +kernel
theorem dX9_manyOf_20 : decode cX9_manyOf 20 = .ok (.iload_n 3, 1) := by decide +kernel
theorem dX9_manyOf_21 : decode cX9_manyOf 21 = .ok (.iaload, 1) := by decide +kernel
theorem dX9_manyOf_22 : decode cX9_manyOf 22 = .ok (.iconst 1, 1) := by decide +kernel
theorem dX9_manyOf_23 : decode cX9_manyOf 23 = .ok (.iadd, 1) := by decide +kernel
theorem dX9_manyOf_24 : decode cX9_manyOf 24 = .ok (.goto 4, 3) := by decide +kernel
theorem dX9_manyOf_27 : decode cX9_manyOf 27 = .ok (.iload_n 2, 1) := by decide +kernel
theorem dX9_manyOf_28 : decode cX9_manyOf 28 = .ok (.istore_n 2, 1) := by decide +kernel
theorem dX9_manyOf_29 : decode cX9_manyOf 29 = .ok (.iinc 3 1, 3) := by decide +kernel
theorem dX9_manyOf_32 : decode cX9_manyOf 32 = .ok (.goto (-28), 3) := by decide +kernel
theorem dX9_manyOf_35 : decode cX9_manyOf 35 = .ok (.iload_n 2, 1) := by decide +kernel
theorem dX9_manyOf_36 : decode cX9_manyOf 36 = .ok (.ireturn, 1) := by decide +kernel
theorem dX9_say_0 : decode cX9_say 0 = .ok (.iload_n 1, 1) := by decide +kernel
theorem dX9_say_1 : decode cX9_say 1 = .ok (.i2l, 1) := by decide +kernel
theorem dX9_say_2 : decode cX9_say 2 = .ok (.ldc2_w 91, 3) := by decide +kernel
theorem dX9_say_5 : decode cX9_say 5 = .ok (.ldc2_w 93, 3) := by decide +kernel
theorem dX9_say_8 : decode cX9_say 8 = .ok (.invokestatic 59, 3) := by decide +kernel
theorem dX9_say_11 : decode cX9_say 11 = .ok (.ifCond .ne 6, 3) := by decide +kernel
theorem dX9_say_14 : decode cX9_say 14 = .ok (.bipush (-2), 2) := by decide +kernel
theorem dX9_say_16 : decode cX9_say 16 = .ok (.ireturn, 1) := by decide +kernel
theorem dX9_say_17 : decode cX9_say 17 = .ok (.aload_n 0, 1) := by decide +kernel
theorem dX9_say_18 : decode cX9_say 18 = .ok (.getfield 95, 3) := by decide +kernel
theorem dX9_say_21 : decode cX9_say 21 = .ok (.bipush 20, 2) := by decide +kernel
theorem dX9_say_23 : decode cX9_say 23 = .ok (.if_icmp .ne 6, 3) := by decide +kernel
theorem dX9_say_26 : decode cX9_say 26 = .ok (.bipush (-4), 2) := by decide +kernel
theorem dX9_say_28 : decode cX9_say 28 = .ok (.ireturn, 1) := by decide +kernel
theorem dX9_say_29 : decode cX9_say 29 = .ok (.aload_n 0, 1) := by decide +kernel
theorem dX9_say_30 : decode cX9_say 30 = .ok (.getfield 19, 3) := by decide +kernel
theorem dX9_say_33 : decode cX9_say 33 = .ok (.aload_n 0, 1) := by decide +kernel
theorem dX9_say_34 : decode cX9_say 34 = .ok (.getfield 95, 3) := by decide +kernel
theorem dX9_say_37 : decode cX9_say 37 = .ok (.iload_n 1, 1) := by decide +kernel
theorem dX9_say_38 : decode cX9_say 38 = .ok (.iastore, 1) := by decide +kernel
theorem dX9_say_39 : decode cX9_say 39 = .ok (.aload_n 0, 1) := by decide +kernel
theorem dX9_say_40 : decode cX9_say 40 = .ok (.dup, 1) := by decide +kernel
theorem dX9_say_41 : decode cX9_say 41 = .ok (.getfield 95, 3) := by decide +kernel
theorem dX9_say_44 : decode cX9_say 44 = .ok (.iconst 1, 1) := by decide +kernel
theorem dX9_say_45 : decode cX9_say 45 = .ok (.iadd, 1) := by decide +kernel
theorem dX9_say_46 : decode cX9_say 46 = .ok (.putfield 95, 3) := by decide +kernel
theorem dX9_say_49 : decode cX9_say 49 = .ok (.aload_n 0, 1) := by decide +kernel
theorem dX9_say_50 : decode cX9_say 50 = .ok (.getfield 95, 3) := by decide +kernel
theorem dX9_say_53 : decode cX9_say 53 = .ok (.ireturn, 1) := by decide +kernel
theorem dX9_wipe_0 : decode cX9_wipe 0 = .ok (.aload_n 0, 1) := by decide +kernel
theorem dX9_wipe_1 : decode cX9_wipe 1 = .ok (.getfield 95, 3) := by decide +kernel
theorem dX9_wipe_4 : decode cX9_wipe 4 = .ok (.istore_n 1, 1) := by decide +kernel
theorem dX9_wipe_5 : decode cX9_wipe 5 = .ok (.aload_n 0, 1) := by decide +kernel
theorem dX9_wipe_6 : decode cX9_wipe 6 = .ok (.iconst 0, 1) := by decide +kernel
theorem dX9_wipe_7 : decode cX9_wipe 7 = .ok (.putfield 95, 3) := by decide +kernel
theorem dX9_wipe_10 : decode cX9_wipe 10 = .ok (.iload_n 1, 1) := by decide +kernel
theorem dX9_wipe_11 : decode cX9_wipe 11 = .ok (.ireturn, 1) := by decide +kernel
theorem dX9_fault_0 : decode cX9_fault 0 = .ok (.iconst 0, 1) := by decide +kernel
theorem dX9_fault_1 : decode cX9_fault 1 = .ok (.istore_n 1, 1) := by decide +kernel
theorem dX9_fault_2 : decode cX9_fault 2 = .ok (.iconst 0, 1) := by decide +kernel
theorem dX9_fault_3 : decode cX9_fault 3 = .ok (.istore_n 2, 1) := by decide +kernel
theorem dX9_fault_4 : decode cX9_fault 4 = .ok (.iconst 0, 1) := by decide +kernel
theorem dX9_fault_5 : decode cX9_fault 5 = .ok (.istore_n 3, 1) := by decide +kernel
theorem dX9_fault_6 : decode cX9_fault 6 = .ok (.iload_n 3, 1) := by decide +kernel
theorem dX9_fault_7 : decode cX9_fault 7 = .ok (.aload_n 0, 1) := by decide +kernel
theorem dX9_fault_8 : decode cX9_fault 8 = .ok (.getfield 95, 3) := by decide +kernel
theorem dX9_fault_11 : decode cX9_fault 11 = .ok (.if_icmp .ge 122, 3) := by decide +kernel
theorem dX9_fault_14 : decode cX9_fault 14 = .ok (.aload_n 0, 1) := by decide +kernel
theorem dX9_fault_15 : decode cX9_fault 15 = .ok (.getfield 19, 3) := by decide +kernel
theorem dX9_fault_18 : decode cX9_fault 18 = .ok (.iload_n 3, 1) := by decide +kernel
theorem dX9_fault_19 : decode cX9_fault 19 = .ok (.iaload, 1) := by decide +kernel
theorem dX9_fault_20 : decode cX9_fault 20 = .ok (.istore 4, 2) := by decide +kernel
theorem dX9_fault_22 : decode cX9_fault 22 = .ok (.iload 4, 2) := by decide +kernel
theorem dX9_fault_24 : decode cX9_fault 24 = .ok (.i2l, 1) := by decide +kernel
theorem dX9_fault_25 : decode cX9_fault 25 = .ok (.ldc2_w 98, 3) := by decide +kernel
theorem dX9_fault_28 : decode cX9_fault 28 = .ok (.bipush 97, 2) := by decide +kernel
theorem dX9_fault_30 : decode cX9_fault 30 = .ok (.aload_n 0, 1) := by decide +kernel
theorem dX9_fault_31 : decode cX9_fault 31 = .ok (.getfield 55, 3) := by decide +kernel
theorem dX9_fault_34 : decode cX9_fault 34 = .ok (.iadd, 1) := by decide +kernel
theorem dX9_fault_35 : decode cX9_fault 35 = .ok (.iconst 1, 1) := by decide +kernel
theorem dX9_fault_36 : decode cX9_fault 36 = .ok (.isub, 1) := by decide +kernel
theorem dX9_fault_37 : decode cX9_fault 37 = .ok (.i2l, 1) := by decide +kernel
theorem dX9_fault_38 : decode cX9_fault 38 = .ok (.invokestatic 59, 3) := by decide +kernel
theorem dX9_fault_41 : decode cX9_fault 41 = .ok (.ifCond .eq 19, 3) := by decide +kernel
theorem dX9_fault_44 : decode cX9_fault 44 = .ok (.iload_n 1, 1) := by decide +kernel
theorem dX9_fault_45 : decode cX9_fault 45 = .ok (.iload 4, 2) := by decide +kernel
theorem dX9_fault_47 : decode cX9_fault 47 = .ok (.bipush 97, 2) := by decide +kernel
theorem dX9_fault_49 : decode cX9_fault 49 = .ok (.isub, 1) := by decide +kernel
theorem dX9_fault_50 : decode cX9_fault 50 = .ok (.ishr, 1) := by decide +kernel
theorem dX9_fault_51 : decode cX9_fault 51 = .ok (.iconst 1, 1) := by decide +kernel
theorem dX9_fault_52 : decode cX9_fault 52 = .ok (.iand, 1) := by decide +kernel
theorem dX9_fault_53 : decode cX9_fault 53 = .ok (.ifCond .ne 7, 3) := by decide +kernel
theorem dX9_fault_56 : decode cX9_fault 56 = .ok (.iconst 1, 1) := by decide +kernel
theorem dX9_fault_57 : decode cX9_fault 57 = .ok (.goto 4, 3) := by decide +kernel
theorem dX9_fault_60 : decode cX9_fault 60 = .ok (.iconst 0, 1) := by decide +kernel
theorem dX9_fault_61 : decode cX9_fault 61 = .ok (.istore 5, 2) := by decide +kernel
theorem dX9_fault_63 : decode cX9_fault 63 = .ok (.iload 4, 2) := by decide +kernel
theorem dX9_fault_65 : decode cX9_fault 65 = .ok (.bipush 124, 2) := by decide +kernel
theorem dX9_fault_67 : decode cX9_fault 67 = .ok (.if_icmp .ne 23, 3) := by decide +kernel
theorem dX9_fault_70 : decode cX9_fault 70 = .ok (.iload_n 2, 1) := by decide +kernel
theorem dX9_fault_71 : decode cX9_fault 71 = .ok (.ifCond .eq 19, 3) := by decide +kernel
theorem dX9_fault_74 : decode cX9_fault 74 = .ok (.iload_n 1, 1) := by decide +kernel
theorem dX9_fault_75 : decode cX9_fault 75 = .ok (.iconst 1, 1) := by decide +kernel
theorem dX9_fault_76 : decode cX9_fault 76 = .ok (.aload_n 0, 1) := by decide +kernel
theorem dX9_fault_77 : decode cX9_fault 77 = .ok (.getfield 55, 3) := by decide +kernel
theorem dX9_fault_80 : decode cX9_fault 80 = .ok (.ishl, 1) := by decide +kernel
theorem dX9_fault_81 : decode cX9_fault 81 = .ok (.iconst 1, 1) := by decide +kernel
theorem dX9_fault_82 : decode cX9_fault 82 = .ok (.isub, 1) := by decide +kernel
theorem dX9_fault_83 : decode cX9_fault 83 = .ok (.if_icmp .eq 7, 3) := by decide +kernel
theorem dX9_fault_86 : decode cX9_fault 86 = .ok (.iconst 1, 1) := by decide +kernel
theorem dX9_fault_87 : decode cX9_fault 87 = .ok (.goto 4, 3) := by decide +kernel
theorem dX9_fault_90 : decode cX9_fault 90 = .ok (.iconst 0, 1) := by decide +kernel
theorem dX9_fault_91 : decode cX9_fault 91 = .ok (.istore 6, 2) := by decide +kernel
theorem dX9_fault_93 : decode cX9_fault 93 = .ok (.iload 5, 2) := by decide +kernel
theorem dX9_fault_95 : decode cX9_fault 95 = .ok (.ifCond .ne 10, 3) := by decide +kernel
theorem dX9_fault_98 : decode cX9_fault 98 = .ok (.iload 6, 2) := by decide +kernel
theorem dX9_fault_100 : decode cX9_fault 100 = .ok (.ifCond .ne 5, 3) := by decide +kernel
theorem dX9_fault_103 : decode cX9_fault 103 = .ok (.iload_n 3, 1) := by decide +kernel
theorem dX9_fault_104 : decode cX9_fault 104 = .ok (.ireturn, 1) := by decide +kernel
theorem dX9_fault_105 : decode cX9_fault 105 = .ok (.iload_n 1, 1) := by decide +kernel
theorem dX9_fault_106 : decode cX9_fault 106 = .ok (.iload 5, 2) := by decide +kernel
theorem dX9_fault_108 : decode cX9_fault 108 = .ok (.ifCond .eq 13, 3) := by decide +kernel
theorem dX9_fault_111 : decode cX9_fault 111 = .ok (.iconst 1, 1) := by decide +kernel
theorem dX9_fault_112 : decode cX9_fault 112 = .ok (.iload 4, 2) := by decide +kernel
theorem dX9_fault_114 : decode cX9_fault 114 = .ok (.bipush 97, 2) := by decide +kernel
theorem dX9_fault_116 : decode cX9_fault 116 = .ok (.isub, 1) := by decide +kernel
theorem dX9_fault_117 : decode cX9_fault 117 = .ok (.ishl, 1) := by decide +kernel
theorem dX9_fault_118 : decode cX9_fault 118 = .ok (.goto 4, 3) := by decide +kernel
theorem dX9_fault_121 : decode cX9_fault 121 = .ok (.iconst 0, 1) := by decide +kernel
theorem dX9_fault_122 : decode cX9_fault 122 = .ok (.ior, 1) := by decide +kernel
theorem dX9_fault_123 : decode cX9_fault 123 = .ok (.istore_n 1, 1) := by decide +kernel
theorem dX9_fault_124 : decode cX9_fault 124 = .ok (.iload 5, 2) := by decide +kernel
theorem dX9_fault_126 : decode cX9_fault 126 = .ok (.istore_n 2, 1) := by decide +kernel
theorem dX9_fault_127 : decode cX9_fault 127 = .ok (.iinc 3 1, 3) := by decide +kernel
theorem dX9_fault_130 : decode cX9_fault 130 = .ok (.goto (-124), 3) := by decide +kernel
theorem dX9_fault_133 : decode cX9_fault 133 = .ok (.iload_n 2, 1) := by decide +kernel
theorem dX9_fault_134 : decode cX9_fault 134 = .ok (.ifCond .eq 20, 3) := by decide +kernel
theorem dX9_fault_137 : decode cX9_fault 137 = .ok (.iload_n 1, 1) := by decide +kernel
theorem dX9_fault_138 : decode cX9_fault 138 = .ok (.iconst 1, 1) := by decide +kernel
theorem dX9_fault_139 : decode cX9_fault 139 = .ok (.aload_n 0, 1) := by decide +kernel
theorem dX9_fault_140 : decode cX9_fault 140 = .ok (.getfield 55, 3) := by decide +kernel
theorem dX9_fault_143 : decode cX9_fault 143 = .ok (.ishl, 1) := by decide +kernel
theorem dX9_fault_144 : decode cX9_fault 144 = .ok (.iconst 1, 1) := by decide +kernel
theorem dX9_fault_145 : decode cX9_fault 145 = .ok (.isub, 1) := by decide +kernel
theorem dX9_fault_146 : decode cX9_fault 146 = .ok (.if_icmp .ne 8, 3) := by decide +kernel
theorem dX9_fault_149 : decode cX9_fault 149 = .ok (.bipush (-6), 2) := by decide +kernel
theorem dX9_fault_151 : decode cX9_fault 151 = .ok (.goto 7, 3) := by decide +kernel
theorem dX9_fault_154 : decode cX9_fault 154 = .ok (.aload_n 0, 1) := by decide +kernel
theorem dX9_fault_155 : decode cX9_fault 155 = .ok (.getfield 95, 3) := by decide +kernel
theorem dX9_fault_158 : decode cX9_fault 158 = .ok (.ireturn, 1) := by decide +kernel
theorem dX9_part_0 : decode cX9_part 0 = .ok (.aload_n 0, 1) := by decide +kernel
theorem dX9_part_1 : decode cX9_part 1 = .ok (.invokevirtual 100, 3) := by decide +kernel
theorem dX9_part_4 : decode cX9_part 4 = .ok (.ifCond .lt 6, 3) := by decide +kernel
theorem dX9_part_7 : decode cX9_part 7 = .ok (.bipush (-5), 2) := by decide +kernel
theorem dX9_part_9 : decode cX9_part 9 = .ok (.ireturn, 1) := by decide +kernel
theorem dX9_part_10 : decode cX9_part 10 = .ok (.iconst 0, 1) := by decide +kernel
theorem dX9_part_11 : decode cX9_part 11 = .ok (.istore_n 1, 1) := by decide +kernel
theorem dX9_part_12 : decode cX9_part 12 = .ok (.iconst 0, 1) := by decide +kernel
theorem dX9_part_13 : decode cX9_part 13 = .ok (.istore_n 2, 1) := by decide +kernel
theorem dX9_part_14 : decode cX9_part 14 = .ok (.iload_n 2, 1) := by decide +kernel
theorem dX9_part_15 : decode cX9_part 15 = .ok (.aload_n 0, 1) := by decide +kernel
theorem dX9_part_16 : decode cX9_part 16 = .ok (.getfield 95, 3) := by decide +kernel
theorem dX9_part_19 : decode cX9_part 19 = .ok (.if_icmp .ge 41, 3) := by decide +kernel
theorem dX9_part_22 : decode cX9_part 22 = .ok (.aload_n 0, 1) := by decide +kernel
theorem dX9_part_23 : decode cX9_part 23 = .ok (.getfield 19, 3) := by decide +kernel
theorem dX9_part_26 : decode cX9_part 26 = .ok (.iload_n 2, 1) := by decide +kernel
theorem dX9_part_27 : decode cX9_part 27 = .ok (.iaload, 1) := by decide +kernel
theorem dX9_part_28 : decode cX9_part 28 = .ok (.bipush 124, 2) := by decide +kernel
theorem dX9_part_30 : decode cX9_part 30 = .ok (.if_icmp .ne 9, 3) := by decide +kernel
theorem dX9_part_33 : decode cX9_part 33 = .ok (.iinc 1 1, 3) := by decide +kernel
theorem dX9_part_36 : decode cX9_part 36 = .ok (.goto 18, 3) := by decide +kernel
theorem dX9_part_39 : decode cX9_part 39 = .ok (.aload_n 0, 1) := by decide +kernel
theorem dX9_part_40 : decode cX9_part 40 = .ok (.getfield 13, 3) := by decide +kernel
theorem dX9_part_43 : decode cX9_part 43 = .ok (.aload_n 0, 1) := by decide +kernel
theorem dX9_part_44 : decode cX9_part 44 = .ok (.getfield 19, 3) := by decide +kernel
theorem dX9_part_47 : decode cX9_part 47 = .ok (.iload_n 2, 1) := by decide +kernel
theorem dX9_part_48 : decode cX9_part 48 = .ok (.iaload, 1) := by decide +kernel
theorem dX9_part_49 : decode cX9_part 49 = .ok (.bipush 97, 2) := by decide +kernel
theorem dX9_part_51 : decode cX9_part 51 = .ok (.isub, 1) := by decide +kernel
theorem dX9_part_52 : decode cX9_part 52 = .ok (.iload_n 1, 1) := by decide +kernel
theorem dX9_part_53 : decode cX9_part 53 = .ok (.iastore, 1) := by decide +kernel
theorem dX9_part_54 : decode cX9_part 54 = .ok (.iinc 2 1, 3) := by decide +kernel
theorem dX9_part_57 : decode cX9_part 57 = .ok (.goto (-43), 3) := by decide +kernel
theorem dX9_part_60 : decode cX9_part 60 = .ok (.aload_n 0, 1) := by decide +kernel
theorem dX9_part_61 : decode cX9_part 61 = .ok (.iconst 0, 1) := by decide +kernel
theorem dX9_part_62 : decode cX9_part 62 = .ok (.putfield 95, 3) := by decide +kernel
theorem dX9_part_65 : decode cX9_part 65 = .ok (.aload_n 0, 1) := by decide +kernel
theorem dX9_part_66 : decode cX9_part 66 = .ok (.aload_n 0, 1) := by decide +kernel
theorem dX9_part_67 : decode cX9_part 67 = .ok (.getfield 13, 3) := by decide +kernel
theorem dX9_part_70 : decode cX9_part 70 = .ok (.invokevirtual 104, 3) := by decide +kernel
theorem dX9_part_73 : decode cX9_part 73 = .ok (.aload_n 0, 1) := by decide +kernel
theorem dX9_part_74 : decode cX9_part 74 = .ok (.aload_n 0, 1) := by decide +kernel
theorem dX9_part_75 : decode cX9_part 75 = .ok (.getfield 13, 3) := by decide +kernel
theorem dX9_part_78 : decode cX9_part 78 = .ok (.invokevirtual 73, 3) := by decide +kernel
theorem dX9_part_81 : decode cX9_part 81 = .ok (.ireturn, 1) := by decide +kernel
theorem dX9_number_0 : decode cX9_number 0 = .ok (.iconst 0, 1) := by decide +kernel
theorem dX9_number_1 : decode cX9_number 1 = .ok (.istore_n 2, 1) := by decide +kernel
theorem dX9_number_2 : decode cX9_number 2 = .ok (.iconst 0, 1) := by decide +kernel
theorem dX9_number_3 : decode cX9_number 3 = .ok (.istore_n 3, 1) := by decide +kernel
theorem dX9_number_4 : decode cX9_number 4 = .ok (.iload_n 3, 1) := by decide +kernel
theorem dX9_number_5 : decode cX9_number 5 = .ok (.bipush 8, 2) := by decide +kernel
theorem dX9_number_7 : decode cX9_number 7 = .ok (.if_icmp .ge 17, 3) := by decide +kernel
theorem dX9_number_10 : decode cX9_number 10 = .ok (.aload_n 0, 1) := by decide +kernel
theorem dX9_number_11 : decode cX9_number 11 = .ok (.getfield 22, 3) := by decide +kernel
theorem dX9_number_14 : decode cX9_number 14 = .ok (.iload_n 3, 1) := by decide +kernel
theorem dX9_number_15 : decode cX9_number 15 = .ok (.bipush (-6), 2) := by decide +kernel
theorem dX9_number_17 : decode cX9_number 17 = .ok (.iastore, 1) := by decide +kernel
theorem dX9_number_18 : decode cX9_number 18 = .ok (.iinc 3 1, 3) := by decide +kernel
theorem dX9_number_21 : decode cX9_number 21 = .ok (.goto (-17), 3) := by decide +kernel
theorem dX9_number_24 : decode cX9_number 24 = .ok (.iconst 0, 1) := by decide +kernel
theorem dX9_number_25 : decode cX9_number 25 = .ok (.istore_n 3, 1) := by decide +kernel
theorem dX9_number_26 : decode cX9_number 26 = .ok (.iload_n 3, 1) := by decide +kernel
theorem dX9_number_27 : decode cX9_number 27 = .ok (.aload_n 0, 1) := by decide +kernel
theorem dX9_number_28 : decode cX9_number 28 = .ok (.getfield 55, 3) := by decide +kernel
theorem dX9_number_31 : decode cX9_number 31 = .ok (.if_icmp .ge 45, 3) := by decide +kernel
theorem dX9_number_34 : decode cX9_number 34 = .ok (.aload_n 0, 1) := by decide +kernel
theorem dX9_number_35 : decode cX9_number 35 = .ok (.getfield 22, 3) := by decide +kernel
theorem dX9_number_38 : decode cX9_number 38 = .ok (.aload_n 1, 1) := by decide +kernel
theorem dX9_number_39 : decode cX9_number 39 = .ok (.iload_n 3, 1) := by decide +kernel
theorem dX9_number_40 : decode cX9_number 40 = .ok (.iaload, 1) := by decide +kernel
theorem dX9_number_41 : decode cX9_number 41 = .ok (.iaload, 1) := by decide +kernel
theorem dX9_number_42 : decode cX9_number 42 = .ok (.bipush (-6), 2) := by decide +kernel
theorem dX9_number_44 : decode cX9_number 44 = .ok (.if_icmp .ne 15, 3) := by decide +kernel
theorem dX9_number_47 : decode cX9_number 47 = .ok (.aload_n 0, 1) := by decide +kernel
theorem dX9_number_48 : decode cX9_number 48 = .ok (.getfield 22, 3) := by decide +kernel
theorem dX9_number_51 : decode cX9_number 51 = .ok (.aload_n 1, 1) := by decide +kernel
theorem dX9_number_52 : decode cX9_number 52 = .ok (.iload_n 3, 1) := by decide +kernel
theorem dX9_number_53 : decode cX9_number 53 = .ok (.iaload, 1) := by decide +kernel
theorem dX9_number_54 : decode cX9_number 54 = .ok (.iload_n 2, 1) := by decide +kernel
theorem dX9_number_55 : decode cX9_number 55 = .ok (.iastore, 1) := by decide +kernel
theorem dX9_number_56 : decode cX9_number 56 = .ok (.iinc 2 1, 3) := by decide +kernel
theorem dX9_number_59 : decode cX9_number 59 = .ok (.aload_n 1, 1) := by decide +kernel
theorem dX9_number_60 : decode cX9_number 60 = .ok (.iload_n 3, 1) := by decide +kernel
theorem dX9_number_61 : decode cX9_number 61 = .ok (.aload_n 0, 1) := by decide +kernel
theorem dX9_number_62 : decode cX9_number 62 = .ok (.getfield 22, 3) := by decide +kernel
theorem dX9_number_65 : decode cX9_number 65 = .ok (.aload_n 1, 1) := by decide +kernel
theorem dX9_number_66 : decode cX9_number 66 = .ok (.iload_n 3, 1) := by decide +kernel
theorem dX9_number_67 : decode cX9_number 67 = .ok (.iaload, 1) := by decide +kernel
theorem dX9_number_68 : decode cX9_number 68 = .ok (.iaload, 1) := by decide +kernel
theorem dX9_number_69 : decode cX9_number 69 = .ok (.iastore, 1) := by decide +kernel
theorem dX9_number_70 : decode cX9_number 70 = .ok (.iinc 3 1, 3) := by decide +kernel
theorem dX9_number_73 : decode cX9_number 73 = .ok (.goto (-47), 3) := by decide +kernel
theorem dX9_number_76 : decode cX9_number 76 = .ok (.return_, 1) := by decide +kernel
theorem dX9_union_0 : decode cX9_union 0 = .ok (.aload_n 0, 1) := by decide +kernel
theorem dX9_union_1 : decode cX9_union 1 = .ok (.iload_n 1, 1) := by decide +kernel
theorem dX9_union_2 : decode cX9_union 2 = .ok (.invokevirtual 77, 3) := by decide +kernel
theorem dX9_union_5 : decode cX9_union 5 = .ok (.ifCond .eq 12, 3) := by decide +kernel
theorem dX9_union_8 : decode cX9_union 8 = .ok (.aload_n 0, 1) := by decide +kernel
theorem dX9_union_9 : decode cX9_union 9 = .ok (.getfield 13, 3) := by decide +kernel
theorem dX9_union_12 : decode cX9_union 12 = .ok (.iload_n 1, 1) := by decide +kernel
theorem dX9_union_13 : decode cX9_union 13 = .ok (.iaload, 1) := by decide +kernel
theorem dX9_union_14 : decode cX9_union 14 = .ok (.goto 4, 3) := by decide +kernel
theorem dX9_union_17 : decode cX9_union 17 = .ok (.iconst (-1), 1) := by decide +kernel
theorem dX9_union_18 : decode cX9_union 18 = .ok (.ireturn, 1) := by decide +kernel
theorem dX9_wallOf_0 : decode cX9_wallOf 0 = .ok (.bipush 100, 2) := by decide +kernel
theorem dX9_wallOf_2 : decode cX9_wallOf 2 = .ok (.istore_n 3, 1) := by decide +kernel
theorem dX9_wallOf_3 : decode cX9_wallOf 3 = .ok (.iconst 0, 1) := by decide +kernel
theorem dX9_wallOf_4 : decode cX9_wallOf 4 = .ok (.istore 4, 2) := by decide +kernel
theorem dX9_wallOf_6 : decode cX9_wallOf 6 = .ok (.iconst 0, 1) := by decide +kernel
theorem dX9_wallOf_7 : decode cX9_wallOf 7 = .ok (.istore 5, 2) := by decide +kernel
theorem dX9_wallOf_9 : decode cX9_wallOf 9 = .ok (.iconst 0, 1) := by decide +kernel
theorem dX9_wallOf_10 : decode cX9_wallOf 10 = .ok (.istore 6, 2) := by decide +kernel
theorem dX9_wallOf_12 : decode cX9_wallOf 12 = .ok (.iconst 0, 1) := by decide +kernel
theorem dX9_wallOf_13 : decode cX9_wallOf 13 = .ok (.istore 7, 2) := by decide +kernel
theorem dX9_wallOf_15 : decode cX9_wallOf 15 = .ok (.iload 7, 2) := by decide +kernel
theorem dX9_wallOf_17 : decode cX9_wallOf 17 = .ok (.aload_n 0, 1) := by decide +kernel
theorem dX9_wallOf_18 : decode cX9_wallOf 18 = .ok (.getfield 55, 3) := by decide +kernel
theorem dX9_wallOf_21 : decode cX9_wallOf 21 = .ok (.if_icmp .ge 71, 3) := by decide +kernel
theorem dX9_wallOf_24 : decode cX9_wallOf 24 = .ok (.aload_n 1, 1) := by decide +kernel
theorem dX9_wallOf_25 : decode cX9_wallOf 25 = .ok (.iload 7, 2) := by decide +kernel
theorem dX9_wallOf_27 : decode cX9_wallOf 27 = .ok (.iaload, 1) := by decide +kernel
theorem dX9_wallOf_28 : decode cX9_wallOf 28 = .ok (.aload_n 1, 1) := by decide +kernel
theorem dX9_wallOf_29 : decode cX9_wallOf 29 = .ok (.iload_n 2, 1) := by decide +kernel
theorem dX9_wallOf_30 : decode cX9_wallOf 30 = .ok (.iaload, 1) := by decide +kernel
theorem dX9_wallOf_31 : decode cX9_wallOf 31 = .ok (.if_icmp .ne 55, 3) := by decide +kernel
theorem dX9_wallOf_34 : decode cX9_wallOf 34 = .ok (.aload_n 0, 1) := by decide +kernel
theorem dX9_wallOf_35 : decode cX9_wallOf 35 = .ok (.getfield 7, 3) := by decide +kernel
theorem dX9_wallOf_38 : decode cX9_wallOf 38 = .ok (.iconst 4, 1) := by decide +kernel
theorem dX9_wallOf_39 : decode cX9_wallOf 39 = .ok (.iload 7, 2) := by decide +kernel
theorem dX9_wallOf_41 : decode cX9_wallOf 41 = .ok (.imul, 1) := by decide +kernel
theorem dX9_wallOf_42 : decode cX9_wallOf 42 = .ok (.iconst 3, 1) := by decide +kernel
theorem dX9_wallOf_43 : decode cX9_wallOf 43 = .ok (.iadd, 1) := by decide +kernel
theorem dX9_wallOf_44 : decode cX9_wallOf 44 = .ok (.iaload, 1) := by decide +kernel
theorem dX9_wallOf_45 : decode cX9_wallOf 45 = .ok (.istore 8, 2) := by decide +kernel
theorem dX9_wallOf_47 : decode cX9_wallOf 47 = .ok (.iload 8, 2) := by decide +kernel
theorem dX9_wallOf_49 : decode cX9_wallOf 49 = .ok (.iload_n 3, 1) := by decide +kernel
theorem dX9_wallOf_50 : decode cX9_wallOf 50 = .ok (.if_icmp .ge 8, 3) := by decide +kernel
theorem dX9_wallOf_53 : decode cX9_wallOf 53 = .ok (.iload 8, 2) := by decide +kernel
theorem dX9_wallOf_55 : decode cX9_wallOf 55 = .ok (.goto 4, 3) := by decide +kernel
theorem dX9_wallOf_58 : decode cX9_wallOf 58 = .ok (.iload_n 3, 1) := by decide +kernel
theorem dX9_wallOf_59 : decode cX9_wallOf 59 = .ok (.istore_n 3, 1) := by decide +kernel
theorem dX9_wallOf_60 : decode cX9_wallOf 60 = .ok (.iload 8, 2) := by decide +kernel
theorem dX9_wallOf_62 : decode cX9_wallOf 62 = .ok (.iload 4, 2) := by decide +kernel
theorem dX9_wallOf_64 : decode cX9_wallOf 64 = .ok (.if_icmp .le 8, 3) := by decide +kernel
theorem dX9_wallOf_67 : decode cX9_wallOf 67 = .ok (.iload 8, 2) := by decide +kernel
theorem dX9_wallOf_69 : decode cX9_wallOf 69 = .ok (.goto 5, 3) := by decide +kernel
theorem dX9_wallOf_72 : decode cX9_wallOf 72 = .ok (.iload 4, 2) := by decide +kernel
theorem dX9_wallOf_74 : decode cX9_wallOf 74 = .ok (.istore 4, 2) := by decide +kernel
theorem dX9_wallOf_76 : decode cX9_wallOf 76 = .ok (.iload 5, 2) := by decide +kernel
theorem dX9_wallOf_78 : decode cX9_wallOf 78 = .ok (.iload 8, 2) := by decide +kernel
theorem dX9_wallOf_80 : decode cX9_wallOf 80 = .ok (.iadd, 1) := by decide +kernel
theorem dX9_wallOf_81 : decode cX9_wallOf 81 = .ok (.istore 5, 2) := by decide +kernel
theorem dX9_wallOf_83 : decode cX9_wallOf 83 = .ok (.iinc 6 1, 3) := by decide +kernel
theorem dX9_wallOf_86 : decode cX9_wallOf 86 = .ok (.iinc 7 1, 3) := by decide +kernel
theorem dX9_wallOf_89 : decode cX9_wallOf 89 = .ok (.goto (-74), 3) := by decide +kernel
theorem dX9_wallOf_92 : decode cX9_wallOf 92 = .ok (.aload_n 0, 1) := by decide +kernel
theorem dX9_wallOf_93 : decode cX9_wallOf 93 = .ok (.getfield 85, 3) := by decide +kernel
theorem dX9_wallOf_96 : decode cX9_wallOf 96 = .ok (.ifCond .ne 7, 3) := by decide +kernel
theorem dX9_wallOf_99 : decode cX9_wallOf 99 = .ok (.iload_n 3, 1) := by decide +kernel
theorem dX9_wallOf_100 : decode cX9_wallOf 100 = .ok (.goto 21, 3) := by decide +kernel
theorem dX9_wallOf_103 : decode cX9_wallOf 103 = .ok (.aload_n 0, 1) := by decide +kernel
theorem dX9_wallOf_104 : decode cX9_wallOf 104 = .ok (.getfield 85, 3) := by decide +kernel
theorem dX9_wallOf_107 : decode cX9_wallOf 107 = .ok (.iconst 1, 1) := by decide +kernel
theorem dX9_wallOf_108 : decode cX9_wallOf 108 = .ok (.if_icmp .ne 8, 3) := by decide +kernel
theorem dX9_wallOf_111 : decode cX9_wallOf 111 = .ok (.iload 4, 2) := by decide +kernel
theorem dX9_wallOf_113 : decode cX9_wallOf 113 = .ok (.goto 8, 3) := by decide +kernel
theorem dX9_wallOf_116 : decode cX9_wallOf 116 = .ok (.iload 5, 2) := by decide +kernel
theorem dX9_wallOf_118 : decode cX9_wallOf 118 = .ok (.iload 6, 2) := by decide +kernel
theorem dX9_wallOf_120 : decode cX9_wallOf 120 = .ok (.idiv, 1) := by decide +kernel
theorem dX9_wallOf_121 : decode cX9_wallOf 121 = .ok (.ireturn, 1) := by decide +kernel
theorem dX9_findGoods_0 : decode cX9_findGoods 0 = .ok (.iconst 0, 1) := by decide +kernel
theorem dX9_findGoods_1 : decode cX9_findGoods 1 = .ok (.istore_n 2, 1) := by decide +kernel
theorem dX9_findGoods_2 : decode cX9_findGoods 2 = .ok (.iload_n 2, 1) := by decide +kernel
theorem dX9_findGoods_3 : decode cX9_findGoods 3 = .ok (.aload_n 0, 1) := by decide +kernel
theorem dX9_findGoods_4 : decode cX9_findGoods 4 = .ok (.getfield 55, 3) := by decide +kernel
theorem dX9_findGoods_7 : decode cX9_findGoods 7 = .ok (.if_icmp .ge 187, 3) := by decide +kernel
theorem dX9_findGoods_10 : decode cX9_findGoods 10 = .ok (.aload_n 0, 1) := by decide +kernel
theorem dX9_findGoods_11 : decode cX9_findGoods 11 = .ok (.aload_n 1, 1) := by decide +kernel
theorem dX9_findGoods_12 : decode cX9_findGoods 12 = .ok (.iload_n 2, 1) := by decide +kernel
theorem dX9_findGoods_13 : decode cX9_findGoods 13 = .ok (.invokevirtual 108, 3) := by decide +kernel
theorem dX9_findGoods_16 : decode cX9_findGoods 16 = .ok (.istore_n 3, 1) := by decide +kernel
theorem dX9_findGoods_17 : decode cX9_findGoods 17 = .ok (.aload_n 0, 1) := by decide +kernel
theorem dX9_findGoods_18 : decode cX9_findGoods 18 = .ok (.getfield 34, 3) := by decide +kernel
theorem dX9_findGoods_21 : decode cX9_findGoods 21 = .ok (.iload_n 2, 1) := by decide +kernel
theorem dX9_findGoods_22 : decode cX9_findGoods 22 = .ok (.bipush (-6), 2) := by decide +kernel
theorem dX9_findGoods_24 : decode cX9_findGoods 24 = .ok (.iastore, 1) := by decide +kernel
theorem dX9_findGoods_25 : decode cX9_findGoods 25 = .ok (.iconst 0, 1) := by decide +kernel
theorem dX9_findGoods_26 : decode cX9_findGoods 26 = .ok (.istore 4, 2) := by decide +kernel
theorem dX9_findGoods_28 : decode cX9_findGoods 28 = .ok (.iload 4, 2) := by decide +kernel
theorem dX9_findGoods_30 : decode cX9_findGoods 30 = .ok (.aload_n 0, 1) := by decide +kernel
theorem dX9_findGoods_31 : decode cX9_findGoods 31 = .ok (.getfield 55, 3) := by decide +kernel
theorem dX9_findGoods_34 : decode cX9_findGoods 34 = .ok (.if_icmp .ge 88, 3) := by decide +kernel
theorem dX9_findGoods_37 : decode cX9_findGoods 37 = .ok (.aload_n 0, 1) := by decide +kernel
theorem dX9_findGoods_38 : decode cX9_findGoods 38 = .ok (.getfield 7, 3) := by decide +kernel
theorem dX9_findGoods_41 : decode cX9_findGoods 41 = .ok (.iconst 4, 1) := by decide +kernel
theorem dX9_findGoods_42 : decode cX9_findGoods 42 = .ok (.iload 4, 2) := by decide +kernel
theorem dX9_findGoods_44 : decode cX9_findGoods 44 = .ok (.imul, 1) := by decide +kernel
theorem dX9_findGoods_45 : decode cX9_findGoods 45 = .ok (.iconst 1, 1) := by decide +kernel
theorem dX9_findGoods_46 : decode cX9_findGoods 46 = .ok (.iadd, 1) := by decide +kernel
theorem dX9_findGoods_47 : decode cX9_findGoods 47 = .ok (.iaload, 1) := by decide +kernel
theorem dX9_findGoods_48 : decode cX9_findGoods 48 = .ok (.aload_n 0, 1) := by decide +kernel
theorem dX9_findGoods_49 : decode cX9_findGoods 49 = .ok (.getfield 7, 3) := by decide +kernel
theorem dX9_findGoods_52 : decode cX9_findGoods 52 = .ok (.iconst 4, 1) := by decide +kernel
theorem dX9_findGoods_53 : decode cX9_findGoods 53 = .ok (.iload 4, 2) := by decide +kernel
theorem dX9_findGoods_55 : decode cX9_findGoods 55 = .ok (.imul, 1) := by decide +kernel
theorem dX9_findGoods_56 : decode cX9_findGoods 56 = .ok (.iconst 2, 1) := by decide +kernel
theorem dX9_findGoods_57 : decode cX9_findGoods 57 = .ok (.iadd, 1) := by decide +kernel
theorem dX9_findGoods_58 : decode cX9_findGoods 58 = .ok (.iaload, 1) := by decide +kernel
theorem dX9_findGoods_59 : decode cX9_findGoods 59 = .ok (.iadd, 1) := by decide +kernel
theorem dX9_findGoods_60 : decode cX9_findGoods 60 = .ok (.aload_n 1, 1) := by decide +kernel
theorem dX9_findGoods_61 : decode cX9_findGoods 61 = .ok (.iload 4, 2) := by decide +kernel
theorem dX9_findGoods_63 : decode cX9_findGoods 63 = .ok (.iaload, 1) := by decide +kernel
theorem dX9_findGoods_64 : decode cX9_findGoods 64 = .ok (.aload_n 1, 1) := by decide +kernel
theorem dX9_findGoods_65 : decode cX9_findGoods 65 = .ok (.iload_n 2, 1) := by decide +kernel
theorem dX9_findGoods_66 : decode cX9_findGoods 66 = .ok (.iaload, 1) := by decide +kernel
theorem dX9_findGoods_67 : decode cX9_findGoods 67 = .ok (.if_icmp .ne 7, 3) := by decide +kernel
theorem dX9_findGoods_70 : decode cX9_findGoods 70 = .ok (.iconst 0, 1) := by decide +kernel
theorem dX9_findGoods_71 : decode cX9_findGoods 71 = .ok (.goto 4, 3) := by decide +kernel
theorem dX9_findGoods_74 : decode cX9_findGoods 74 = .ok (.iload_n 3, 1) := by decide +kernel
theorem dX9_findGoods_75 : decode cX9_findGoods 75 = .ok (.iadd, 1) := by decide +kernel
theorem dX9_findGoods_76 : decode cX9_findGoods 76 = .ok (.istore 5, 2) := by decide +kernel
theorem dX9_findGoods_78 : decode cX9_findGoods 78 = .ok (.aload_n 0, 1) := by decide +kernel
theorem dX9_findGoods_79 : decode cX9_findGoods 79 = .ok (.getfield 34, 3) := by decide +kernel
theorem dX9_findGoods_82 : decode cX9_findGoods 82 = .ok (.iload_n 2, 1) := by decide +kernel
theorem dX9_findGoods_83 : decode cX9_findGoods 83 = .ok (.iaload, 1) := by decide +kernel
theorem dX9_findGoods_84 : decode cX9_findGoods 84 = .ok (.bipush (-6), 2) := by decide +kernel
theorem dX9_findGoods_86 : decode cX9_findGoods 86 = .ok (.if_icmp .eq 14, 3) := by decide +kernel
theorem dX9_findGoods_89 : decode cX9_findGoods 89 = .ok (.iload 5, 2) := by decide +kernel
theorem dX9_findGoods_91 : decode cX9_findGoods 91 = .ok (.aload_n 0, 1) := by decide +kernel
theorem dX9_findGoods_92 : decode cX9_findGoods 92 = .ok (.getfield 28, 3) := by decide +kernel
theorem dX9_findGoods_95 : decode cX9_findGoods 95 = .ok (.iload_n 2, 1) := by decide +kernel
theorem dX9_findGoods_96 : decode cX9_findGoods 96 = .ok (.iaload, 1) := by decide +kernel
theorem dX9_findGoods_97 : decode cX9_findGoods 97 = .ok (.if_icmp .ge 19, 3) := by decide +kernel
theorem dX9_findGoods_100 : decode cX9_findGoods 100 = .ok (.aload_n 0, 1) := by decide +kernel
theorem dX9_findGoods_101 : decode cX9_findGoods 101 = .ok (.getfield 28, 3) := by decide +kernel
theorem dX9_findGoods_104 : decode cX9_findGoods 104 = .ok (.iload_n 2, 1) := by decide +kernel
theorem dX9_findGoods_105 : decode cX9_findGoods 105 = .ok (.iload 5, 2) := by decide +kernel
theorem dX9_findGoods_107 : decode cX9_findGoods 107 = .ok (.iastore, 1) := by decide +kernel
theorem dX9_findGoods_108 : decode cX9_findGoods 108 = .ok (.aload_n 0, 1) := by decide +kernel
theorem dX9_findGoods_109 : decode cX9_findGoods 109 = .ok (.getfield 34, 3) := by decide +kernel
theorem dX9_findGoods_112 : decode cX9_findGoods 112 = .ok (.iload_n 2, 1) := by decide +kernel
theorem dX9_findGoods_113 : decode cX9_findGoods 113 = .ok (.iload 4, 2) := by decide +kernel
theorem dX9_findGoods_115 : decode cX9_findGoods 115 = .ok (.iastore, 1) := by decide +kernel
theorem dX9_findGoods_116 : decode cX9_findGoods 116 = .ok (.iinc 4 1, 3) := by decide +kernel
theorem dX9_findGoods_119 : decode cX9_findGoods 119 = .ok (.goto (-91), 3) := by decide +kernel
theorem dX9_findGoods_122 : decode cX9_findGoods 122 = .ok (.aload_n 0, 1) := by decide +kernel
theorem dX9_findGoods_123 : decode cX9_findGoods 123 = .ok (.getfield 7, 3) := by decide +kernel
theorem dX9_findGoods_126 : decode cX9_findGoods 126 = .ok (.iconst 4, 1) := by decide +kernel
theorem dX9_findGoods_127 : decode cX9_findGoods 127 = .ok (.iload_n 2, 1) := by decide +kernel
theorem dX9_findGoods_128 : decode cX9_findGoods 128 = .ok (.imul, 1) := by decide +kernel
theorem dX9_findGoods_129 : decode cX9_findGoods 129 = .ok (.iaload, 1) := by decide +kernel
theorem dX9_findGoods_130 : decode cX9_findGoods 130 = .ok (.aload_n 0, 1) := by decide +kernel
theorem dX9_findGoods_131 : decode cX9_findGoods 131 = .ok (.getfield 28, 3) := by decide +kernel
theorem dX9_findGoods_134 : decode cX9_findGoods 134 = .ok (.iload_n 2, 1) := by decide +kernel
theorem dX9_findGoods_135 : decode cX9_findGoods 135 = .ok (.iaload, 1) := by decide +kernel
theorem dX9_findGoods_136 : decode cX9_findGoods 136 = .ok (.isub, 1) := by decide +kernel
theorem dX9_findGoods_137 : decode cX9_findGoods 137 = .ok (.istore 4, 2) := by decide +kernel
theorem dX9_findGoods_139 : decode cX9_findGoods 139 = .ok (.aload_n 0, 1) := by decide +kernel
theorem dX9_findGoods_140 : decode cX9_findGoods 140 = .ok (.getfield 31, 3) := by decide +kernel
theorem dX9_findGoods_143 : decode cX9_findGoods 143 = .ok (.iload_n 2, 1) := by decide +kernel
theorem dX9_findGoods_144 : decode cX9_findGoods 144 = .ok (.iload 4, 2) := by decide +kernel
theorem dX9_findGoods_146 : decode cX9_findGoods 146 = .ok (.ifCond .le 8, 3) := by decide +kernel
theorem dX9_findGoods_149 : decode cX9_findGoods 149 = .ok (.iload 4, 2) := by decide +kernel
theorem dX9_findGoods_151 : decode cX9_findGoods 151 = .ok (.goto 4, 3) := by decide +kernel
theorem dX9_findGoods_154 : decode cX9_findGoods 154 = .ok (.iconst 0, 1) := by decide +kernel
theorem dX9_findGoods_155 : decode cX9_findGoods 155 = .ok (.iastore, 1) := by decide +kernel
theorem dX9_findGoods_156 : decode cX9_findGoods 156 = .ok (.aload_n 0, 1) := by decide +kernel
theorem dX9_findGoods_157 : decode cX9_findGoods 157 = .ok (.getfield 37, 3) := by decide +kernel
theorem dX9_findGoods_160 : decode cX9_findGoods 160 = .ok (.iload_n 2, 1) := by decide +kernel
theorem dX9_findGoods_161 : decode cX9_findGoods 161 = .ok (.aload_n 1, 1) := by decide +kernel
theorem dX9_findGoods_162 : decode cX9_findGoods 162 = .ok (.aload_n 0, 1) := by decide +kernel
theorem dX9_findGoods_163 : decode cX9_findGoods 163 = .ok (.getfield 34, 3) := by decide +kernel
theorem dX9_findGoods_166 : decode cX9_findGoods 166 = .ok (.iload_n 2, 1) := by decide +kernel
theorem dX9_findGoods_167 : decode cX9_findGoods 167 = .ok (.iaload, 1) := by decide +kernel
theorem dX9_findGoods_168 : decode cX9_findGoods 168 = .ok (.iaload, 1) := by decide +kernel
theorem dX9_findGoods_169 : decode cX9_findGoods 169 = .ok (.aload_n 1, 1) := by decide +kernel
theorem dX9_findGoods_170 : decode cX9_findGoods 170 = .ok (.iload_n 2, 1) := by decide +kernel
theorem dX9_findGoods_171 : decode cX9_findGoods 171 = .ok (.iaload, 1) := by decide +kernel
theorem dX9_findGoods_172 : decode cX9_findGoods 172 = .ok (.if_icmp .ne 7, 3) := by decide +kernel
theorem dX9_findGoods_175 : decode cX9_findGoods 175 = .ok (.iconst 0, 1) := by decide +kernel
theorem dX9_findGoods_176 : decode cX9_findGoods 176 = .ok (.goto 11, 3) := by decide +kernel
theorem dX9_findGoods_179 : decode cX9_findGoods 179 = .ok (.iload_n 3, 1) := by decide +kernel
theorem dX9_findGoods_180 : decode cX9_findGoods 180 = .ok (.aload_n 0, 1) := by decide +kernel
theorem dX9_findGoods_181 : decode cX9_findGoods 181 = .ok (.getfield 31, 3) := by decide +kernel
theorem dX9_findGoods_184 : decode cX9_findGoods 184 = .ok (.iload_n 2, 1) := by decide +kernel
theorem dX9_findGoods_185 : decode cX9_findGoods 185 = .ok (.iaload, 1) := by decide +kernel
theorem dX9_findGoods_186 : decode cX9_findGoods 186 = .ok (.imul, 1) := by decide +kernel
theorem dX9_findGoods_187 : decode cX9_findGoods 187 = .ok (.iastore, 1) := by decide +kernel
theorem dX9_findGoods_188 : decode cX9_findGoods 188 = .ok (.iinc 2 1, 3) := by decide +kernel
theorem dX9_findGoods_191 : decode cX9_findGoods 191 = .ok (.goto (-189), 3) := by decide +kernel
theorem dX9_findGoods_194 : decode cX9_findGoods 194 = .ok (.iconst 0, 1) := by decide +kernel
theorem dX9_findGoods_195 : decode cX9_findGoods 195 = .ok (.istore_n 2, 1) := by decide +kernel
theorem dX9_findGoods_196 : decode cX9_findGoods 196 = .ok (.iload_n 2, 1) := by decide +kernel
theorem dX9_findGoods_197 : decode cX9_findGoods 197 = .ok (.aload_n 0, 1) := by decide +kernel
theorem dX9_findGoods_198 : decode cX9_findGoods 198 = .ok (.getfield 55, 3) := by decide +kernel
theorem dX9_findGoods_201 : decode cX9_findGoods 201 = .ok (.if_icmp .ge 49, 3) := by decide +kernel
theorem dX9_findGoods_204 : decode cX9_findGoods 204 = .ok (.aload_n 0, 1) := by decide +kernel
theorem dX9_findGoods_205 : decode cX9_findGoods 205 = .ok (.getfield 40, 3) := by decide +kernel
theorem dX9_findGoods_208 : decode cX9_findGoods 208 = .ok (.iload_n 2, 1) := by decide +kernel
theorem dX9_findGoods_209 : decode cX9_findGoods 209 = .ok (.aload_n 0, 1) := by decide +kernel
theorem dX9_findGoods_210 : decode cX9_findGoods 210 = .ok (.aload_n 1, 1) := by decide +kernel
theorem dX9_findGoods_211 : decode cX9_findGoods 211 = .ok (.iload_n 2, 1) := by decide +kernel
theorem dX9_findGoods_212 : decode cX9_findGoods 212 = .ok (.invokevirtual 112, 3) := by decide +kernel
theorem dX9_findGoods_215 : decode cX9_findGoods 215 = .ok (.iastore, 1) := by decide +kernel
theorem dX9_findGoods_216 : decode cX9_findGoods 216 = .ok (.aload_n 0, 1) := by decide +kernel
theorem dX9_findGoods_217 : decode cX9_findGoods 217 = .ok (.getfield 25, 3) := by decide +kernel
theorem dX9_findGoods_220 : decode cX9_findGoods 220 = .ok (.iload_n 2, 1) := by decide +kernel
theorem dX9_findGoods_221 : decode cX9_findGoods 221 = .ok (.aload_n 0, 1) := by decide +kernel
theorem dX9_findGoods_222 : decode cX9_findGoods 222 = .ok (.getfield 31, 3) := by decide +kernel
theorem dX9_findGoods_225 : decode cX9_findGoods 225 = .ok (.iload_n 2, 1) := by decide +kernel
theorem dX9_findGoods_226 : decode cX9_findGoods 226 = .ok (.iaload, 1) := by decide +kernel
theorem dX9_findGoods_227 : decode cX9_findGoods 227 = .ok (.aload_n 0, 1) := by decide +kernel
theorem dX9_findGoods_228 : decode cX9_findGoods 228 = .ok (.getfield 31, 3) := by decide +kernel
theorem dX9_findGoods_231 : decode cX9_findGoods 231 = .ok (.iload_n 2, 1) := by decide +kernel
theorem dX9_findGoods_232 : decode cX9_findGoods 232 = .ok (.iaload, 1) := by decide +kernel
theorem dX9_findGoods_233 : decode cX9_findGoods 233 = .ok (.imul, 1) := by decide +kernel
theorem dX9_findGoods_234 : decode cX9_findGoods 234 = .ok (.iconst 2, 1) := by decide +kernel
theorem dX9_findGoods_235 : decode cX9_findGoods 235 = .ok (.aload_n 0, 1) := by decide +kernel
theorem dX9_findGoods_236 : decode cX9_findGoods 236 = .ok (.getfield 40, 3) := by decide +kernel
theorem dX9_findGoods_239 : decode cX9_findGoods 239 = .ok (.iload_n 2, 1) := by decide +kernel
theorem dX9_findGoods_240 : decode cX9_findGoods 240 = .ok (.iaload, 1) := by decide +kernel
theorem dX9_findGoods_241 : decode cX9_findGoods 241 = .ok (.imul, 1) := by decide +kernel
theorem dX9_findGoods_242 : decode cX9_findGoods 242 = .ok (.iadd, 1) := by decide +kernel
theorem dX9_findGoods_243 : decode cX9_findGoods 243 = .ok (.iastore, 1) := by decide +kernel
theorem dX9_findGoods_244 : decode cX9_findGoods 244 = .ok (.iinc 2 1, 3) := by decide +kernel
theorem dX9_findGoods_247 : decode cX9_findGoods 247 = .ok (.goto (-51), 3) := by decide +kernel
theorem dX9_findGoods_250 : decode cX9_findGoods 250 = .ok (.iconst 0, 1) := by decide +kernel
theorem dX9_findGoods_251 : decode cX9_findGoods 251 = .ok (.istore_n 2, 1) := by decide +kernel
theorem dX9_findGoods_252 : decode cX9_findGoods 252 = .ok (.iload_n 2, 1) := by decide +kernel
theorem dX9_findGoods_253 : decode cX9_findGoods 253 = .ok (.aload_n 0, 1) := by decide +kernel
theorem dX9_findGoods_254 : decode cX9_findGoods 254 = .ok (.getfield 55, 3) := by decide +kernel
theorem dX9_findGoods_257 : decode cX9_findGoods 257 = .ok (.if_icmp .ge 47, 3) := by decide +kernel
theorem dX9_findGoods_260 : decode cX9_findGoods 260 = .ok (.aload_n 0, 1) := by decide +kernel
theorem dX9_findGoods_261 : decode cX9_findGoods 261 = .ok (.getfield 25, 3) := by decide +kernel
theorem dX9_findGoods_264 : decode cX9_findGoods 264 = .ok (.aload_n 0, 1) := by decide +kernel
theorem dX9_findGoods_265 : decode cX9_findGoods 265 = .ok (.getfield 34, 3) := by decide +kernel
theorem dX9_findGoods_268 : decode cX9_findGoods 268 = .ok (.iload_n 2, 1) := by decide +kernel
theorem dX9_findGoods_269 : decode cX9_findGoods 269 = .ok (.iaload, 1) := by decide +kernel
theorem dX9_findGoods_270 : decode cX9_findGoods 270 = .ok (.dup2, 1) := by decide +kernel
theorem dX9_findGoods_271 : decode cX9_findGoods 271 = .ok (.iaload, 1) := by decide +kernel
theorem dX9_findGoods_272 : decode cX9_findGoods 272 = .ok (.iconst 2, 1) := by decide +kernel
theorem dX9_findGoods_273 : decode cX9_findGoods 273 = .ok (.aload_n 0, 1) := by decide +kernel
theorem dX9_findGoods_274 : decode cX9_findGoods 274 = .ok (.getfield 7, 3) := by decide +kernel
theorem dX9_findGoods_277 : decode cX9_findGoods 277 = .ok (.iconst 4, 1) := by decide +kernel
theorem dX9_findGoods_278 : decode cX9_findGoods 278 = .ok (.aload_n 0, 1) := by decide +kernel
theorem dX9_findGoods_279 : decode cX9_findGoods 279 = .ok (.getfield 34, 3) := by decide +kernel
theorem dX9_findGoods_282 : decode cX9_findGoods 282 = .ok (.iload_n 2, 1) := by decide +kernel
theorem dX9_findGoods_283 : decode cX9_findGoods 283 = .ok (.iaload, 1) := by decide +kernel
theorem dX9_findGoods_284 : decode cX9_findGoods 284 = .ok (.imul, 1) := by decide +kernel
theorem dX9_findGoods_285 : decode cX9_findGoods 285 = .ok (.iconst 2, 1) := by decide +kernel
theorem dX9_findGoods_286 : decode cX9_findGoods 286 = .ok (.iadd, 1) := by decide +kernel
theorem dX9_findGoods_287 : decode cX9_findGoods 287 = .ok (.iaload, 1) := by decide +kernel
theorem dX9_findGoods_288 : decode cX9_findGoods 288 = .ok (.imul, 1) := by decide +kernel
theorem dX9_findGoods_289 : decode cX9_findGoods 289 = .ok (.aload_n 0, 1) := by decide +kernel
theorem dX9_findGoods_290 : decode cX9_findGoods 290 = .ok (.getfield 31, 3) := by decide +kernel
theorem dX9_findGoods_293 : decode cX9_findGoods 293 = .ok (.iload_n 2, 1) := by decide +kernel
theorem dX9_findGoods_294 : decode cX9_findGoods 294 = .ok (.iaload, 1) := by decide +kernel
theorem dX9_findGoods_295 : decode cX9_findGoods 295 = .ok (.imul, 1) := by decide +kernel
theorem dX9_findGoods_296 : decode cX9_findGoods 296 = .ok (.iadd, 1) := by decide +kernel
theorem dX9_findGoods_297 : decode cX9_findGoods 297 = .ok (.iastore, 1) := by decide +kernel
theorem dX9_findGoods_298 : decode cX9_findGoods 298 = .ok (.iinc 2 1, 3) := by decide +kernel
theorem dX9_findGoods_301 : decode cX9_findGoods 301 = .ok (.goto (-49), 3) := by decide +kernel
theorem dX9_findGoods_304 : decode cX9_findGoods 304 = .ok (.return_, 1) := by decide +kernel
theorem dX9_shareOf_0 : decode cX9_shareOf 0 = .ok (.aload_n 0, 1) := by decide +kernel
theorem dX9_shareOf_1 : decode cX9_shareOf 1 = .ok (.getfield 88, 3) := by decide +kernel
theorem dX9_shareOf_4 : decode cX9_shareOf 4 = .ok (.ifCond .ne 10, 3) := by decide +kernel
theorem dX9_shareOf_7 : decode cX9_shareOf 7 = .ok (.aload_n 0, 1) := by decide +kernel
theorem dX9_shareOf_8 : decode cX9_shareOf 8 = .ok (.getfield 37, 3) := by decide +kernel
theorem dX9_shareOf_11 : decode cX9_shareOf 11 = .ok (.iload_n 2, 1) := by decide +kernel
theorem dX9_shareOf_12 : decode cX9_shareOf 12 = .ok (.iaload, 1) := by decide +kernel
theorem dX9_shareOf_13 : decode cX9_shareOf 13 = .ok (.ireturn, 1) := by decide +kernel
theorem dX9_shareOf_14 : decode cX9_shareOf 14 = .ok (.iconst 0, 1) := by decide +kernel
theorem dX9_shareOf_15 : decode cX9_shareOf 15 = .ok (.istore_n 3, 1) := by decide +kernel
theorem dX9_shareOf_16 : decode cX9_shareOf 16 = .ok (.iconst 0, 1) := by decide +kernel
theorem dX9_shareOf_17 : decode cX9_shareOf 17 = .ok (.istore 4, 2) := by decide +kernel
theorem dX9_shareOf_19 : decode cX9_shareOf 19 = .ok (.iconst 0, 1) := by decide +kernel
theorem dX9_shareOf_20 : decode cX9_shareOf 20 = .ok (.istore 5, 2) := by decide +kernel
theorem dX9_shareOf_22 : decode cX9_shareOf 22 = .ok (.iconst 0, 1) := by decide +kernel
theorem dX9_shareOf_23 : decode cX9_shareOf 23 = .ok (.istore 6, 2) := by decide +kernel
theorem dX9_shareOf_25 : decode cX9_shareOf 25 = .ok (.iconst 0, 1) := by decide +kernel
theorem dX9_shareOf_26 : decode cX9_shareOf 26 = .ok (.istore 7, 2) := by decide +kernel
theorem dX9_shareOf_28 : decode cX9_shareOf 28 = .ok (.iload 7, 2) := by decide +kernel
theorem dX9_shareOf_30 : decode cX9_shareOf 30 = .ok (.aload_n 0, 1) := by decide +kernel
theorem dX9_shareOf_31 : decode cX9_shareOf 31 = .ok (.getfield 55, 3) := by decide +kernel
theorem dX9_shareOf_34 : decode cX9_shareOf 34 = .ok (.if_icmp .ge 62, 3) := by decide +kernel
theorem dX9_shareOf_37 : decode cX9_shareOf 37 = .ok (.aload_n 1, 1) := by decide +kernel
theorem dX9_shareOf_38 : decode cX9_shareOf 38 = .ok (.iload 7, 2) := by decide +kernel
theorem dX9_shareOf_40 : decode cX9_shareOf 40 = .ok (.iaload, 1) := by decide +kernel
theorem dX9_shareOf_41 : decode cX9_shareOf 41 = .ok (.aload_n 1, 1) := by decide +kernel
theorem dX9_shareOf_42 : decode cX9_shareOf 42 = .ok (.iload_n 2, 1) := by decide +kernel
theorem dX9_shareOf_43 : decode cX9_shareOf 43 = .ok (.iaload, 1) := by decide +kernel
theorem dX9_shareOf_44 : decode cX9_shareOf 44 = .ok (.if_icmp .ne 46, 3) := by decide +kernel
theorem dX9_shareOf_47 : decode cX9_shareOf 47 = .ok (.iload_n 3, 1) := by decide +kernel
theorem dX9_shareOf_48 : decode cX9_shareOf 48 = .ok (.aload_n 0, 1) := by decide +kernel
theorem dX9_shareOf_49 : decode cX9_shareOf 49 = .ok (.getfield 37, 3) := by decide +kernel
theorem dX9_shareOf_52 : decode cX9_shareOf 52 = .ok (.iload 7, 2) := by decide +kernel
theorem dX9_shareOf_54 : decode cX9_shareOf 54 = .ok (.iaload, 1) := by decide +kernel
theorem dX9_shareOf_55 : decode cX9_shareOf 55 = .ok (.iadd, 1) := by decide +kernel
theorem dX9_shareOf_56 : decode cX9_shareOf 56 = .ok (.istore_n 3, 1) := by decide +kernel
theorem dX9_shareOf_57 : decode cX9_shareOf 57 = .ok (.iload 5, 2) := by decide +kernel
theorem dX9_shareOf_59 : decode cX9_shareOf 59 = .ok (.aload_n 0, 1) := by decide +kernel
theorem dX9_shareOf_60 : decode cX9_shareOf 60 = .ok (.getfield 7, 3) := by decide +kernel
theorem dX9_shareOf_63 : decode cX9_shareOf 63 = .ok (.iconst 4, 1) := by decide +kernel
theorem dX9_shareOf_64 : decode cX9_shareOf 64 = .ok (.iload 7, 2) := by decide +kernel
theorem dX9_shareOf_66 : decode cX9_shareOf 66 = .ok (.imul, 1) := by decide +kernel
theorem dX9_shareOf_67 : decode cX9_shareOf 67 = .ok (.iaload, 1) := by decide +kernel
theorem dX9_shareOf_68 : decode cX9_shareOf 68 = .ok (.iadd, 1) := by decide +kernel
theorem dX9_shareOf_69 : decode cX9_shareOf 69 = .ok (.istore 5, 2) := by decide +kernel
theorem dX9_shareOf_71 : decode cX9_shareOf 71 = .ok (.iinc 4 1, 3) := by decide +kernel
theorem dX9_shareOf_74 : decode cX9_shareOf 74 = .ok (.iload 6, 2) := by decide +kernel
theorem dX9_shareOf_76 : decode cX9_shareOf 76 = .ok (.iload 7, 2) := by decide +kernel
theorem dX9_shareOf_78 : decode cX9_shareOf 78 = .ok (.iload_n 2, 1) := by decide +kernel
theorem dX9_shareOf_79 : decode cX9_shareOf 79 = .ok (.if_icmp .ge 7, 3) := by decide +kernel
theorem dX9_shareOf_82 : decode cX9_shareOf 82 = .ok (.iconst 1, 1) := by decide +kernel
theorem dX9_shareOf_83 : decode cX9_shareOf 83 = .ok (.goto 4, 3) := by decide +kernel
theorem dX9_shareOf_86 : decode cX9_shareOf 86 = .ok (.iconst 0, 1) := by decide +kernel
theorem dX9_shareOf_87 : decode cX9_shareOf 87 = .ok (.iadd, 1) := by decide +kernel
theorem dX9_shareOf_88 : decode cX9_shareOf 88 = .ok (.istore 6, 2) := by decide +kernel
theorem dX9_shareOf_90 : decode cX9_shareOf 90 = .ok (.iinc 7 1, 3) := by decide +kernel
theorem dX9_shareOf_93 : decode cX9_shareOf 93 = .ok (.goto (-65), 3) := by decide +kernel
theorem dX9_shareOf_96 : decode cX9_shareOf 96 = .ok (.iconst 0, 1) := by decide +kernel
theorem dX9_shareOf_97 : decode cX9_shareOf 97 = .ok (.istore 7, 2) := by decide +kernel
theorem dX9_shareOf_99 : decode cX9_shareOf 99 = .ok (.iconst 0, 1) := by decide +kernel
theorem dX9_shareOf_100 : decode cX9_shareOf 100 = .ok (.istore 8, 2) := by decide +kernel
theorem dX9_shareOf_102 : decode cX9_shareOf 102 = .ok (.iload 8, 2) := by decide +kernel
theorem dX9_shareOf_104 : decode cX9_shareOf 104 = .ok (.aload_n 0, 1) := by decide +kernel
theorem dX9_shareOf_105 : decode cX9_shareOf 105 = .ok (.getfield 55, 3) := by decide +kernel
theorem dX9_shareOf_108 : decode cX9_shareOf 108 = .ok (.if_icmp .ge 57, 3) := by decide +kernel
theorem dX9_shareOf_111 : decode cX9_shareOf 111 = .ok (.iload 7, 2) := by decide +kernel
theorem dX9_shareOf_113 : decode cX9_shareOf 113 = .ok (.aload_n 1, 1) := by decide +kernel
theorem dX9_shareOf_114 : decode cX9_shareOf 114 = .ok (.iload 8, 2) := by decide +kernel
theorem dX9_shareOf_116 : decode cX9_shareOf 116 = .ok (.iaload, 1) := by decide +kernel
theorem dX9_shareOf_117 : decode cX9_shareOf 117 = .ok (.aload_n 1, 1) := by decide +kernel
theorem dX9_shareOf_118 : decode cX9_shareOf 118 = .ok (.iload_n 2, 1) := by decide +kernel
theorem dX9_shareOf_119 : decode cX9_shareOf 119 = .ok (.iaload, 1) := by decide +kernel
theorem dX9_shareOf_120 : decode cX9_shareOf 120 = .ok (.if_icmp .eq 7, 3) := by decide +kernel
theorem dX9_shareOf_123 : decode cX9_shareOf 123 = .ok (.iconst 0, 1) := by decide +kernel
theorem dX9_shareOf_124 : decode cX9_shareOf 124 = .ok (.goto 32, 3) := by decide +kernel
theorem dX9_shareOf_127 : decode cX9_shareOf 127 = .ok (.aload_n 0, 1) := by decide +kernel
theorem dX9_shareOf_128 : decode cX9_shareOf 128 = .ok (.getfield 88, 3) := by decide +kernel
theorem dX9_shareOf_131 : decode cX9_shareOf 131 = .ok (.iconst 1, 1) := by decide +kernel
theorem dX9_shareOf_132 : decode cX9_shareOf 132 = .ok (.if_icmp .ne 10, 3) := by decide +kernel
theorem dX9_shareOf_135 : decode cX9_shareOf 135 = .ok (.iload_n 3, 1) := by decide +kernel
theorem dX9_shareOf_136 : decode cX9_shareOf 136 = .ok (.iload 4, 2) := by decide +kernel
theorem dX9_shareOf_138 : decode cX9_shareOf 138 = .ok (.idiv, 1) := by decide +kernel
theorem dX9_shareOf_139 : decode cX9_shareOf 139 = .ok (.goto 17, 3) := by decide +kernel
theorem dX9_shareOf_142 : decode cX9_shareOf 142 = .ok (.iload_n 3, 1) := by decide +kernel
theorem dX9_shareOf_143 : decode cX9_shareOf 143 = .ok (.aload_n 0, 1) := by decide +kernel
theorem dX9_shareOf_144 : decode cX9_shareOf 144 = .ok (.getfield 7, 3) := by decide +kernel
theorem dX9_shareOf_147 : decode cX9_shareOf 147 = .ok (.iconst 4, 1) := by decide +kernel
theorem dX9_shareOf_148 : decode cX9_shareOf 148 = .ok (.iload 8, 2) := by decide +kernel
theorem dX9_shareOf_150 : decode cX9_shareOf 150 = .ok (.imul, 1) := by decide +kernel
theorem dX9_shareOf_151 : decode cX9_shareOf 151 = .ok (.iaload, 1) := by decide +kernel
theorem dX9_shareOf_152 : decode cX9_shareOf 152 = .ok (.imul, 1) := by decide +kernel
theorem dX9_shareOf_153 : decode cX9_shareOf 153 = .ok (.iload 5, 2) := by decide +kernel
theorem dX9_shareOf_155 : decode cX9_shareOf 155 = .ok (.idiv, 1) := by decide +kernel
theorem dX9_shareOf_156 : decode cX9_shareOf 156 = .ok (.iadd, 1) := by decide +kernel
theorem dX9_shareOf_157 : decode cX9_shareOf 157 = .ok (.istore 7, 2) := by decide +kernel
theorem dX9_shareOf_159 : decode cX9_shareOf 159 = .ok (.iinc 8 1, 3) := by decide +kernel
theorem dX9_shareOf_162 : decode cX9_shareOf 162 = .ok (.goto (-60), 3) := by decide +kernel
theorem dX9_shareOf_165 : decode cX9_shareOf 165 = .ok (.aload_n 0, 1) := by decide +kernel
theorem dX9_shareOf_166 : decode cX9_shareOf 166 = .ok (.getfield 88, 3) := by decide +kernel
theorem dX9_shareOf_169 : decode cX9_shareOf 169 = .ok (.iconst 1, 1) := by decide +kernel
theorem dX9_shareOf_170 : decode cX9_shareOf 170 = .ok (.if_icmp .ne 10, 3) := by decide +kernel
theorem dX9_shareOf_173 : decode cX9_shareOf 173 = .ok (.iload_n 3, 1) := by decide +kernel
theorem dX9_shareOf_174 : decode cX9_shareOf 174 = .ok (.iload 4, 2) := by decide +kernel
theorem dX9_shareOf_176 : decode cX9_shareOf 176 = .ok (.idiv, 1) := by decide +kernel
theorem dX9_shareOf_177 : decode cX9_shareOf 177 = .ok (.goto 16, 3) := by decide +kernel
theorem dX9_shareOf_180 : decode cX9_shareOf 180 = .ok (.iload_n 3, 1) := by decide +kernel
theorem dX9_shareOf_181 : decode cX9_shareOf 181 = .ok (.aload_n 0, 1) := by decide +kernel
theorem dX9_shareOf_182 : decode cX9_shareOf 182 = .ok (.getfield 7, 3) := by decide +kernel
theorem dX9_shareOf_185 : decode cX9_shareOf 185 = .ok (.iconst 4, 1) := by decide +kernel
theorem dX9_shareOf_186 : decode cX9_shareOf 186 = .ok (.iload_n 2, 1) := by decide +kernel
theorem dX9_shareOf_187 : decode cX9_shareOf 187 = .ok (.imul, 1) := by decide +kernel
theorem dX9_shareOf_188 : decode cX9_shareOf 188 = .ok (.iaload, 1) := by decide +kernel
theorem dX9_shareOf_189 : decode cX9_shareOf 189 = .ok (.imul, 1) := by decide +kernel
theorem dX9_shareOf_190 : decode cX9_shareOf 190 = .ok (.iload 5, 2) := by decide +kernel
theorem dX9_shareOf_192 : decode cX9_shareOf 192 = .ok (.idiv, 1) := by decide +kernel
theorem dX9_shareOf_193 : decode cX9_shareOf 193 = .ok (.istore 8, 2) := by decide +kernel
theorem dX9_shareOf_195 : decode cX9_shareOf 195 = .ok (.iload 8, 2) := by decide +kernel
theorem dX9_shareOf_197 : decode cX9_shareOf 197 = .ok (.iload 6, 2) := by decide +kernel
theorem dX9_shareOf_199 : decode cX9_shareOf 199 = .ok (.iload_n 3, 1) := by decide +kernel
theorem dX9_shareOf_200 : decode cX9_shareOf 200 = .ok (.iload 7, 2) := by decide +kernel
theorem dX9_shareOf_202 : decode cX9_shareOf 202 = .ok (.isub, 1) := by decide +kernel
theorem dX9_shareOf_203 : decode cX9_shareOf 203 = .ok (.if_icmp .ge 7, 3) := by decide +kernel
theorem dX9_shareOf_206 : decode cX9_shareOf 206 = .ok (.iconst 1, 1) := by decide +kernel
theorem dX9_shareOf_207 : decode cX9_shareOf 207 = .ok (.goto 4, 3) := by decide +kernel
theorem dX9_shareOf_210 : decode cX9_shareOf 210 = .ok (.iconst 0, 1) := by decide +kernel
theorem dX9_shareOf_211 : decode cX9_shareOf 211 = .ok (.iadd, 1) := by decide +kernel
theorem dX9_shareOf_212 : decode cX9_shareOf 212 = .ok (.ireturn, 1) := by decide +kernel
theorem dX9_copy_0 : decode cX9_copy 0 = .ok (.iconst 0, 1) := by decide +kernel
theorem dX9_copy_1 : decode cX9_copy 1 = .ok (.istore_n 3, 1) := by decide +kernel
theorem dX9_copy_2 : decode cX9_copy 2 = .ok (.iload_n 3, 1) := by decide +kernel
theorem dX9_copy_3 : decode cX9_copy 3 = .ok (.bipush 6, 2) := by decide +kernel
theorem dX9_copy_5 : decode cX9_copy 5 = .ok (.if_icmp .ge 15, 3) := by decide +kernel
theorem dX9_copy_8 : decode cX9_copy 8 = .ok (.aload_n 2, 1) := by decide +kernel
theorem dX9_copy_9 : decode cX9_copy 9 = .ok (.iload_n 3, 1) := by decide +kernel
theorem dX9_copy_10 : decode cX9_copy 10 = .ok (.aload_n 1, 1) := by decide +kernel
theorem dX9_copy_11 : decode cX9_copy 11 = .ok (.iload_n 3, 1) := by decide +kernel
theorem dX9_copy_12 : decode cX9_copy 12 = .ok (.iaload, 1) := by decide +kernel
theorem dX9_copy_13 : decode cX9_copy 13 = .ok (.iastore, 1) := by decide +kernel
theorem dX9_copy_14 : decode cX9_copy 14 = .ok (.iinc 3 1, 3) := by decide +kernel
theorem dX9_copy_17 : decode cX9_copy 17 = .ok (.goto (-15), 3) := by decide +kernel
theorem dX9_copy_20 : decode cX9_copy 20 = .ok (.return_, 1) := by decide +kernel
theorem dX9_together_0 : decode cX9_together 0 = .ok (.iconst 0, 1) := by decide +kernel
theorem dX9_together_1 : decode cX9_together 1 = .ok (.istore_n 1, 1) := by decide +kernel
theorem dX9_together_2 : decode cX9_together 2 = .ok (.iconst 0, 1) := by decide +kernel
theorem dX9_together_3 : decode cX9_together 3 = .ok (.istore_n 2, 1) := by decide +kernel
theorem dX9_together_4 : decode cX9_together 4 = .ok (.iload_n 2, 1) := by decide +kernel
theorem dX9_together_5 : decode cX9_together 5 = .ok (.aload_n 0, 1) := by decide +kernel
theorem dX9_together_6 : decode cX9_together 6 = .ok (.getfield 55, 3) := by decide +kernel
theorem dX9_together_9 : decode cX9_together 9 = .ok (.if_icmp .ge 18, 3) := by decide +kernel
theorem dX9_together_12 : decode cX9_together 12 = .ok (.iload_n 1, 1) := by decide +kernel
theorem dX9_together_13 : decode cX9_together 13 = .ok (.aload_n 0, 1) := by decide +kernel
theorem dX9_together_14 : decode cX9_together 14 = .ok (.getfield 25, 3) := by decide +kernel
theorem dX9_together_17 : decode cX9_together 17 = .ok (.iload_n 2, 1) := by decide +kernel
theorem dX9_together_18 : decode cX9_together 18 = .ok (.iaload, 1) := by decide +kernel
theorem dX9_together_19 : decode cX9_together 19 = .ok (.iadd, 1) := by decide +kernel
theorem dX9_together_20 : decode cX9_together 20 = .ok (.istore_n 1, 1) := by decide +kernel
theorem dX9_together_21 : decode cX9_together 21 = .ok (.iinc 2 1, 3) := by decide +kernel
theorem dX9_together_24 : decode cX9_together 24 = .ok (.goto (-20), 3) := by decide +kernel
theorem dX9_together_27 : decode cX9_together 27 = .ok (.iload_n 1, 1) := by decide +kernel
theorem dX9_together_28 : decode cX9_together 28 = .ok (.ireturn, 1) := by decide +kernel
theorem dX9_of_0 : decode cX9_of 0 = .ok (.aload_n 0, 1) := by decide +kernel
theorem dX9_of_1 : decode cX9_of 1 = .ok (.iload_n 1, 1) := by decide +kernel
theorem dX9_of_2 : decode cX9_of 2 = .ok (.invokevirtual 77, 3) := by decide +kernel
theorem dX9_of_5 : decode cX9_of 5 = .ok (.ifCond .ne 5, 3) := by decide +kernel
theorem dX9_of_8 : decode cX9_of 8 = .ok (.iconst (-1), 1) := by decide +kernel
theorem dX9_of_9 : decode cX9_of 9 = .ok (.ireturn, 1) := by decide +kernel
theorem dX9_of_10 : decode cX9_of 10 = .ok (.aload_n 0, 1) := by decide +kernel
theorem dX9_of_11 : decode cX9_of 11 = .ok (.aload_n 0, 1) := by decide +kernel
theorem dX9_of_12 : decode cX9_of 12 = .ok (.getfield 13, 3) := by decide +kernel
theorem dX9_of_15 : decode cX9_of 15 = .ok (.invokevirtual 115, 3) := by decide +kernel
theorem dX9_of_18 : decode cX9_of 18 = .ok (.iload_n 2, 1) := by decide +kernel
theorem dX9_of_19 : decode cX9_of 19 = .ok (.tableswitch 96 0 5 #[37, 44, 51, 58, 79, 89], 37) := by decide +kernel
theorem dX9_of_56 : decode cX9_of 56 = .ok (.aload_n 0, 1) := by decide +kernel
theorem dX9_of_57 : decode cX9_of 57 = .ok (.getfield 25, 3) := by decide +kernel
theorem dX9_of_60 : decode cX9_of 60 = .ok (.iload_n 1, 1) := by decide +kernel
theorem dX9_of_61 : decode cX9_of 61 = .ok (.iaload, 1) := by decide +kernel
theorem dX9_of_62 : decode cX9_of 62 = .ok (.ireturn, 1) := by decide +kernel
theorem dX9_of_63 : decode cX9_of 63 = .ok (.aload_n 0, 1) := by decide +kernel
theorem dX9_of_64 : decode cX9_of 64 = .ok (.getfield 28, 3) := by decide +kernel
theorem dX9_of_67 : decode cX9_of 67 = .ok (.iload_n 1, 1) := by decide +kernel
theorem dX9_of_68 : decode cX9_of 68 = .ok (.iaload, 1) := by decide +kernel
theorem dX9_of_69 : decode cX9_of 69 = .ok (.ireturn, 1) := by decide +kernel
theorem dX9_of_70 : decode cX9_of 70 = .ok (.aload_n 0, 1) := by decide +kernel
theorem dX9_of_71 : decode cX9_of 71 = .ok (.getfield 31, 3) := by decide +kernel
theorem dX9_of_74 : decode cX9_of 74 = .ok (.iload_n 1, 1) := by decide +kernel
theorem dX9_of_75 : decode cX9_of 75 = .ok (.iaload, 1) := by decide +kernel
theorem dX9_of_76 : decode cX9_of 76 = .ok (.ireturn, 1) := by decide +kernel
theorem dX9_of_77 : decode cX9_of 77 = .ok (.aload_n 0, 1) := by decide +kernel
theorem dX9_of_78 : decode cX9_of 78 = .ok (.getfield 31, 3) := by decide +kernel
theorem dX9_of_81 : decode cX9_of 81 = .ok (.iload_n 1, 1) := by decide +kernel
theorem dX9_of_82 : decode cX9_of 82 = .ok (.iaload, 1) := by decide +kernel
theorem dX9_of_83 : decode cX9_of 83 = .ok (.ifCond .ne 8, 3) := by decide +kernel
theorem dX9_of_86 : decode cX9_of 86 = .ok (.bipush (-6), 2) := by decide +kernel
theorem dX9_of_88 : decode cX9_of 88 = .ok (.goto 9, 3) := by decide +kernel
theorem dX9_of_91 : decode cX9_of 91 = .ok (.aload_n 0, 1) := by decide +kernel
theorem dX9_of_92 : decode cX9_of 92 = .ok (.getfield 34, 3) := by decide +kernel
theorem dX9_of_95 : decode cX9_of 95 = .ok (.iload_n 1, 1) := by decide +kernel
theorem dX9_of_96 : decode cX9_of 96 = .ok (.iaload, 1) := by decide +kernel
theorem dX9_of_97 : decode cX9_of 97 = .ok (.ireturn, 1) := by decide +kernel
theorem dX9_of_98 : decode cX9_of 98 = .ok (.aload_n 0, 1) := by decide +kernel
theorem dX9_of_99 : decode cX9_of 99 = .ok (.aload_n 0, 1) := by decide +kernel
theorem dX9_of_100 : decode cX9_of 100 = .ok (.getfield 13, 3) := by decide +kernel
theorem dX9_of_103 : decode cX9_of 103 = .ok (.iload_n 1, 1) := by decide +kernel
theorem dX9_of_104 : decode cX9_of 104 = .ok (.invokevirtual 108, 3) := by decide +kernel
theorem dX9_of_107 : decode cX9_of 107 = .ok (.ireturn, 1) := by decide +kernel
theorem dX9_of_108 : decode cX9_of 108 = .ok (.aload_n 0, 1) := by decide +kernel
theorem dX9_of_109 : decode cX9_of 109 = .ok (.getfield 40, 3) := by decide +kernel
theorem dX9_of_112 : decode cX9_of 112 = .ok (.iload_n 1, 1) := by decide +kernel
theorem dX9_of_113 : decode cX9_of 113 = .ok (.iaload, 1) := by decide +kernel
theorem dX9_of_114 : decode cX9_of 114 = .ok (.ireturn, 1) := by decide +kernel
theorem dX9_of_115 : decode cX9_of 115 = .ok (.bipush (-2), 2) := by decide +kernel
theorem dX9_of_117 : decode cX9_of 117 = .ok (.ireturn, 1) := by decide +kernel
theorem dX9_firstParting_0 : decode cX9_firstParting 0 = .ok (.iconst 0, 1) := by decide +kernel
theorem dX9_firstParting_1 : decode cX9_firstParting 1 = .ok (.istore_n 1, 1) := by decide +kernel
theorem dX9_firstParting_2 : decode cX9_firstParting 2 = .ok (.iload_n 1, 1) := by decide +kernel
theorem dX9_firstParting_3 : decode cX9_firstParting 3 = .ok (.bipush 6, 2) := by decide +kernel
theorem dX9_firstParting_5 : decode cX9_firstParting 5 = .ok (.if_icmp .ge 16, 3) := by decide +kernel
theorem dX9_firstParting_8 : decode cX9_firstParting 8 = .ok (.aload_n 0, 1) := by decide +kernel
theorem dX9_firstParting_9 : decode cX9_firstParting 9 = .ok (.getfield 43, 3) := by decide +kernel
theorem dX9_firstParting_12 : decode cX9_firstParting 12 = .ok (.iload_n 1, 1) := by decide +kernel
theorem dX9_firstParting_13 : decode cX9_firstParting 13 = .ok (.iconst 0, 1) := by decide +kernel
theorem dX9_firstParting_14 : decode cX9_firstParting 14 = .ok (.iastore, 1) := by decide +kernel
theorem dX9_firstParting_15 : decode cX9_firstParting 15 = .ok (.iinc 1 1, 3) := by decide +kernel
theorem dX9_firstParting_18 : decode cX9_firstParting 18 = .ok (.goto (-16), 3) := by decide +kernel
theorem dX9_firstParting_21 : decode cX9_firstParting 21 = .ok (.return_, 1) := by decide +kernel
theorem dX9_nextParting_0 : decode cX9_nextParting 0 = .ok (.aload_n 0, 1) := by decide +kernel
theorem dX9_nextParting_1 : decode cX9_nextParting 1 = .ok (.getfield 55, 3) := by decide +kernel
theorem dX9_nextParting_4 : decode cX9_nextParting 4 = .ok (.iconst 1, 1) := by decide +kernel
theorem dX9_nextParting_5 : decode cX9_nextParting 5 = .ok (.isub, 1) := by decide +kernel
theorem dX9_nextParting_6 : decode cX9_nextParting 6 = .ok (.istore_n 1, 1) := by decide +kernel
theorem dX9_nextParting_7 : decode cX9_nextParting 7 = .ok (.iload_n 1, 1) := by decide +kernel
theorem dX9_nextParting_8 : decode cX9_nextParting 8 = .ok (.ifCond .le 92, 3) := by decide +kernel
theorem dX9_nextParting_11 : decode cX9_nextParting 11 = .ok (.iconst 0, 1) := by decide +kernel
theorem dX9_nextParting_12 : decode cX9_nextParting 12 = .ok (.istore_n 2, 1) := by decide +kernel
theorem dX9_nextParting_13 : decode cX9_nextParting 13 = .ok (.iconst 0, 1) := by decide +kernel
theorem dX9_nextParting_14 : decode cX9_nextParting 14 = .ok (.istore_n 3, 1) := by decide +kernel
theorem dX9_nextParting_15 : decode cX9_nextParting 15 = .ok (.iload_n 3, 1) := by decide +kernel
theorem dX9_nextParting_16 : decode cX9_nextParting 16 = .ok (.iload_n 1, 1) := by decide +kernel
theorem dX9_nextParting_17 : decode cX9_nextParting 17 = .ok (.if_icmp .ge 30, 3) := by decide +kernel
theorem dX9_nextParting_20 : decode cX9_nextParting 20 = .ok (.aload_n 0, 1) := by decide +kernel
theorem dX9_nextParting_21 : decode cX9_nextParting 21 = .ok (.getfield 43, 3) := by decide +kernel
theorem dX9_nextParting_24 : decode cX9_nextParting 24 = .ok (.iload_n 3, 1) := by decide +kernel
theorem dX9_nextParting_25 : decode cX9_nextParting 25 = .ok (.iaload, 1) := by decide +kernel
theorem dX9_nextParting_26 : decode cX9_nextParting 26 = .ok (.iload_n 2, 1) := by decide +kernel
theorem dX9_nextParting_27 : decode cX9_nextParting 27 = .ok (.if_icmp .le 12, 3) := by decide +kernel
theorem dX9_nextParting_30 : decode cX9_nextParting 30 = .ok (.aload_n 0, 1) := by decide +kernel
theorem dX9_nextParting_31 : decode cX9_nextParting 31 = .ok (.getfield 43, 3) := by decide +kernel
theorem dX9_nextParting_34 : decode cX9_nextParting 34 = .ok (.iload_n 3, 1) := by decide +kernel
theorem dX9_nextParting_35 : decode cX9_nextParting 35 = .ok (.iaload, 1) := by decide +kernel
theorem dX9_nextParting_36 : decode cX9_nextParting 36 = .ok (.goto 4, 3) := by decide +kernel
theorem dX9_nextParting_39 : decode cX9_nextParting 39 = .ok (.iload_n 2, 1) := by decide +kernel
theorem dX9_nextParting_40 : decode cX9_nextParting 40 = .ok (.istore_n 2, 1) := by decide +kernel
theorem dX9_nextParting_41 : decode cX9_nextParting 41 = .ok (.iinc 3 1, 3) := by decide +kernel
theorem dX9_nextParting_44 : decode cX9_nextParting 44 = .ok (.goto (-29), 3) := by decide +kernel
theorem dX9_nextParting_47 : decode cX9_nextParting 47 = .ok (.aload_n 0, 1) := by decide +kernel
theorem dX9_nextParting_48 : decode cX9_nextParting 48 = .ok (.getfield 43, 3) := by decide +kernel
theorem dX9_nextParting_51 : decode cX9_nextParting 51 = .ok (.iload_n 1, 1) := by decide +kernel
theorem dX9_nextParting_52 : decode cX9_nextParting 52 = .ok (.iaload, 1) := by decide +kernel
theorem dX9_nextParting_53 : decode cX9_nextParting 53 = .ok (.iload_n 2, 1) := by decide +kernel
theorem dX9_nextParting_54 : decode cX9_nextParting 54 = .ok (.if_icmp .gt 40, 3) := by decide +kernel
theorem dX9_nextParting_57 : decode cX9_nextParting 57 = .ok (.aload_n 0, 1) := by decide +kernel
theorem dX9_nextParting_58 : decode cX9_nextParting 58 = .ok (.getfield 43, 3) := by decide +kernel
theorem dX9_nextParting_61 : decode cX9_nextParting 61 = .ok (.iload_n 1, 1) := by decide +kernel
theorem dX9_nextParting_62 : decode cX9_nextParting 62 = .ok (.dup2, 1) := by decide +kernel
theorem dX9_nextParting_63 : decode cX9_nextParting 63 = .ok (.iaload, 1) := by decide +kernel
theorem dX9_nextParting_64 : decode cX9_nextParting 64 = .ok (.iconst 1, 1) := by decide +kernel
theorem dX9_nextParting_65 : decode cX9_nextParting 65 = .ok (.iadd, 1) := by decide +kernel
theorem dX9_nextParting_66 : decode cX9_nextParting 66 = .ok (.iastore, 1) := by decide +kernel
theorem dX9_nextParting_67 : decode cX9_nextParting 67 = .ok (.iload_n 1, 1) := by decide +kernel
theorem dX9_nextParting_68 : decode cX9_nextParting 68 = .ok (.iconst 1, 1) := by decide +kernel
theorem dX9_nextParting_69 : decode cX9_nextParting 69 = .ok (.iadd, 1) := by decide +kernel
theorem dX9_nextParting_70 : decode cX9_nextParting 70 = .ok (.istore_n 3, 1) := by decide +kernel
theorem dX9_nextParting_71 : decode cX9_nextParting 71 = .ok (.iload_n 3, 1) := by decide +kernel
theorem dX9_nextParting_72 : decode cX9_nextParting 72 = .ok (.aload_n 0, 1) := by decide +kernel
theorem dX9_nextParting_73 : decode cX9_nextParting 73 = .ok (.getfield 55, 3) := by decide +kernel
theorem dX9_nextParting_76 : decode cX9_nextParting 76 = .ok (.if_icmp .ge 16, 3) := by decide +kernel
theorem dX9_nextParting_79 : decode cX9_nextParting 79 = .ok (.aload_n 0, 1) := by decide +kernel
theorem dX9_nextParting_80 : decode cX9_nextParting 80 = .ok (.getfield 43, 3) := by decide +kernel
theorem dX9_nextParting_83 : decode cX9_nextParting 83 = .ok (.iload_n 3, 1) := by decide +kernel
theorem dX9_nextParting_84 : decode cX9_nextParting 84 = .ok (.iconst 0, 1) := by decide +kernel
theorem dX9_nextParting_85 : decode cX9_nextParting 85 = .ok (.iastore, 1) := by decide +kernel
theorem dX9_nextParting_86 : decode cX9_nextParting 86 = .ok (.iinc 3 1, 3) := by decide +kernel
theorem dX9_nextParting_89 : decode cX9_nextParting 89 = .ok (.goto (-18), 3) := by decide +kernel
theorem dX9_nextParting_92 : decode cX9_nextParting 92 = .ok (.iconst 1, 1) := by decide +kernel
theorem dX9_nextParting_93 : decode cX9_nextParting 93 = .ok (.ireturn, 1) := by decide +kernel
theorem dX9_nextParting_94 : decode cX9_nextParting 94 = .ok (.iinc 1 (-1), 3) := by decide +kernel
theorem dX9_nextParting_97 : decode cX9_nextParting 97 = .ok (.goto (-90), 3) := by decide +kernel
theorem dX9_nextParting_100 : decode cX9_nextParting 100 = .ok (.iconst 0, 1) := by decide +kernel
theorem dX9_nextParting_101 : decode cX9_nextParting 101 = .ok (.ireturn, 1) := by decide +kernel
theorem dX9_all_0 : decode cX9_all 0 = .ok (.iload_n 1, 1) := by decide +kernel
theorem dX9_all_1 : decode cX9_all 1 = .ok (.i2l, 1) := by decide +kernel
theorem dX9_all_2 : decode cX9_all 2 = .ok (.lconst 0, 1) := by decide +kernel
theorem dX9_all_3 : decode cX9_all 3 = .ok (.ldc2_w 83, 3) := by decide +kernel
theorem dX9_all_6 : decode cX9_all 6 = .ok (.invokestatic 59, 3) := by decide +kernel
theorem dX9_all_9 : decode cX9_all 9 = .ok (.ifCond .ne 6, 3) := by decide +kernel
theorem dX9_all_12 : decode cX9_all 12 = .ok (.bipush (-2), 2) := by decide +kernel
theorem dX9_all_14 : decode cX9_all 14 = .ok (.ireturn, 1) := by decide +kernel
theorem dX9_all_15 : decode cX9_all 15 = .ok (.iload_n 1, 1) := by decide +kernel
theorem dX9_all_16 : decode cX9_all 16 = .ok (.ifCond .ne 16, 3) := by decide +kernel
theorem dX9_all_19 : decode cX9_all 19 = .ok (.aload_n 0, 1) := by decide +kernel
theorem dX9_all_20 : decode cX9_all 20 = .ok (.aload_n 0, 1) := by decide +kernel
theorem dX9_all_21 : decode cX9_all 21 = .ok (.getfield 13, 3) := by decide +kernel
theorem dX9_all_24 : decode cX9_all 24 = .ok (.invokevirtual 115, 3) := by decide +kernel
theorem dX9_all_27 : decode cX9_all 27 = .ok (.aload_n 0, 1) := by decide +kernel
theorem dX9_all_28 : decode cX9_all 28 = .ok (.invokevirtual 118, 3) := by decide +kernel
theorem dX9_all_31 : decode cX9_all 31 = .ok (.ireturn, 1) := by decide +kernel
theorem dX9_all_32 : decode cX9_all 32 = .ok (.iconst 0, 1) := by decide +kernel
theorem dX9_all_33 : decode cX9_all 33 = .ok (.istore_n 2, 1) := by decide +kernel
theorem dX9_all_34 : decode cX9_all 34 = .ok (.iconst 0, 1) := by decide +kernel
theorem dX9_all_35 : decode cX9_all 35 = .ok (.istore_n 3, 1) := by decide +kernel
theorem dX9_all_36 : decode cX9_all 36 = .ok (.aload_n 0, 1) := by decide +kernel
theorem dX9_all_37 : decode cX9_all 37 = .ok (.invokevirtual 121, 3) := by decide +kernel
theorem dX9_all_40 : decode cX9_all 40 = .ok (.iconst 1, 1) := by decide +kernel
theorem dX9_all_41 : decode cX9_all 41 = .ok (.istore 4, 2) := by decide +kernel
theorem dX9_all_43 : decode cX9_all 43 = .ok (.iload 4, 2) := by decide +kernel
theorem dX9_all_45 : decode cX9_all 45 = .ok (.ifCond .eq 40, 3) := by decide +kernel
theorem dX9_all_48 : decode cX9_all 48 = .ok (.aload_n 0, 1) := by decide +kernel
theorem dX9_all_49 : decode cX9_all 49 = .ok (.aload_n 0, 1) := by decide +kernel
theorem dX9_all_50 : decode cX9_all 50 = .ok (.getfield 43, 3) := by decide +kernel
theorem dX9_all_53 : decode cX9_all 53 = .ok (.invokevirtual 115, 3) := by decide +kernel
theorem dX9_all_56 : decode cX9_all 56 = .ok (.aload_n 0, 1) := by decide +kernel
theorem dX9_all_57 : decode cX9_all 57 = .ok (.invokevirtual 118, 3) := by decide +kernel
theorem dX9_all_60 : decode cX9_all 60 = .ok (.iload_n 2, 1) := by decide +kernel
theorem dX9_all_61 : decode cX9_all 61 = .ok (.if_icmp .le 10, 3) := by decide +kernel
theorem dX9_all_64 : decode cX9_all 64 = .ok (.aload_n 0, 1) := by decide +kernel
theorem dX9_all_65 : decode cX9_all 65 = .ok (.invokevirtual 118, 3) := by decide +kernel
theorem dX9_all_68 : decode cX9_all 68 = .ok (.goto 4, 3) := by decide +kernel
theorem dX9_all_71 : decode cX9_all 71 = .ok (.iload_n 2, 1) := by decide +kernel
theorem dX9_all_72 : decode cX9_all 72 = .ok (.istore_n 2, 1) := by decide +kernel
theorem dX9_all_73 : decode cX9_all 73 = .ok (.iinc 3 1, 3) := by decide +kernel
theorem dX9_all_76 : decode cX9_all 76 = .ok (.aload_n 0, 1) := by decide +kernel
theorem dX9_all_77 : decode cX9_all 77 = .ok (.invokevirtual 124, 3) := by decide +kernel
theorem dX9_all_80 : decode cX9_all 80 = .ok (.istore 4, 2) := by decide +kernel
theorem dX9_all_82 : decode cX9_all 82 = .ok (.goto (-39), 3) := by decide +kernel
theorem dX9_all_85 : decode cX9_all 85 = .ok (.iload_n 1, 1) := by decide +kernel
theorem dX9_all_86 : decode cX9_all 86 = .ok (.iconst 1, 1) := by decide +kernel
theorem dX9_all_87 : decode cX9_all 87 = .ok (.if_icmp .ne 7, 3) := by decide +kernel
theorem dX9_all_90 : decode cX9_all 90 = .ok (.iload_n 2, 1) := by decide +kernel
theorem dX9_all_91 : decode cX9_all 91 = .ok (.goto 4, 3) := by decide +kernel
theorem dX9_all_94 : decode cX9_all 94 = .ok (.iload_n 3, 1) := by decide +kernel
theorem dX9_all_95 : decode cX9_all 95 = .ok (.ireturn, 1) := by decide +kernel
theorem dX9_keepGoods_0 : decode cX9_keepGoods 0 = .ok (.aload_n 0, 1) := by decide +kernel
theorem dX9_keepGoods_1 : decode cX9_keepGoods 1 = .ok (.aload_n 1, 1) := by decide +kernel
theorem dX9_keepGoods_2 : decode cX9_keepGoods 2 = .ok (.invokevirtual 115, 3) := by decide +kernel
theorem dX9_keepGoods_5 : decode cX9_keepGoods 5 = .ok (.aload_n 0, 1) := by decide +kernel
theorem dX9_keepGoods_6 : decode cX9_keepGoods 6 = .ok (.aload_n 0, 1) := by decide +kernel
theorem dX9_keepGoods_7 : decode cX9_keepGoods 7 = .ok (.getfield 25, 3) := by decide +kernel
theorem dX9_keepGoods_10 : decode cX9_keepGoods 10 = .ok (.aload_n 0, 1) := by decide +kernel
theorem dX9_keepGoods_11 : decode cX9_keepGoods 11 = .ok (.getfield 46, 3) := by decide +kernel
theorem dX9_keepGoods_14 : decode cX9_keepGoods 14 = .ok (.invokevirtual 128, 3) := by decide +kernel
theorem dX9_keepGoods_17 : decode cX9_keepGoods 17 = .ok (.return_, 1) := by decide +kernel
theorem dX9_gainApart_0 : decode cX9_gainApart 0 = .ok (.aload_n 0, 1) := by decide +kernel
theorem dX9_gainApart_1 : decode cX9_gainApart 1 = .ok (.aload_n 1, 1) := by decide +kernel
theorem dX9_gainApart_2 : decode cX9_gainApart 2 = .ok (.aload_n 0, 1) := by decide +kernel
theorem dX9_gainApart_3 : decode cX9_gainApart 3 = .ok (.getfield 16, 3) := by decide +kernel
theorem dX9_gainApart_6 : decode cX9_gainApart 6 = .ok (.invokevirtual 128, 3) := by decide +kernel
theorem dX9_gainApart_9 : decode cX9_gainApart 9 = .ok (.aload_n 0, 1) := by decide +kernel
theorem dX9_gainApart_10 : decode cX9_gainApart 10 = .ok (.getfield 16, 3) := by decide +kernel
theorem dX9_gainApart_13 : decode cX9_gainApart 13 = .ok (.iload_n 2, 1) := by decide +kernel
theorem dX9_gainApart_14 : decode cX9_gainApart 14 = .ok (.bipush 7, 2) := by decide +kernel
theorem dX9_gainApart_16 : decode cX9_gainApart 16 = .ok (.iastore, 1) := by decide +kernel
theorem dX9_gainApart_17 : decode cX9_gainApart 17 = .ok (.aload_n 0, 1) := by decide +kernel
theorem dX9_gainApart_18 : decode cX9_gainApart 18 = .ok (.aload_n 0, 1) := by decide +kernel
theorem dX9_gainApart_19 : decode cX9_gainApart 19 = .ok (.getfield 16, 3) := by decide +kernel
theorem dX9_gainApart_22 : decode cX9_gainApart 22 = .ok (.invokevirtual 115, 3) := by decide +kernel
theorem dX9_gainApart_25 : decode cX9_gainApart 25 = .ok (.aload_n 0, 1) := by decide +kernel
theorem dX9_gainApart_26 : decode cX9_gainApart 26 = .ok (.getfield 25, 3) := by decide +kernel
theorem dX9_gainApart_29 : decode cX9_gainApart 29 = .ok (.iload_n 2, 1) := by decide +kernel
theorem dX9_gainApart_30 : decode cX9_gainApart 30 = .ok (.iaload, 1) := by decide +kernel
theorem dX9_gainApart_31 : decode cX9_gainApart 31 = .ok (.aload_n 0, 1) := by decide +kernel
theorem dX9_gainApart_32 : decode cX9_gainApart 32 = .ok (.getfield 46, 3) := by decide +kernel
theorem dX9_gainApart_35 : decode cX9_gainApart 35 = .ok (.iload_n 2, 1) := by decide +kernel
theorem dX9_gainApart_36 : decode cX9_gainApart 36 = .ok (.iaload, 1) := by decide +kernel
theorem dX9_gainApart_37 : decode cX9_gainApart 37 = .ok (.isub, 1) := by decide +kernel
theorem dX9_gainApart_38 : decode cX9_gainApart 38 = .ok (.ireturn, 1) := by decide +kernel
theorem dX9_gainIn_0 : decode cX9_gainIn 0 = .ok (.aload_n 0, 1) := by decide +kernel
theorem dX9_gainIn_1 : decode cX9_gainIn 1 = .ok (.aload_n 1, 1) := by decide +kernel
theorem dX9_gainIn_2 : decode cX9_gainIn 2 = .ok (.aload_n 0, 1) := by decide +kernel
theorem dX9_gainIn_3 : decode cX9_gainIn 3 = .ok (.getfield 16, 3) := by decide +kernel
theorem dX9_gainIn_6 : decode cX9_gainIn 6 = .ok (.invokevirtual 128, 3) := by decide +kernel
theorem dX9_gainIn_9 : decode cX9_gainIn 9 = .ok (.aload_n 0, 1) := by decide +kernel
theorem dX9_gainIn_10 : decode cX9_gainIn 10 = .ok (.getfield 16, 3) := by decide +kernel
theorem dX9_gainIn_13 : decode cX9_gainIn 13 = .ok (.iload_n 2, 1) := by decide +kernel
theorem dX9_gainIn_14 : decode cX9_gainIn 14 = .ok (.iload_n 3, 1) := by decide +kernel
theorem dX9_gainIn_15 : decode cX9_gainIn 15 = .ok (.iastore, 1) := by decide +kernel
theorem dX9_gainIn_16 : decode cX9_gainIn 16 = .ok (.aload_n 0, 1) := by decide +kernel
theorem dX9_gainIn_17 : decode cX9_gainIn 17 = .ok (.aload_n 0, 1) := by decide +kernel
theorem dX9_gainIn_18 : decode cX9_gainIn 18 = .ok (.getfield 16, 3) := by decide +kernel
theorem dX9_gainIn_21 : decode cX9_gainIn 21 = .ok (.invokevirtual 115, 3) := by decide +kernel
theorem dX9_gainIn_24 : decode cX9_gainIn 24 = .ok (.iconst 1, 1) := by decide +kernel
theorem dX9_gainIn_25 : decode cX9_gainIn 25 = .ok (.istore 4, 2) := by decide +kernel
theorem dX9_gainIn_27 : decode cX9_gainIn 27 = .ok (.iconst 0, 1) := by decide +kernel
theorem dX9_gainIn_28 : decode cX9_gainIn 28 = .ok (.istore 5, 2) := by decide +kernel
theorem dX9_gainIn_30 : decode cX9_gainIn 30 = .ok (.iload 5, 2) := by decide +kernel
theorem dX9_gainIn_32 : decode cX9_gainIn 32 = .ok (.aload_n 0, 1) := by decide +kernel
theorem dX9_gainIn_33 : decode cX9_gainIn 33 = .ok (.getfield 55, 3) := by decide +kernel
theorem dX9_gainIn_36 : decode cX9_gainIn 36 = .ok (.if_icmp .ge 46, 3) := by decide +kernel
theorem dX9_gainIn_39 : decode cX9_gainIn 39 = .ok (.iload 4, 2) := by decide +kernel
theorem dX9_gainIn_41 : decode cX9_gainIn 41 = .ok (.ifCond .eq 32, 3) := by decide +kernel
theorem dX9_gainIn_44 : decode cX9_gainIn 44 = .ok (.aload_n 1, 1) := by decide +kernel
theorem dX9_gainIn_45 : decode cX9_gainIn 45 = .ok (.iload 5, 2) := by decide +kernel
theorem dX9_gainIn_47 : decode cX9_gainIn 47 = .ok (.iaload, 1) := by decide +kernel
theorem dX9_gainIn_48 : decode cX9_gainIn 48 = .ok (.iload_n 3, 1) := by decide +kernel
theorem dX9_gainIn_49 : decode cX9_gainIn 49 = .ok (.if_icmp .ne 20, 3) := by decide +kernel
theorem dX9_gainIn_52 : decode cX9_gainIn 52 = .ok (.aload_n 0, 1) := by decide +kernel
theorem dX9_gainIn_53 : decode cX9_gainIn 53 = .ok (.getfield 25, 3) := by decide +kernel
theorem dX9_gainIn_56 : decode cX9_gainIn 56 = .ok (.iload 5, 2) := by decide +kernel
theorem dX9_gainIn_58 : decode cX9_gainIn 58 = .ok (.iaload, 1) := by decide +kernel
theorem dX9_gainIn_59 : decode cX9_gainIn 59 = .ok (.aload_n 0, 1) := by decide +kernel
theorem dX9_gainIn_60 : decode cX9_gainIn 60 = .ok (.getfield 46, 3) := by decide +kernel
theorem dX9_gainIn_63 : decode cX9_gainIn 63 = .ok (.iload 5, 2) := by decide +kernel
theorem dX9_gainIn_65 : decode cX9_gainIn 65 = .ok (.iaload, 1) := by decide +kernel
theorem dX9_gainIn_66 : decode cX9_gainIn 66 = .ok (.if_icmp .lt 7, 3) := by decide +kernel
theorem dX9_gainIn_69 : decode cX9_gainIn 69 = .ok (.iconst 1, 1) := by decide +kernel
theorem dX9_gainIn_70 : decode cX9_gainIn 70 = .ok (.goto 4, 3) := by decide +kernel
theorem dX9_gainIn_73 : decode cX9_gainIn 73 = .ok (.iconst 0, 1) := by decide +kernel
theorem dX9_gainIn_74 : decode cX9_gainIn 74 = .ok (.istore 4, 2) := by decide +kernel
theorem dX9_gainIn_76 : decode cX9_gainIn 76 = .ok (.iinc 5 1, 3) := by decide +kernel
theorem dX9_gainIn_79 : decode cX9_gainIn 79 = .ok (.goto (-49), 3) := by decide +kernel
theorem dX9_gainIn_82 : decode cX9_gainIn 82 = .ok (.iload 4, 2) := by decide +kernel
theorem dX9_gainIn_84 : decode cX9_gainIn 84 = .ok (.ifCond .eq 19, 3) := by decide +kernel
theorem dX9_gainIn_87 : decode cX9_gainIn 87 = .ok (.aload_n 0, 1) := by decide +kernel
theorem dX9_gainIn_88 : decode cX9_gainIn 88 = .ok (.getfield 25, 3) := by decide +kernel
theorem dX9_gainIn_91 : decode cX9_gainIn 91 = .ok (.iload_n 2, 1) := by decide +kernel
theorem dX9_gainIn_92 : decode cX9_gainIn 92 = .ok (.iaload, 1) := by decide +kernel
theorem dX9_gainIn_93 : decode cX9_gainIn 93 = .ok (.aload_n 0, 1) := by decide +kernel
theorem dX9_gainIn_94 : decode cX9_gainIn 94 = .ok (.getfield 46, 3) := by decide +kernel
theorem dX9_gainIn_97 : decode cX9_gainIn 97 = .ok (.iload_n 2, 1) := by decide +kernel
theorem dX9_gainIn_98 : decode cX9_gainIn 98 = .ok (.iaload, 1) := by decide +kernel
theorem dX9_gainIn_99 : decode cX9_gainIn 99 = .ok (.isub, 1) := by decide +kernel
theorem dX9_gainIn_100 : decode cX9_gainIn 100 = .ok (.goto 4, 3) := by decide +kernel
theorem dX9_gainIn_103 : decode cX9_gainIn 103 = .ok (.iconst 0, 1) := by decide +kernel
theorem dX9_gainIn_104 : decode cX9_gainIn 104 = .ok (.ireturn, 1) := by decide +kernel
theorem dX9_leaver_0 : decode cX9_leaver 0 = .ok (.iconst 0, 1) := by decide +kernel
theorem dX9_leaver_1 : decode cX9_leaver 1 = .ok (.istore_n 2, 1) := by decide +kernel
theorem dX9_leaver_2 : decode cX9_leaver 2 = .ok (.iload_n 2, 1) := by decide +kernel
theorem dX9_leaver_3 : decode cX9_leaver 3 = .ok (.aload_n 0, 1) := by decide +kernel
theorem dX9_leaver_4 : decode cX9_leaver 4 = .ok (.getfield 55, 3) := by decide +kernel
theorem dX9_leaver_7 : decode cX9_leaver 7 = .ok (.if_icmp .ge 20, 3) := by decide +kernel
theorem dX9_leaver_10 : decode cX9_leaver 10 = .ok (.aload_n 0, 1) := by decide +kernel
theorem dX9_leaver_11 : decode cX9_leaver 11 = .ok (.aload_n 1, 1) := by decide +kernel
theorem dX9_leaver_12 : decode cX9_leaver 12 = .ok (.iload_n 2, 1) := by decide +kernel
theorem dX9_leaver_13 : decode cX9_leaver 13 = .ok (.invokevirtual 132, 3) := by decide +kernel
theorem dX9_leaver_16 : decode cX9_leaver 16 = .ok (.ifCond .le 5, 3) := by decide +kernel
theorem dX9_leaver_19 : decode cX9_leaver 19 = .ok (.iload_n 2, 1) := by decide +kernel
theorem dX9_leaver_20 : decode cX9_leaver 20 = .ok (.ireturn, 1) := by decide +kernel
theorem dX9_leaver_21 : decode cX9_leaver 21 = .ok (.iinc 2 1, 3) := by decide +kernel
theorem dX9_leaver_24 : decode cX9_leaver 24 = .ok (.goto (-22), 3) := by decide +kernel
theorem dX9_leaver_27 : decode cX9_leaver 27 = .ok (.bipush (-6), 2) := by decide +kernel
theorem dX9_leaver_29 : decode cX9_leaver 29 = .ok (.ireturn, 1) := by decide +kernel
theorem dX9_joiner_0 : decode cX9_joiner 0 = .ok (.aload_n 0, 1) := by decide +kernel
theorem dX9_joiner_1 : decode cX9_joiner 1 = .ok (.aload_n 1, 1) := by decide +kernel
theorem dX9_joiner_2 : decode cX9_joiner 2 = .ok (.invokevirtual 73, 3) := by decide +kernel
theorem dX9_joiner_5 : decode cX9_joiner 5 = .ok (.istore_n 2, 1) := by decide +kernel
theorem dX9_joiner_6 : decode cX9_joiner 6 = .ok (.iconst 0, 1) := by decide +kernel
theorem dX9_joiner_7 : decode cX9_joiner 7 = .ok (.istore_n 3, 1) := by decide +kernel
theorem dX9_joiner_8 : decode cX9_joiner 8 = .ok (.iload_n 3, 1) := by decide +kernel
theorem dX9_joiner_9 : decode cX9_joiner 9 = .ok (.aload_n 0, 1) := by decide +kernel
theorem dX9_joiner_10 : decode cX9_joiner 10 = .ok (.getfield 55, 3) := by decide +kernel
theorem dX9_joiner_13 : decode cX9_joiner 13 = .ok (.if_icmp .ge 54, 3) := by decide +kernel
theorem dX9_joiner_16 : decode cX9_joiner 16 = .ok (.iconst 0, 1) := by decide +kernel
theorem dX9_joiner_17 : decode cX9_joiner 17 = .ok (.istore 4, 2) := by decide +kernel
theorem dX9_joiner_19 : decode cX9_joiner 19 = .ok (.iload 4, 2) := by decide +kernel
theorem dX9_joiner_21 : decode cX9_joiner 21 = .ok (.iload_n 2, 1) := by decide +kernel
theorem dX9_joiner_22 : decode cX9_joiner 22 = .ok (.if_icmp .ge 39, 3) := by decide +kernel
theorem dX9_joiner_25 : decode cX9_joiner 25 = .ok (.iload 4, 2) := by decide +kernel
theorem dX9_joiner_27 : decode cX9_joiner 27 = .ok (.aload_n 1, 1) := by decide +kernel
theorem dX9_joiner_28 : decode cX9_joiner 28 = .ok (.iload_n 3, 1) := by decide +kernel
theorem dX9_joiner_29 : decode cX9_joiner 29 = .ok (.iaload, 1) := by decide +kernel
theorem dX9_joiner_30 : decode cX9_joiner 30 = .ok (.if_icmp .eq 25, 3) := by decide +kernel
theorem dX9_joiner_33 : decode cX9_joiner 33 = .ok (.aload_n 0, 1) := by decide +kernel
theorem dX9_joiner_34 : decode cX9_joiner 34 = .ok (.aload_n 1, 1) := by decide +kernel
theorem dX9_joiner_35 : decode cX9_joiner 35 = .ok (.iload_n 3, 1) := by decide +kernel
theorem dX9_joiner_36 : decode cX9_joiner 36 = .ok (.iload 4, 2) := by decide +kernel
theorem dX9_joiner_38 : decode cX9_joiner 38 = .ok (.invokevirtual 135, 3) := by decide +kernel
theorem dX9_joiner_41 : decode cX9_joiner 41 = .ok (.ifCond .le 14, 3) := by decide +kernel
theorem dX9_joiner_44 : decode cX9_joiner 44 = .ok (.bipush 100, 2) := by decide +kernel
theorem dX9_joiner_46 : decode cX9_joiner 46 = .ok (.bipush 10, 2) := by decide +kernel
theorem dX9_joiner_48 : decode cX9_joiner 48 = .ok (.iload_n 3, 1) := by decide +kernel
theorem dX9_joiner_49 : decode cX9_joiner 49 = .ok (.imul, 1) := by decide +kernel
theorem dX9_joiner_50 : decode cX9_joiner 50 = .ok (.iadd, 1) := by decide +kernel
theorem dX9_joiner_51 : decode cX9_joiner 51 = .ok (.iload 4, 2) := by decide +kernel
theorem dX9_joiner_53 : decode cX9_joiner 53 = .ok (.iadd, 1) := by decide +kernel
theorem dX9_joiner_54 : decode cX9_joiner 54 = .ok (.ireturn, 1) := by decide +kernel
theorem dX9_joiner_55 : decode cX9_joiner 55 = .ok (.iinc 4 1, 3) := by decide +kernel
theorem dX9_joiner_58 : decode cX9_joiner 58 = .ok (.goto (-39), 3) := by decide +kernel
theorem dX9_joiner_61 : decode cX9_joiner 61 = .ok (.iinc 3 1, 3) := by decide +kernel
theorem dX9_joiner_64 : decode cX9_joiner 64 = .ok (.goto (-56), 3) := by decide +kernel
theorem dX9_joiner_67 : decode cX9_joiner 67 = .ok (.bipush (-6), 2) := by decide +kernel
theorem dX9_joiner_69 : decode cX9_joiner 69 = .ok (.ireturn, 1) := by decide +kernel
theorem dX9_isUnion_0 : decode cX9_isUnion 0 = .ok (.iconst 0, 1) := by decide +kernel
theorem dX9_isUnion_1 : decode cX9_isUnion 1 = .ok (.istore_n 3, 1) := by decide +kernel
theorem dX9_isUnion_2 : decode cX9_isUnion 2 = .ok (.iload_n 2, 1) := by decide +kernel
theorem dX9_isUnion_3 : decode cX9_isUnion 3 = .ok (.iload_n 3, 1) := by decide +kernel
theorem dX9_isUnion_4 : decode cX9_isUnion 4 = .ok (.ishr, 1) := by decide +kernel
theorem dX9_isUnion_5 : decode cX9_isUnion 5 = .ok (.iconst 1, 1) := by decide +kernel
theorem dX9_isUnion_6 : decode cX9_isUnion 6 = .ok (.iand, 1) := by decide +kernel
theorem dX9_isUnion_7 : decode cX9_isUnion 7 = .ok (.ifCond .ne 9, 3) := by decide +kernel
theorem dX9_isUnion_10 : decode cX9_isUnion 10 = .ok (.iinc 3 1, 3) := by decide +kernel
theorem dX9_isUnion_13 : decode cX9_isUnion 13 = .ok (.goto (-11), 3) := by decide +kernel
theorem dX9_isUnion_16 : decode cX9_isUnion 16 = .ok (.iconst 1, 1) := by decide +kernel
theorem dX9_isUnion_17 : decode cX9_isUnion 17 = .ok (.istore 4, 2) := by decide +kernel
theorem dX9_isUnion_19 : decode cX9_isUnion 19 = .ok (.iconst 0, 1) := by decide +kernel
theorem dX9_isUnion_20 : decode cX9_isUnion 20 = .ok (.istore 5, 2) := by decide +kernel
theorem dX9_isUnion_22 : decode cX9_isUnion 22 = .ok (.iload 5, 2) := by decide +kernel
theorem dX9_isUnion_24 : decode cX9_isUnion 24 = .ok (.aload_n 0, 1) := by decide +kernel
theorem dX9_isUnion_25 : decode cX9_isUnion 25 = .ok (.getfield 55, 3) := by decide +kernel
theorem dX9_isUnion_28 : decode cX9_isUnion 28 = .ok (.if_icmp .ge 54, 3) := by decide +kernel
theorem dX9_isUnion_31 : decode cX9_isUnion 31 = .ok (.iload 4, 2) := by decide +kernel
theorem dX9_isUnion_33 : decode cX9_isUnion 33 = .ok (.ifCond .eq 40, 3) := by decide +kernel
theorem dX9_isUnion_36 : decode cX9_isUnion 36 = .ok (.iload_n 2, 1) := by decide +kernel
theorem dX9_isUnion_37 : decode cX9_isUnion 37 = .ok (.iload 5, 2) := by decide +kernel
theorem dX9_isUnion_39 : decode cX9_isUnion 39 = .ok (.ishr, 1) := by decide +kernel
theorem dX9_isUnion_40 : decode cX9_isUnion 40 = .ok (.iconst 1, 1) := by decide +kernel
theorem dX9_isUnion_41 : decode cX9_isUnion 41 = .ok (.iand, 1) := by decide +kernel
theorem dX9_isUnion_42 : decode cX9_isUnion 42 = .ok (.iconst 1, 1) := by decide +kernel
theorem dX9_isUnion_43 : decode cX9_isUnion 43 = .ok (.if_icmp .ne 7, 3) := by decide +kernel
theorem dX9_isUnion_46 : decode cX9_isUnion 46 = .ok (.iconst 1, 1) := by decide +kernel
theorem dX9_isUnion_47 : decode cX9_isUnion 47 = .ok (.goto 4, 3) := by decide +kernel
theorem dX9_isUnion_50 : decode cX9_isUnion 50 = .ok (.iconst 0, 1) := by decide +kernel
theorem dX9_isUnion_51 : decode cX9_isUnion 51 = .ok (.aload_n 1, 1) := by decide +kernel
theorem dX9_isUnion_52 : decode cX9_isUnion 52 = .ok (.iload 5, 2) := by decide +kernel
theorem dX9_isUnion_54 : decode cX9_isUnion 54 = .ok (.iaload, 1) := by decide +kernel
theorem dX9_isUnion_55 : decode cX9_isUnion 55 = .ok (.aload_n 1, 1) := by decide +kernel
theorem dX9_isUnion_56 : decode cX9_isUnion 56 = .ok (.iload_n 3, 1) := by decide +kernel
theorem dX9_isUnion_57 : decode cX9_isUnion 57 = .ok (.iaload, 1) := by decide +kernel
theorem dX9_isUnion_58 : decode cX9_isUnion 58 = .ok (.if_icmp .ne 7, 3) := by decide +kernel
theorem dX9_isUnion_61 : decode cX9_isUnion 61 = .ok (.iconst 1, 1) := by decide +kernel
theorem dX9_isUnion_62 : decode cX9_isUnion 62 = .ok (.goto 4, 3) := by decide +kernel
theorem dX9_isUnion_65 : decode cX9_isUnion 65 = .ok (.iconst 0, 1) := by decide +kernel
theorem dX9_isUnion_66 : decode cX9_isUnion 66 = .ok (.if_icmp .ne 7, 3) := by decide +kernel
theorem dX9_isUnion_69 : decode cX9_isUnion 69 = .ok (.iconst 1, 1) := by decide +kernel
theorem dX9_isUnion_70 : decode cX9_isUnion 70 = .ok (.goto 4, 3) := by decide +kernel
theorem dX9_isUnion_73 : decode cX9_isUnion 73 = .ok (.iconst 0, 1) := by decide +kernel
theorem dX9_isUnion_74 : decode cX9_isUnion 74 = .ok (.istore 4, 2) := by decide +kernel
theorem dX9_isUnion_76 : decode cX9_isUnion 76 = .ok (.iinc 5 1, 3) := by decide +kernel
theorem dX9_isUnion_79 : decode cX9_isUnion 79 = .ok (.goto (-57), 3) := by decide +kernel
theorem dX9_isUnion_82 : decode cX9_isUnion 82 = .ok (.iload 4, 2) := by decide +kernel
theorem dX9_isUnion_84 : decode cX9_isUnion 84 = .ok (.ireturn, 1) := by decide +kernel
theorem dX9_isBetter_0 : decode cX9_isBetter 0 = .ok (.aload_n 0, 1) := by decide +kernel
theorem dX9_isBetter_1 : decode cX9_isBetter 1 = .ok (.aload_n 1, 1) := by decide +kernel
theorem dX9_isBetter_2 : decode cX9_isBetter 2 = .ok (.iload_n 2, 1) := by decide +kernel
theorem dX9_isBetter_3 : decode cX9_isBetter 3 = .ok (.invokevirtual 139, 3) := by decide +kernel
theorem dX9_isBetter_6 : decode cX9_isBetter 6 = .ok (.ifCond .eq 5, 3) := by decide +kernel
theorem dX9_isBetter_9 : decode cX9_isBetter 9 = .ok (.iconst 0, 1) := by decide +kernel
theorem dX9_isBetter_10 : decode cX9_isBetter 10 = .ok (.ireturn, 1) := by decide +kernel
theorem dX9_isBetter_11 : decode cX9_isBetter 11 = .ok (.aload_n 0, 1) := by decide +kernel
theorem dX9_isBetter_12 : decode cX9_isBetter 12 = .ok (.aload_n 1, 1) := by decide +kernel
theorem dX9_isBetter_13 : decode cX9_isBetter 13 = .ok (.aload_n 0, 1) := by decide +kernel
theorem dX9_isBetter_14 : decode cX9_isBetter 14 = .ok (.getfield 16, 3) := by decide +kernel
theorem dX9_isBetter_17 : decode cX9_isBetter 17 = .ok (.invokevirtual 128, 3) := by decide +kernel
theorem dX9_isBetter_20 : decode cX9_isBetter 20 = .ok (.iconst 0, 1) := by decide +kernel
theorem dX9_isBetter_21 : decode cX9_isBetter 21 = .ok (.istore_n 3, 1) := by decide +kernel
theorem dX9_isBetter_22 : decode cX9_isBetter 22 = .ok (.iload_n 3, 1) := by decide +kernel
theorem dX9_isBetter_23 : decode cX9_isBetter 23 = .ok (.aload_n 0, 1) := by decide +kernel
theorem dX9_isBetter_24 : decode cX9_isBetter 24 = .ok (.getfield 55, 3) := by decide +kernel
theorem dX9_isBetter_27 : decode cX9_isBetter 27 = .ok (.if_icmp .ge 35, 3) := by decide +kernel
theorem dX9_isBetter_30 : decode cX9_isBetter 30 = .ok (.aload_n 0, 1) := by decide +kernel
theorem dX9_isBetter_31 : decode cX9_isBetter 31 = .ok (.getfield 16, 3) := by decide +kernel
theorem dX9_isBetter_34 : decode cX9_isBetter 34 = .ok (.iload_n 3, 1) := by decide +kernel
theorem dX9_isBetter_35 : decode cX9_isBetter 35 = .ok (.iload_n 2, 1) := by decide +kernel
theorem dX9_isBetter_36 : decode cX9_isBetter 36 = .ok (.iload_n 3, 1) := by decide +kernel
theorem dX9_isBetter_37 : decode cX9_isBetter 37 = .ok (.ishr, 1) := by decide +kernel
theorem dX9_isBetter_38 : decode cX9_isBetter 38 = .ok (.iconst 1, 1) := by decide +kernel
theorem dX9_isBetter_39 : decode cX9_isBetter 39 = .ok (.iand, 1) := by decide +kernel
theorem dX9_isBetter_40 : decode cX9_isBetter 40 = .ok (.iconst 1, 1) := by decide +kernel
theorem dX9_isBetter_41 : decode cX9_isBetter 41 = .ok (.if_icmp .ne 8, 3) := by decide +kernel
theorem dX9_isBetter_44 : decode cX9_isBetter 44 = .ok (.bipush 7, 2) := by decide +kernel
theorem dX9_isBetter_46 : decode cX9_isBetter 46 = .ok (.goto 9, 3) := by decide +kernel
theorem dX9_isBetter_49 : decode cX9_isBetter 49 = .ok (.aload_n 0, 1) := by decide +kernel
theorem dX9_isBetter_50 : decode cX9_isBetter 50 = .ok (.getfield 16, 3) := by decide +kernel
theorem dX9_isBetter_53 : decode cX9_isBetter 53 = .ok (.iload_n 3, 1) := by decide +kernel
theorem dX9_isBetter_54 : decode cX9_isBetter 54 = .ok (.iaload, 1) := by decide +kernel
theorem dX9_isBetter_55 : decode cX9_isBetter 55 = .ok (.iastore, 1) := by decide +kernel
theorem dX9_isBetter_56 : decode cX9_isBetter 56 = .ok (.iinc 3 1, 3) := by decide +kernel
theorem dX9_isBetter_59 : decode cX9_isBetter 59 = .ok (.goto (-37), 3) := by decide +kernel
theorem dX9_isBetter_62 : decode cX9_isBetter 62 = .ok (.aload_n 0, 1) := by decide +kernel
theorem dX9_isBetter_63 : decode cX9_isBetter 63 = .ok (.aload_n 0, 1) := by decide +kernel
theorem dX9_isBetter_64 : decode cX9_isBetter 64 = .ok (.getfield 16, 3) := by decide +kernel
theorem dX9_isBetter_67 : decode cX9_isBetter 67 = .ok (.invokevirtual 115, 3) := by decide +kernel
theorem dX9_isBetter_70 : decode cX9_isBetter 70 = .ok (.iconst 1, 1) := by decide +kernel
theorem dX9_isBetter_71 : decode cX9_isBetter 71 = .ok (.istore_n 3, 1) := by decide +kernel
theorem dX9_isBetter_72 : decode cX9_isBetter 72 = .ok (.iconst 0, 1) := by decide +kernel
theorem dX9_isBetter_73 : decode cX9_isBetter 73 = .ok (.istore 4, 2) := by decide +kernel
theorem dX9_isBetter_75 : decode cX9_isBetter 75 = .ok (.iload 4, 2) := by decide +kernel
theorem dX9_isBetter_77 : decode cX9_isBetter 77 = .ok (.aload_n 0, 1) := by decide +kernel
theorem dX9_isBetter_78 : decode cX9_isBetter 78 = .ok (.getfield 55, 3) := by decide +kernel
theorem dX9_isBetter_81 : decode cX9_isBetter 81 = .ok (.if_icmp .ge 45, 3) := by decide +kernel
theorem dX9_isBetter_84 : decode cX9_isBetter 84 = .ok (.iload_n 3, 1) := by decide +kernel
theorem dX9_isBetter_85 : decode cX9_isBetter 85 = .ok (.ifCond .eq 33, 3) := by decide +kernel
theorem dX9_isBetter_88 : decode cX9_isBetter 88 = .ok (.iload_n 2, 1) := by decide +kernel
theorem dX9_isBetter_89 : decode cX9_isBetter 89 = .ok (.iload 4, 2) := by decide +kernel
theorem dX9_isBetter_91 : decode cX9_isBetter 91 = .ok (.ishr, 1) := by decide +kernel
theorem dX9_isBetter_92 : decode cX9_isBetter 92 = .ok (.iconst 1, 1) := by decide +kernel
theorem dX9_isBetter_93 : decode cX9_isBetter 93 = .ok (.iand, 1) := by decide +kernel
theorem dX9_isBetter_94 : decode cX9_isBetter 94 = .ok (.ifCond .eq 20, 3) := by decide +kernel
theorem dX9_isBetter_97 : decode cX9_isBetter 97 = .ok (.aload_n 0, 1) := by decide +kernel
theorem dX9_isBetter_98 : decode cX9_isBetter 98 = .ok (.getfield 25, 3) := by decide +kernel
theorem dX9_isBetter_101 : decode cX9_isBetter 101 = .ok (.iload 4, 2) := by decide +kernel
theorem dX9_isBetter_103 : decode cX9_isBetter 103 = .ok (.iaload, 1) := by decide +kernel
theorem dX9_isBetter_104 : decode cX9_isBetter 104 = .ok (.aload_n 0, 1) := by decide +kernel
theorem dX9_isBetter_105 : decode cX9_isBetter 105 = .ok (.getfield 46, 3) := by decide +kernel
theorem dX9_isBetter_108 : decode cX9_isBetter 108 = .ok (.iload 4, 2) := by decide +kernel
theorem dX9_isBetter_110 : decode cX9_isBetter 110 = .ok (.iaload, 1) := by decide +kernel
theorem dX9_isBetter_111 : decode cX9_isBetter 111 = .ok (.if_icmp .le 7, 3) := by decide +kernel
theorem dX9_isBetter_114 : decode cX9_isBetter 114 = .ok (.iconst 1, 1) := by decide +kernel
theorem dX9_isBetter_115 : decode cX9_isBetter 115 = .ok (.goto 4, 3) := by decide +kernel
theorem dX9_isBetter_118 : decode cX9_isBetter 118 = .ok (.iconst 0, 1) := by decide +kernel
theorem dX9_isBetter_119 : decode cX9_isBetter 119 = .ok (.istore_n 3, 1) := by decide +kernel
theorem dX9_isBetter_120 : decode cX9_isBetter 120 = .ok (.iinc 4 1, 3) := by decide +kernel
theorem dX9_isBetter_123 : decode cX9_isBetter 123 = .ok (.goto (-48), 3) := by decide +kernel
theorem dX9_isBetter_126 : decode cX9_isBetter 126 = .ok (.iload_n 3, 1) := by decide +kernel
theorem dX9_isBetter_127 : decode cX9_isBetter 127 = .ok (.ireturn, 1) := by decide +kernel
theorem dX9_breakerOf_0 : decode cX9_breakerOf 0 = .ok (.aload_n 0, 1) := by decide +kernel
theorem dX9_breakerOf_1 : decode cX9_breakerOf 1 = .ok (.aload_n 1, 1) := by decide +kernel
theorem dX9_breakerOf_2 : decode cX9_breakerOf 2 = .ok (.invokevirtual 143, 3) := by decide +kernel
theorem dX9_breakerOf_5 : decode cX9_breakerOf 5 = .ok (.iload_n 2, 1) := by decide +kernel
theorem dX9_breakerOf_6 : decode cX9_breakerOf 6 = .ok (.iconst 1, 1) := by decide +kernel
theorem dX9_breakerOf_7 : decode cX9_breakerOf 7 = .ok (.if_icmp .le 39, 3) := by decide +kernel
theorem dX9_breakerOf_10 : decode cX9_breakerOf 10 = .ok (.iconst 1, 1) := by decide +kernel
theorem dX9_breakerOf_11 : decode cX9_breakerOf 11 = .ok (.istore_n 3, 1) := by decide +kernel
theorem dX9_breakerOf_12 : decode cX9_breakerOf 12 = .ok (.iload_n 3, 1) := by decide +kernel
theorem dX9_breakerOf_13 : decode cX9_breakerOf 13 = .ok (.iconst 1, 1) := by decide +kernel
theorem dX9_breakerOf_14 : decode cX9_breakerOf 14 = .ok (.aload_n 0, 1) := by decide +kernel
theorem dX9_breakerOf_15 : decode cX9_breakerOf 15 = .ok (.getfield 55, 3) := by decide +kernel
theorem dX9_breakerOf_18 : decode cX9_breakerOf 18 = .ok (.ishl, 1) := by decide +kernel
theorem dX9_breakerOf_19 : decode cX9_breakerOf 19 = .ok (.if_icmp .ge 24, 3) := by decide +kernel
theorem dX9_breakerOf_22 : decode cX9_breakerOf 22 = .ok (.aload_n 0, 1) := by decide +kernel
theorem dX9_breakerOf_23 : decode cX9_breakerOf 23 = .ok (.aload_n 1, 1) := by decide +kernel
theorem dX9_breakerOf_24 : decode cX9_breakerOf 24 = .ok (.iload_n 3, 1) := by decide +kernel
theorem dX9_breakerOf_25 : decode cX9_breakerOf 25 = .ok (.invokevirtual 146, 3) := by decide +kernel
theorem dX9_breakerOf_28 : decode cX9_breakerOf 28 = .ok (.ifCond .eq 9, 3) := by decide +kernel
theorem dX9_breakerOf_31 : decode cX9_breakerOf 31 = .ok (.sipush 1000, 3) := by decide +kernel
theorem dX9_breakerOf_34 : decode cX9_breakerOf 34 = .ok (.iload_n 3, 1) := by decide +kernel
theorem dX9_breakerOf_35 : decode cX9_breakerOf 35 = .ok (.iadd, 1) := by decide +kernel
theorem dX9_breakerOf_36 : decode cX9_breakerOf 36 = .ok (.ireturn, 1) := by decide +kernel
theorem dX9_breakerOf_37 : decode cX9_breakerOf 37 = .ok (.iinc 3 1, 3) := by decide +kernel
theorem dX9_breakerOf_40 : decode cX9_breakerOf 40 = .ok (.goto (-28), 3) := by decide +kernel
theorem dX9_breakerOf_43 : decode cX9_breakerOf 43 = .ok (.bipush (-6), 2) := by decide +kernel
theorem dX9_breakerOf_45 : decode cX9_breakerOf 45 = .ok (.ireturn, 1) := by decide +kernel
theorem dX9_breakerOf_46 : decode cX9_breakerOf 46 = .ok (.aload_n 0, 1) := by decide +kernel
theorem dX9_breakerOf_47 : decode cX9_breakerOf 47 = .ok (.aload_n 1, 1) := by decide +kernel
theorem dX9_breakerOf_48 : decode cX9_breakerOf 48 = .ok (.invokevirtual 149, 3) := by decide +kernel
theorem dX9_breakerOf_51 : decode cX9_breakerOf 51 = .ok (.istore_n 3, 1) := by decide +kernel
theorem dX9_breakerOf_52 : decode cX9_breakerOf 52 = .ok (.iload_n 3, 1) := by decide +kernel
theorem dX9_breakerOf_53 : decode cX9_breakerOf 53 = .ok (.ifCond .ge 7, 3) := by decide +kernel
theorem dX9_breakerOf_56 : decode cX9_breakerOf 56 = .ok (.iload_n 2, 1) := by decide +kernel
theorem dX9_breakerOf_57 : decode cX9_breakerOf 57 = .ok (.ifCond .ne 7, 3) := by decide +kernel
theorem dX9_breakerOf_60 : decode cX9_breakerOf 60 = .ok (.iload_n 3, 1) := by decide +kernel
theorem dX9_breakerOf_61 : decode cX9_breakerOf 61 = .ok (.goto 8, 3) := by decide +kernel
theorem dX9_breakerOf_64 : decode cX9_breakerOf 64 = .ok (.aload_n 0, 1) := by decide +kernel
theorem dX9_breakerOf_65 : decode cX9_breakerOf 65 = .ok (.aload_n 1, 1) := by decide +kernel
theorem dX9_breakerOf_66 : decode cX9_breakerOf 66 = .ok (.invokevirtual 152, 3) := by decide +kernel
theorem dX9_breakerOf_69 : decode cX9_breakerOf 69 = .ok (.ireturn, 1) := by decide +kernel
theorem dX9_breaks_0 : decode cX9_breaks 0 = .ok (.iload_n 1, 1) := by decide +kernel
theorem dX9_breaks_1 : decode cX9_breaks 1 = .ok (.i2l, 1) := by decide +kernel
theorem dX9_breaks_2 : decode cX9_breaks 2 = .ok (.lconst 0, 1) := by decide +kernel
theorem dX9_breaks_3 : decode cX9_breaks 3 = .ok (.ldc2_w 83, 3) := by decide +kernel
theorem dX9_breaks_6 : decode cX9_breaks 6 = .ok (.invokestatic 59, 3) := by decide +kernel
theorem dX9_breaks_9 : decode cX9_breaks 9 = .ok (.ifCond .eq 15, 3) := by decide +kernel
theorem dX9_breaks_12 : decode cX9_breaks 12 = .ok (.aload_n 0, 1) := by decide +kernel
theorem dX9_breaks_13 : decode cX9_breaks 13 = .ok (.aload_n 0, 1) := by decide +kernel
theorem dX9_breaks_14 : decode cX9_breaks 14 = .ok (.getfield 13, 3) := by decide +kernel
theorem dX9_breaks_17 : decode cX9_breaks 17 = .ok (.iload_n 1, 1) := by decide +kernel
theorem dX9_breaks_18 : decode cX9_breaks 18 = .ok (.invokevirtual 155, 3) := by decide +kernel
theorem dX9_breaks_21 : decode cX9_breaks 21 = .ok (.goto 5, 3) := by decide +kernel
theorem dX9_breaks_24 : decode cX9_breaks 24 = .ok (.bipush (-2), 2) := by decide +kernel
theorem dX9_breaks_26 : decode cX9_breaks 26 = .ok (.ireturn, 1) := by decide +kernel
theorem dX9_rests_0 : decode cX9_rests 0 = .ok (.iload_n 2, 1) := by decide +kernel
theorem dX9_rests_1 : decode cX9_rests 1 = .ok (.iconst (-1), 1) := by decide +kernel
theorem dX9_rests_2 : decode cX9_rests 2 = .ok (.if_icmp .eq 13, 3) := by decide +kernel
theorem dX9_rests_5 : decode cX9_rests 5 = .ok (.aload_n 0, 1) := by decide +kernel
theorem dX9_rests_6 : decode cX9_rests 6 = .ok (.iload_n 3, 1) := by decide +kernel
theorem dX9_rests_7 : decode cX9_rests 7 = .ok (.invokevirtual 77, 3) := by decide +kernel
theorem dX9_rests_10 : decode cX9_rests 10 = .ok (.ifCond .ne 5, 3) := by decide +kernel
theorem dX9_rests_13 : decode cX9_rests 13 = .ok (.iconst (-1), 1) := by decide +kernel
theorem dX9_rests_14 : decode cX9_rests 14 = .ok (.ireturn, 1) := by decide +kernel
theorem dX9_rests_15 : decode cX9_rests 15 = .ok (.iload_n 1, 1) := by decide +kernel
theorem dX9_rests_16 : decode cX9_rests 16 = .ok (.i2l, 1) := by decide +kernel
theorem dX9_rests_17 : decode cX9_rests 17 = .ok (.lconst 0, 1) := by decide +kernel
theorem dX9_rests_18 : decode cX9_rests 18 = .ok (.ldc2_w 83, 3) := by decide +kernel
theorem dX9_rests_21 : decode cX9_rests 21 = .ok (.invokestatic 59, 3) := by decide +kernel
theorem dX9_rests_24 : decode cX9_rests 24 = .ok (.ifCond .ne 6, 3) := by decide +kernel
theorem dX9_rests_27 : decode cX9_rests 27 = .ok (.bipush (-2), 2) := by decide +kernel
theorem dX9_rests_29 : decode cX9_rests 29 = .ok (.ireturn, 1) := by decide +kernel
theorem dX9_rests_30 : decode cX9_rests 30 = .ok (.iconst 0, 1) := by decide +kernel
theorem dX9_rests_31 : decode cX9_rests 31 = .ok (.istore 4, 2) := by decide +kernel
theorem dX9_rests_33 : decode cX9_rests 33 = .ok (.aload_n 0, 1) := by decide +kernel
theorem dX9_rests_34 : decode cX9_rests 34 = .ok (.invokevirtual 121, 3) := by decide +kernel
theorem dX9_rests_37 : decode cX9_rests 37 = .ok (.iconst 1, 1) := by decide +kernel
theorem dX9_rests_38 : decode cX9_rests 38 = .ok (.istore 5, 2) := by decide +kernel
theorem dX9_rests_40 : decode cX9_rests 40 = .ok (.iload 5, 2) := by decide +kernel
theorem dX9_rests_42 : decode cX9_rests 42 = .ok (.ifCond .eq 40, 3) := by decide +kernel
theorem dX9_rests_45 : decode cX9_rests 45 = .ok (.aload_n 0, 1) := by decide +kernel
theorem dX9_rests_46 : decode cX9_rests 46 = .ok (.aload_n 0, 1) := by decide +kernel
theorem dX9_rests_47 : decode cX9_rests 47 = .ok (.getfield 43, 3) := by decide +kernel
theorem dX9_rests_50 : decode cX9_rests 50 = .ok (.iload_n 1, 1) := by decide +kernel
theorem dX9_rests_51 : decode cX9_rests 51 = .ok (.invokevirtual 155, 3) := by decide +kernel
theorem dX9_rests_54 : decode cX9_rests 54 = .ok (.ifCond .ge 19, 3) := by decide +kernel
theorem dX9_rests_57 : decode cX9_rests 57 = .ok (.iload 4, 2) := by decide +kernel
theorem dX9_rests_59 : decode cX9_rests 59 = .ok (.iload_n 2, 1) := by decide +kernel
theorem dX9_rests_60 : decode cX9_rests 60 = .ok (.if_icmp .ne 10, 3) := by decide +kernel
theorem dX9_rests_63 : decode cX9_rests 63 = .ok (.aload_n 0, 1) := by decide +kernel
theorem dX9_rests_64 : decode cX9_rests 64 = .ok (.getfield 43, 3) := by decide +kernel
theorem dX9_rests_67 : decode cX9_rests 67 = .ok (.iload_n 3, 1) := by decide +kernel
theorem dX9_rests_68 : decode cX9_rests 68 = .ok (.iaload, 1) := by decide +kernel
theorem dX9_rests_69 : decode cX9_rests 69 = .ok (.ireturn, 1) := by decide +kernel
theorem dX9_rests_70 : decode cX9_rests 70 = .ok (.iinc 4 1, 3) := by decide +kernel
theorem dX9_rests_73 : decode cX9_rests 73 = .ok (.aload_n 0, 1) := by decide +kernel
theorem dX9_rests_74 : decode cX9_rests 74 = .ok (.invokevirtual 124, 3) := by decide +kernel
theorem dX9_rests_77 : decode cX9_rests 77 = .ok (.istore 5, 2) := by decide +kernel
theorem dX9_rests_79 : decode cX9_rests 79 = .ok (.goto (-39), 3) := by decide +kernel
theorem dX9_rests_82 : decode cX9_rests 82 = .ok (.iload_n 2, 1) := by decide +kernel
theorem dX9_rests_83 : decode cX9_rests 83 = .ok (.iconst (-1), 1) := by decide +kernel
theorem dX9_rests_84 : decode cX9_rests 84 = .ok (.if_icmp .ne 8, 3) := by decide +kernel
theorem dX9_rests_87 : decode cX9_rests 87 = .ok (.iload 4, 2) := by decide +kernel
theorem dX9_rests_89 : decode cX9_rests 89 = .ok (.goto 5, 3) := by decide +kernel
theorem dX9_rests_92 : decode cX9_rests 92 = .ok (.bipush (-6), 2) := by decide +kernel
theorem dX9_rests_94 : decode cX9_rests 94 = .ok (.ireturn, 1) := by decide +kernel
theorem dX9_stateOf_0 : decode cX9_stateOf 0 = .ok (.iload_n 2, 1) := by decide +kernel
theorem dX9_stateOf_1 : decode cX9_stateOf 1 = .ok (.istore_n 3, 1) := by decide +kernel
theorem dX9_stateOf_2 : decode cX9_stateOf 2 = .ok (.iconst 0, 1) := by decide +kernel
theorem dX9_stateOf_3 : decode cX9_stateOf 3 = .ok (.istore 4, 2) := by decide +kernel
theorem dX9_stateOf_5 : decode cX9_stateOf 5 = .ok (.iload 4, 2) := by decide +kernel
theorem dX9_stateOf_7 : decode cX9_stateOf 7 = .ok (.aload_n 0, 1) := by decide +kernel
theorem dX9_stateOf_8 : decode cX9_stateOf 8 = .ok (.getfield 55, 3) := by decide +kernel
theorem dX9_stateOf_11 : decode cX9_stateOf 11 = .ok (.if_icmp .ge 19, 3) := by decide +kernel
theorem dX9_stateOf_14 : decode cX9_stateOf 14 = .ok (.bipush 7, 2) := by decide +kernel
theorem dX9_stateOf_16 : decode cX9_stateOf 16 = .ok (.iload_n 3, 1) := by decide +kernel
theorem dX9_stateOf_17 : decode cX9_stateOf 17 = .ok (.imul, 1) := by decide +kernel
theorem dX9_stateOf_18 : decode cX9_stateOf 18 = .ok (.aload_n 1, 1) := by decide +kernel
theorem dX9_stateOf_19 : decode cX9_stateOf 19 = .ok (.iload 4, 2) := by decide +kernel
theorem dX9_stateOf_21 : decode cX9_stateOf 21 = .ok (.iaload, 1) := by decide +kernel
theorem dX9_stateOf_22 : decode cX9_stateOf 22 = .ok (.iadd, 1) := by decide +kernel
theorem dX9_stateOf_23 : decode cX9_stateOf 23 = .ok (.istore_n 3, 1) := by decide +kernel
theorem dX9_stateOf_24 : decode cX9_stateOf 24 = .ok (.iinc 4 1, 3) := by decide +kernel
theorem dX9_stateOf_27 : decode cX9_stateOf 27 = .ok (.goto (-22), 3) := by decide +kernel
theorem dX9_stateOf_30 : decode cX9_stateOf 30 = .ok (.iload_n 3, 1) := by decide +kernel
theorem dX9_stateOf_31 : decode cX9_stateOf 31 = .ok (.ireturn, 1) := by decide +kernel
theorem dX9_goOne_0 : decode cX9_goOne 0 = .ok (.aload_n 0, 1) := by decide +kernel
theorem dX9_goOne_1 : decode cX9_goOne 1 = .ok (.aload_n 0, 1) := by decide +kernel
theorem dX9_goOne_2 : decode cX9_goOne 2 = .ok (.getfield 49, 3) := by decide +kernel
theorem dX9_goOne_5 : decode cX9_goOne 5 = .ok (.invokevirtual 143, 3) := by decide +kernel
theorem dX9_goOne_8 : decode cX9_goOne 8 = .ok (.aload_n 0, 1) := by decide +kernel
theorem dX9_goOne_9 : decode cX9_goOne 9 = .ok (.aload_n 0, 1) := by decide +kernel
theorem dX9_goOne_10 : decode cX9_goOne 10 = .ok (.getfield 49, 3) := by decide +kernel
theorem dX9_goOne_13 : decode cX9_goOne 13 = .ok (.invokevirtual 73, 3) := by decide +kernel
theorem dX9_goOne_16 : decode cX9_goOne 16 = .ok (.istore_n 2, 1) := by decide +kernel
theorem dX9_goOne_17 : decode cX9_goOne 17 = .ok (.iconst 0, 1) := by decide +kernel
theorem dX9_goOne_18 : decode cX9_goOne 18 = .ok (.istore_n 3, 1) := by decide +kernel
theorem dX9_goOne_19 : decode cX9_goOne 19 = .ok (.iload_n 3, 1) := by decide +kernel
theorem dX9_goOne_20 : decode cX9_goOne 20 = .ok (.aload_n 0, 1) := by decide +kernel
theorem dX9_goOne_21 : decode cX9_goOne 21 = .ok (.getfield 55, 3) := by decide +kernel
theorem dX9_goOne_24 : decode cX9_goOne 24 = .ok (.if_icmp .ge 144, 3) := by decide +kernel
theorem dX9_goOne_27 : decode cX9_goOne 27 = .ok (.iload_n 1, 1) := by decide +kernel
theorem dX9_goOne_28 : decode cX9_goOne 28 = .ok (.iload_n 3, 1) := by decide +kernel
theorem dX9_goOne_29 : decode cX9_goOne 29 = .ok (.iadd, 1) := by decide +kernel
theorem dX9_goOne_30 : decode cX9_goOne 30 = .ok (.aload_n 0, 1) := by decide +kernel
theorem dX9_goOne_31 : decode cX9_goOne 31 = .ok (.getfield 55, 3) := by decide +kernel
theorem dX9_goOne_34 : decode cX9_goOne 34 = .ok (.irem, 1) := by decide +kernel
theorem dX9_goOne_35 : decode cX9_goOne 35 = .ok (.istore 4, 2) := by decide +kernel
theorem dX9_goOne_37 : decode cX9_goOne 37 = .ok (.aload_n 0, 1) := by decide +kernel
theorem dX9_goOne_38 : decode cX9_goOne 38 = .ok (.aload_n 0, 1) := by decide +kernel
theorem dX9_goOne_39 : decode cX9_goOne 39 = .ok (.getfield 49, 3) := by decide +kernel
theorem dX9_goOne_42 : decode cX9_goOne 42 = .ok (.iload 4, 2) := by decide +kernel
theorem dX9_goOne_44 : decode cX9_goOne 44 = .ok (.invokevirtual 132, 3) := by decide +kernel
theorem dX9_goOne_47 : decode cX9_goOne 47 = .ok (.istore 5, 2) := by decide +kernel
theorem dX9_goOne_49 : decode cX9_goOne 49 = .ok (.iload 5, 2) := by decide +kernel
theorem dX9_goOne_51 : decode cX9_goOne 51 = .ok (.ifCond .le 8, 3) := by decide +kernel
theorem dX9_goOne_54 : decode cX9_goOne 54 = .ok (.bipush 7, 2) := by decide +kernel
theorem dX9_goOne_56 : decode cX9_goOne 56 = .ok (.goto 5, 3) := by decide +kernel
theorem dX9_goOne_59 : decode cX9_goOne 59 = .ok (.bipush (-6), 2) := by decide +kernel
theorem dX9_goOne_61 : decode cX9_goOne 61 = .ok (.istore 6, 2) := by decide +kernel
theorem dX9_goOne_63 : decode cX9_goOne 63 = .ok (.iconst 0, 1) := by decide +kernel
theorem dX9_goOne_64 : decode cX9_goOne 64 = .ok (.istore 7, 2) := by decide +kernel
theorem dX9_goOne_66 : decode cX9_goOne 66 = .ok (.iload 7, 2) := by decide +kernel
theorem dX9_goOne_68 : decode cX9_goOne 68 = .ok (.iload_n 2, 1) := by decide +kernel
theorem dX9_goOne_69 : decode cX9_goOne 69 = .ok (.if_icmp .ge 66, 3) := by decide +kernel
theorem dX9_goOne_72 : decode cX9_goOne 72 = .ok (.iload 7, 2) := by decide +kernel
theorem dX9_goOne_74 : decode cX9_goOne 74 = .ok (.aload_n 0, 1) := by decide +kernel
theorem dX9_goOne_75 : decode cX9_goOne 75 = .ok (.getfield 49, 3) := by decide +kernel
theorem dX9_goOne_78 : decode cX9_goOne 78 = .ok (.iload 4, 2) := by decide +kernel
theorem dX9_goOne_80 : decode cX9_goOne 80 = .ok (.iaload, 1) := by decide +kernel
theorem dX9_goOne_81 : decode cX9_goOne 81 = .ok (.if_icmp .ne 7, 3) := by decide +kernel
theorem dX9_goOne_84 : decode cX9_goOne 84 = .ok (.iconst 0, 1) := by decide +kernel
theorem dX9_goOne_85 : decode cX9_goOne 85 = .ok (.goto 15, 3) := by decide +kernel
theorem dX9_goOne_88 : decode cX9_goOne 88 = .ok (.aload_n 0, 1) := by decide +kernel
theorem dX9_goOne_89 : decode cX9_goOne 89 = .ok (.aload_n 0, 1) := by decide +kernel
theorem dX9_goOne_90 : decode cX9_goOne 90 = .ok (.getfield 49, 3) := by decide +kernel
theorem dX9_goOne_93 : decode cX9_goOne 93 = .ok (.iload 4, 2) := by decide +kernel
theorem dX9_goOne_95 : decode cX9_goOne 95 = .ok (.iload 7, 2) := by decide +kernel
theorem dX9_goOne_97 : decode cX9_goOne 97 = .ok (.invokevirtual 135, 3) := by decide +kernel
theorem dX9_goOne_100 : decode cX9_goOne 100 = .ok (.istore 8, 2) := by decide +kernel
theorem dX9_goOne_102 : decode cX9_goOne 102 = .ok (.iload 8, 2) := by decide +kernel
theorem dX9_goOne_104 : decode cX9_goOne 104 = .ok (.ifCond .le 25, 3) := by decide +kernel
theorem dX9_goOne_107 : decode cX9_goOne 107 = .ok (.iload 6, 2) := by decide +kernel
theorem dX9_goOne_109 : decode cX9_goOne 109 = .ok (.bipush (-6), 2) := by decide +kernel
theorem dX9_goOne_111 : decode cX9_goOne 111 = .ok (.if_icmp .eq 10, 3) := by decide +kernel
theorem dX9_goOne_114 : decode cX9_goOne 114 = .ok (.iload 8, 2) := by decide +kernel
theorem dX9_goOne_116 : decode cX9_goOne 116 = .ok (.iload 5, 2) := by decide +kernel
theorem dX9_goOne_118 : decode cX9_goOne 118 = .ok (.if_icmp .le 11, 3) := by decide +kernel
theorem dX9_goOne_121 : decode cX9_goOne 121 = .ok (.iload 8, 2) := by decide +kernel
theorem dX9_goOne_123 : decode cX9_goOne 123 = .ok (.istore 5, 2) := by decide +kernel
theorem dX9_goOne_125 : decode cX9_goOne 125 = .ok (.iload 7, 2) := by decide +kernel
theorem dX9_goOne_127 : decode cX9_goOne 127 = .ok (.istore 6, 2) := by decide +kernel
theorem dX9_goOne_129 : decode cX9_goOne 129 = .ok (.iinc 7 1, 3) := by decide +kernel
theorem dX9_goOne_132 : decode cX9_goOne 132 = .ok (.goto (-66), 3) := by decide +kernel
theorem dX9_goOne_135 : decode cX9_goOne 135 = .ok (.iload 6, 2) := by decide +kernel
theorem dX9_goOne_137 : decode cX9_goOne 137 = .ok (.bipush (-6), 2) := by decide +kernel
theorem dX9_goOne_139 : decode cX9_goOne 139 = .ok (.if_icmp .eq 23, 3) := by decide +kernel
theorem dX9_goOne_142 : decode cX9_goOne 142 = .ok (.aload_n 0, 1) := by decide +kernel
theorem dX9_goOne_143 : decode cX9_goOne 143 = .ok (.getfield 49, 3) := by decide +kernel
theorem dX9_goOne_146 : decode cX9_goOne 146 = .ok (.iload 4, 2) := by decide +kernel
theorem dX9_goOne_148 : decode cX9_goOne 148 = .ok (.iload 6, 2) := by decide +kernel
theorem dX9_goOne_150 : decode cX9_goOne 150 = .ok (.iastore, 1) := by decide +kernel
theorem dX9_goOne_151 : decode cX9_goOne 151 = .ok (.aload_n 0, 1) := by decide +kernel
theorem dX9_goOne_152 : decode cX9_goOne 152 = .ok (.aload_n 0, 1) := by decide +kernel
theorem dX9_goOne_153 : decode cX9_goOne 153 = .ok (.getfield 49, 3) := by decide +kernel
theorem dX9_goOne_156 : decode cX9_goOne 156 = .ok (.invokevirtual 104, 3) := by decide +kernel
theorem dX9_goOne_159 : decode cX9_goOne 159 = .ok (.iload 4, 2) := by decide +kernel
theorem dX9_goOne_161 : decode cX9_goOne 161 = .ok (.ireturn, 1) := by decide +kernel
theorem dX9_goOne_162 : decode cX9_goOne 162 = .ok (.iinc 3 1, 3) := by decide +kernel
theorem dX9_goOne_165 : decode cX9_goOne 165 = .ok (.goto (-146), 3) := by decide +kernel
theorem dX9_goOne_168 : decode cX9_goOne 168 = .ok (.bipush (-6), 2) := by decide +kernel
theorem dX9_goOne_170 : decode cX9_goOne 170 = .ok (.ireturn, 1) := by decide +kernel
theorem dX9_goAll_0 : decode cX9_goAll 0 = .ok (.aload_n 0, 1) := by decide +kernel
theorem dX9_goAll_1 : decode cX9_goAll 1 = .ok (.aload_n 0, 1) := by decide +kernel
theorem dX9_goAll_2 : decode cX9_goAll 2 = .ok (.getfield 13, 3) := by decide +kernel
theorem dX9_goAll_5 : decode cX9_goAll 5 = .ok (.aload_n 0, 1) := by decide +kernel
theorem dX9_goAll_6 : decode cX9_goAll 6 = .ok (.getfield 49, 3) := by decide +kernel
theorem dX9_goAll_9 : decode cX9_goAll 9 = .ok (.invokevirtual 128, 3) := by decide +kernel
theorem dX9_goAll_12 : decode cX9_goAll 12 = .ok (.aload_n 0, 1) := by decide +kernel
theorem dX9_goAll_13 : decode cX9_goAll 13 = .ok (.iconst 0, 1) := by decide +kernel
theorem dX9_goAll_14 : decode cX9_goAll 14 = .ok (.putfield 158, 3) := by decide +kernel
theorem dX9_goAll_17 : decode cX9_goAll 17 = .ok (.aload_n 0, 1) := by decide +kernel
theorem dX9_goAll_18 : decode cX9_goAll 18 = .ok (.iconst (-1), 1) := by decide +kernel
theorem dX9_goAll_19 : decode cX9_goAll 19 = .ok (.putfield 161, 3) := by decide +kernel
theorem dX9_goAll_22 : decode cX9_goAll 22 = .ok (.iload_n 1, 1) := by decide +kernel
theorem dX9_goAll_23 : decode cX9_goAll 23 = .ok (.istore_n 2, 1) := by decide +kernel
theorem dX9_goAll_24 : decode cX9_goAll 24 = .ok (.aload_n 0, 1) := by decide +kernel
theorem dX9_goAll_25 : decode cX9_goAll 25 = .ok (.getfield 52, 3) := by decide +kernel
theorem dX9_goAll_28 : decode cX9_goAll 28 = .ok (.iconst 0, 1) := by decide +kernel
theorem dX9_goAll_29 : decode cX9_goAll 29 = .ok (.aload_n 0, 1) := by decide +kernel
theorem dX9_goAll_30 : decode cX9_goAll 30 = .ok (.aload_n 0, 1) := by decide +kernel
theorem dX9_goAll_31 : decode cX9_goAll 31 = .ok (.getfield 49, 3) := by decide +kernel
theorem dX9_goAll_34 : decode cX9_goAll 34 = .ok (.iload_n 2, 1) := by decide +kernel
theorem dX9_goAll_35 : decode cX9_goAll 35 = .ok (.invokevirtual 164, 3) := by decide +kernel
theorem dX9_goAll_38 : decode cX9_goAll 38 = .ok (.iastore, 1) := by decide +kernel
theorem dX9_goAll_39 : decode cX9_goAll 39 = .ok (.aload_n 0, 1) := by decide +kernel
theorem dX9_goAll_40 : decode cX9_goAll 40 = .ok (.getfield 161, 3) := by decide +kernel
theorem dX9_goAll_43 : decode cX9_goAll 43 = .ok (.ifCond .ge 134, 3) := by decide +kernel
theorem dX9_goAll_46 : decode cX9_goAll 46 = .ok (.aload_n 0, 1) := by decide +kernel
theorem dX9_goAll_47 : decode cX9_goAll 47 = .ok (.getfield 158, 3) := by decide +kernel
theorem dX9_goAll_50 : decode cX9_goAll 50 = .ok (.sipush 500, 3) := by decide +kernel
theorem dX9_goAll_53 : decode cX9_goAll 53 = .ok (.if_icmp .ge 124, 3) := by decide +kernel
theorem dX9_goAll_56 : decode cX9_goAll 56 = .ok (.aload_n 0, 1) := by decide +kernel
theorem dX9_goAll_57 : decode cX9_goAll 57 = .ok (.iload_n 2, 1) := by decide +kernel
theorem dX9_goAll_58 : decode cX9_goAll 58 = .ok (.invokevirtual 167, 3) := by decide +kernel
theorem dX9_goAll_61 : decode cX9_goAll 61 = .ok (.istore_n 3, 1) := by decide +kernel
theorem dX9_goAll_62 : decode cX9_goAll 62 = .ok (.iload_n 3, 1) := by decide +kernel
theorem dX9_goAll_63 : decode cX9_goAll 63 = .ok (.ifCond .ge 11, 3) := by decide +kernel
theorem dX9_goAll_66 : decode cX9_goAll 66 = .ok (.aload_n 0, 1) := by decide +kernel
theorem dX9_goAll_67 : decode cX9_goAll 67 = .ok (.iconst 0, 1) := by decide +kernel
theorem dX9_goAll_68 : decode cX9_goAll 68 = .ok (.putfield 161, 3) := by decide +kernel
theorem dX9_goAll_71 : decode cX9_goAll 71 = .ok (.goto 103, 3) := by decide +kernel
theorem dX9_goAll_74 : decode cX9_goAll 74 = .ok (.iload_n 3, 1) := by decide +kernel
theorem dX9_goAll_75 : decode cX9_goAll 75 = .ok (.iconst 1, 1) := by decide +kernel
theorem dX9_goAll_76 : decode cX9_goAll 76 = .ok (.iadd, 1) := by decide +kernel
theorem dX9_goAll_77 : decode cX9_goAll 77 = .ok (.aload_n 0, 1) := by decide +kernel
theorem dX9_goAll_78 : decode cX9_goAll 78 = .ok (.getfield 55, 3) := by decide +kernel
theorem dX9_goAll_81 : decode cX9_goAll 81 = .ok (.irem, 1) := by decide +kernel
theorem dX9_goAll_82 : decode cX9_goAll 82 = .ok (.istore_n 2, 1) := by decide +kernel
theorem dX9_goAll_83 : decode cX9_goAll 83 = .ok (.aload_n 0, 1) := by decide +kernel
theorem dX9_goAll_84 : decode cX9_goAll 84 = .ok (.dup, 1) := by decide +kernel
theorem dX9_goAll_85 : decode cX9_goAll 85 = .ok (.getfield 158, 3) := by decide +kernel
theorem dX9_goAll_88 : decode cX9_goAll 88 = .ok (.iconst 1, 1) := by decide +kernel
theorem dX9_goAll_89 : decode cX9_goAll 89 = .ok (.iadd, 1) := by decide +kernel
theorem dX9_goAll_90 : decode cX9_goAll 90 = .ok (.putfield 158, 3) := by decide +kernel
theorem dX9_goAll_93 : decode cX9_goAll 93 = .ok (.aload_n 0, 1) := by decide +kernel
theorem dX9_goAll_94 : decode cX9_goAll 94 = .ok (.getfield 52, 3) := by decide +kernel
theorem dX9_goAll_97 : decode cX9_goAll 97 = .ok (.aload_n 0, 1) := by decide +kernel
theorem dX9_goAll_98 : decode cX9_goAll 98 = .ok (.getfield 158, 3) := by decide +kernel
theorem dX9_goAll_101 : decode cX9_goAll 101 = .ok (.aload_n 0, 1) := by decide +kernel
theorem dX9_goAll_102 : decode cX9_goAll 102 = .ok (.aload_n 0, 1) := by decide +kernel
theorem dX9_goAll_103 : decode cX9_goAll 103 = .ok (.getfield 49, 3) := by decide +kernel
theorem dX9_goAll_106 : decode cX9_goAll 106 = .ok (.iload_n 2, 1) := by decide +kernel
theorem dX9_goAll_107 : decode cX9_goAll 107 = .ok (.invokevirtual 164, 3) := by decide +kernel
theorem dX9_goAll_110 : decode cX9_goAll 110 = .ok (.iastore, 1) := by decide +kernel
theorem dX9_goAll_111 : decode cX9_goAll 111 = .ok (.aload_n 0, 1) := by decide +kernel
theorem dX9_goAll_112 : decode cX9_goAll 112 = .ok (.getfield 158, 3) := by decide +kernel
theorem dX9_goAll_115 : decode cX9_goAll 115 = .ok (.iconst 1, 1) := by decide +kernel
theorem dX9_goAll_116 : decode cX9_goAll 116 = .ok (.isub, 1) := by decide +kernel
theorem dX9_goAll_117 : decode cX9_goAll 117 = .ok (.istore 4, 2) := by decide +kernel
theorem dX9_goAll_119 : decode cX9_goAll 119 = .ok (.iload 4, 2) := by decide +kernel
theorem dX9_goAll_121 : decode cX9_goAll 121 = .ok (.ifCond .lt 53, 3) := by decide +kernel
theorem dX9_goAll_124 : decode cX9_goAll 124 = .ok (.aload_n 0, 1) := by decide +kernel
theorem dX9_goAll_125 : decode cX9_goAll 125 = .ok (.getfield 161, 3) := by decide +kernel
theorem dX9_goAll_128 : decode cX9_goAll 128 = .ok (.ifCond .ge 46, 3) := by decide +kernel
theorem dX9_goAll_131 : decode cX9_goAll 131 = .ok (.aload_n 0, 1) := by decide +kernel
theorem dX9_goAll_132 : decode cX9_goAll 132 = .ok (.aload_n 0, 1) := by decide +kernel
theorem dX9_goAll_133 : decode cX9_goAll 133 = .ok (.getfield 52, 3) := by decide +kernel
theorem dX9_goAll_136 : decode cX9_goAll 136 = .ok (.iload 4, 2) := by decide +kernel
theorem dX9_goAll_138 : decode cX9_goAll 138 = .ok (.iaload, 1) := by decide +kernel
theorem dX9_goAll_139 : decode cX9_goAll 139 = .ok (.aload_n 0, 1) := by decide +kernel
theorem dX9_goAll_140 : decode cX9_goAll 140 = .ok (.getfield 52, 3) := by decide +kernel
theorem dX9_goAll_143 : decode cX9_goAll 143 = .ok (.aload_n 0, 1) := by decide +kernel
theorem dX9_goAll_144 : decode cX9_goAll 144 = .ok (.getfield 158, 3) := by decide +kernel
theorem dX9_goAll_147 : decode cX9_goAll 147 = .ok (.iaload, 1) := by decide +kernel
theorem dX9_goAll_148 : decode cX9_goAll 148 = .ok (.if_icmp .ne 13, 3) := by decide +kernel
theorem dX9_goAll_151 : decode cX9_goAll 151 = .ok (.aload_n 0, 1) := by decide +kernel
theorem dX9_goAll_152 : decode cX9_goAll 152 = .ok (.getfield 158, 3) := by decide +kernel
theorem dX9_goAll_155 : decode cX9_goAll 155 = .ok (.iload 4, 2) := by decide +kernel
theorem dX9_goAll_157 : decode cX9_goAll 157 = .ok (.isub, 1) := by decide +kernel
theorem dX9_goAll_158 : decode cX9_goAll 158 = .ok (.goto 7, 3) := by decide +kernel
theorem dX9_goAll_161 : decode cX9_goAll 161 = .ok (.aload_n 0, 1) := by decide +kernel
theorem dX9_goAll_162 : decode cX9_goAll 162 = .ok (.getfield 161, 3) := by decide +kernel
theorem dX9_goAll_165 : decode cX9_goAll 165 = .ok (.putfield 161, 3) := by decide +kernel
theorem dX9_goAll_168 : decode cX9_goAll 168 = .ok (.iinc 4 (-1), 3) := by decide +kernel
theorem dX9_goAll_171 : decode cX9_goAll 171 = .ok (.goto (-52), 3) := by decide +kernel
theorem dX9_goAll_174 : decode cX9_goAll 174 = .ok (.goto (-135), 3) := by decide +kernel
theorem dX9_goAll_177 : decode cX9_goAll 177 = .ok (.return_, 1) := by decide +kernel
theorem dX9_go_0 : decode cX9_go 0 = .ok (.aload_n 0, 1) := by decide +kernel
theorem dX9_go_1 : decode cX9_go 1 = .ok (.iload_n 1, 1) := by decide +kernel
theorem dX9_go_2 : decode cX9_go 2 = .ok (.invokevirtual 77, 3) := by decide +kernel
theorem dX9_go_5 : decode cX9_go 5 = .ok (.ifCond .ne 5, 3) := by decide +kernel
theorem dX9_go_8 : decode cX9_go 8 = .ok (.iconst (-1), 1) := by decide +kernel
theorem dX9_go_9 : decode cX9_go 9 = .ok (.ireturn, 1) := by decide +kernel
theorem dX9_go_10 : decode cX9_go 10 = .ok (.iload_n 2, 1) := by decide +kernel
theorem dX9_go_11 : decode cX9_go 11 = .ok (.i2l, 1) := by decide +kernel
theorem dX9_go_12 : decode cX9_go 12 = .ok (.lconst 0, 1) := by decide +kernel
theorem dX9_go_13 : decode cX9_go 13 = .ok (.lconst 1, 1) := by decide +kernel
theorem dX9_go_14 : decode cX9_go 14 = .ok (.invokestatic 59, 3) := by decide +kernel
theorem dX9_go_17 : decode cX9_go 17 = .ok (.ifCond .ne 20, 3) := by decide +kernel
theorem dX9_go_20 : decode cX9_go 20 = .ok (.iload_n 2, 1) := by decide +kernel
theorem dX9_go_21 : decode cX9_go 21 = .ok (.i2l, 1) := by decide +kernel
theorem dX9_go_22 : decode cX9_go 22 = .ok (.ldc2_w 171, 3) := by decide +kernel
theorem dX9_go_25 : decode cX9_go 25 = .ok (.ldc2_w 173, 3) := by decide +kernel
theorem dX9_go_28 : decode cX9_go 28 = .ok (.invokestatic 59, 3) := by decide +kernel
theorem dX9_go_31 : decode cX9_go 31 = .ok (.ifCond .ne 6, 3) := by decide +kernel
theorem dX9_go_34 : decode cX9_go 34 = .ok (.bipush (-2), 2) := by decide +kernel
theorem dX9_go_36 : decode cX9_go 36 = .ok (.ireturn, 1) := by decide +kernel
theorem dX9_go_37 : decode cX9_go 37 = .ok (.aload_n 0, 1) := by decide +kernel
theorem dX9_go_38 : decode cX9_go 38 = .ok (.iload_n 1, 1) := by decide +kernel
theorem dX9_go_39 : decode cX9_go 39 = .ok (.invokevirtual 175, 3) := by decide +kernel
theorem dX9_go_42 : decode cX9_go 42 = .ok (.iload_n 2, 1) := by decide +kernel
theorem dX9_go_43 : decode cX9_go 43 = .ok (.bipush 9, 2) := by decide +kernel
theorem dX9_go_45 : decode cX9_go 45 = .ok (.if_icmp .le 29, 3) := by decide +kernel
theorem dX9_go_48 : decode cX9_go 48 = .ok (.aload_n 0, 1) := by decide +kernel
theorem dX9_go_49 : decode cX9_go 49 = .ok (.iload_n 2, 1) := by decide +kernel
theorem dX9_go_50 : decode cX9_go 50 = .ok (.bipush 10, 2) := by decide +kernel
theorem dX9_go_52 : decode cX9_go 52 = .ok (.isub, 1) := by decide +kernel
theorem dX9_go_53 : decode cX9_go 53 = .ok (.invokevirtual 77, 3) := by decide +kernel
theorem dX9_go_56 : decode cX9_go 56 = .ok (.ifCond .eq 15, 3) := by decide +kernel
theorem dX9_go_59 : decode cX9_go 59 = .ok (.aload_n 0, 1) := by decide +kernel
theorem dX9_go_60 : decode cX9_go 60 = .ok (.getfield 49, 3) := by decide +kernel
theorem dX9_go_63 : decode cX9_go 63 = .ok (.iload_n 2, 1) := by decide +kernel
theorem dX9_go_64 : decode cX9_go 64 = .ok (.bipush 10, 2) := by decide +kernel
theorem dX9_go_66 : decode cX9_go 66 = .ok (.isub, 1) := by decide +kernel
theorem dX9_go_67 : decode cX9_go 67 = .ok (.iaload, 1) := by decide +kernel
theorem dX9_go_68 : decode cX9_go 68 = .ok (.goto 5, 3) := by decide +kernel
theorem dX9_go_71 : decode cX9_go 71 = .ok (.bipush (-6), 2) := by decide +kernel
theorem dX9_go_73 : decode cX9_go 73 = .ok (.ireturn, 1) := by decide +kernel
theorem dX9_go_74 : decode cX9_go 74 = .ok (.iload_n 2, 1) := by decide +kernel
theorem dX9_go_75 : decode cX9_go 75 = .ok (.ifCond .ne 10, 3) := by decide +kernel
theorem dX9_go_78 : decode cX9_go 78 = .ok (.aload_n 0, 1) := by decide +kernel
theorem dX9_go_79 : decode cX9_go 79 = .ok (.getfield 158, 3) := by decide +kernel
theorem dX9_go_82 : decode cX9_go 82 = .ok (.goto 7, 3) := by decide +kernel
theorem dX9_go_85 : decode cX9_go 85 = .ok (.aload_n 0, 1) := by decide +kernel
theorem dX9_go_86 : decode cX9_go 86 = .ok (.getfield 161, 3) := by decide +kernel
theorem dX9_go_89 : decode cX9_go 89 = .ok (.ireturn, 1) := by decide +kernel
theorem dX9_whole_0 : decode cX9_whole 0 = .ok (.iload_n 1, 1) := by decide +kernel
theorem dX9_whole_1 : decode cX9_whole 1 = .ok (.i2l, 1) := by decide +kernel
theorem dX9_whole_2 : decode cX9_whole 2 = .ok (.lconst 0, 1) := by decide +kernel
theorem dX9_whole_3 : decode cX9_whole 3 = .ok (.ldc2_w 83, 3) := by decide +kernel
theorem dX9_whole_6 : decode cX9_whole 6 = .ok (.invokestatic 59, 3) := by decide +kernel
theorem dX9_whole_9 : decode cX9_whole 9 = .ok (.ifCond .ne 6, 3) := by decide +kernel
theorem dX9_whole_12 : decode cX9_whole 12 = .ok (.bipush (-2), 2) := by decide +kernel
theorem dX9_whole_14 : decode cX9_whole 14 = .ok (.ireturn, 1) := by decide +kernel
theorem dX9_whole_15 : decode cX9_whole 15 = .ok (.iconst 0, 1) := by decide +kernel
theorem dX9_whole_16 : decode cX9_whole 16 = .ok (.istore_n 2, 1) := by decide +kernel
theorem dX9_whole_17 : decode cX9_whole 17 = .ok (.iload_n 2, 1) := by decide +kernel
theorem dX9_whole_18 : decode cX9_whole 18 = .ok (.bipush 6, 2) := by decide +kernel
theorem dX9_whole_20 : decode cX9_whole 20 = .ok (.if_icmp .ge 16, 3) := by decide +kernel
theorem dX9_whole_23 : decode cX9_whole 23 = .ok (.aload_n 0, 1) := by decide +kernel
theorem dX9_whole_24 : decode cX9_whole 24 = .ok (.getfield 16, 3) := by decide +kernel
theorem dX9_whole_27 : decode cX9_whole 27 = .ok (.iload_n 2, 1) := by decide +kernel
theorem dX9_whole_28 : decode cX9_whole 28 = .ok (.iload_n 2, 1) := by decide +kernel
theorem dX9_whole_29 : decode cX9_whole 29 = .ok (.iastore, 1) := by decide +kernel
theorem dX9_whole_30 : decode cX9_whole 30 = .ok (.iinc 2 1, 3) := by decide +kernel
theorem dX9_whole_33 : decode cX9_whole 33 = .ok (.goto (-16), 3) := by decide +kernel
theorem dX9_whole_36 : decode cX9_whole 36 = .ok (.aload_n 0, 1) := by decide +kernel
theorem dX9_whole_37 : decode cX9_whole 37 = .ok (.aload_n 0, 1) := by decide +kernel
theorem dX9_whole_38 : decode cX9_whole 38 = .ok (.getfield 16, 3) := by decide +kernel
theorem dX9_whole_41 : decode cX9_whole 41 = .ok (.invokevirtual 143, 3) := by decide +kernel
theorem dX9_whole_44 : decode cX9_whole 44 = .ok (.iconst 0, 1) := by decide +kernel
theorem dX9_whole_45 : decode cX9_whole 45 = .ok (.istore_n 2, 1) := by decide +kernel
theorem dX9_whole_46 : decode cX9_whole 46 = .ok (.iload_n 2, 1) := by decide +kernel
theorem dX9_whole_47 : decode cX9_whole 47 = .ok (.bipush 6, 2) := by decide +kernel
theorem dX9_whole_49 : decode cX9_whole 49 = .ok (.if_icmp .ge 16, 3) := by decide +kernel
theorem dX9_whole_52 : decode cX9_whole 52 = .ok (.aload_n 0, 1) := by decide +kernel
theorem dX9_whole_53 : decode cX9_whole 53 = .ok (.getfield 16, 3) := by decide +kernel
theorem dX9_whole_56 : decode cX9_whole 56 = .ok (.iload_n 2, 1) := by decide +kernel
theorem dX9_whole_57 : decode cX9_whole 57 = .ok (.iconst 0, 1) := by decide +kernel
theorem dX9_whole_58 : decode cX9_whole 58 = .ok (.iastore, 1) := by decide +kernel
theorem dX9_whole_59 : decode cX9_whole 59 = .ok (.iinc 2 1, 3) := by decide +kernel
theorem dX9_whole_62 : decode cX9_whole 62 = .ok (.goto (-16), 3) := by decide +kernel
theorem dX9_whole_65 : decode cX9_whole 65 = .ok (.aload_n 0, 1) := by decide +kernel
theorem dX9_whole_66 : decode cX9_whole 66 = .ok (.aload_n 0, 1) := by decide +kernel
theorem dX9_whole_67 : decode cX9_whole 67 = .ok (.getfield 16, 3) := by decide +kernel
theorem dX9_whole_70 : decode cX9_whole 70 = .ok (.invokevirtual 115, 3) := by decide +kernel
theorem dX9_whole_73 : decode cX9_whole 73 = .ok (.iconst 0, 1) := by decide +kernel
theorem dX9_whole_74 : decode cX9_whole 74 = .ok (.istore_n 2, 1) := by decide +kernel
theorem dX9_whole_75 : decode cX9_whole 75 = .ok (.iconst 0, 1) := by decide +kernel
theorem dX9_whole_76 : decode cX9_whole 76 = .ok (.istore_n 3, 1) := by decide +kernel
theorem dX9_whole_77 : decode cX9_whole 77 = .ok (.iconst 0, 1) := by decide +kernel
theorem dX9_whole_78 : decode cX9_whole 78 = .ok (.istore 4, 2) := by decide +kernel
theorem dX9_whole_80 : decode cX9_whole 80 = .ok (.iload 4, 2) := by decide +kernel
theorem dX9_whole_82 : decode cX9_whole 82 = .ok (.aload_n 0, 1) := by decide +kernel
theorem dX9_whole_83 : decode cX9_whole 83 = .ok (.getfield 55, 3) := by decide +kernel
theorem dX9_whole_86 : decode cX9_whole 86 = .ok (.if_icmp .ge 55, 3) := by decide +kernel
theorem dX9_whole_89 : decode cX9_whole 89 = .ok (.aload_n 0, 1) := by decide +kernel
theorem dX9_whole_90 : decode cX9_whole 90 = .ok (.getfield 25, 3) := by decide +kernel
theorem dX9_whole_93 : decode cX9_whole 93 = .ok (.iload 4, 2) := by decide +kernel
theorem dX9_whole_95 : decode cX9_whole 95 = .ok (.iaload, 1) := by decide +kernel
theorem dX9_whole_96 : decode cX9_whole 96 = .ok (.aload_n 0, 1) := by decide +kernel
theorem dX9_whole_97 : decode cX9_whole 97 = .ok (.getfield 46, 3) := by decide +kernel
theorem dX9_whole_100 : decode cX9_whole 100 = .ok (.iload 4, 2) := by decide +kernel
theorem dX9_whole_102 : decode cX9_whole 102 = .ok (.iaload, 1) := by decide +kernel
theorem dX9_whole_103 : decode cX9_whole 103 = .ok (.isub, 1) := by decide +kernel
theorem dX9_whole_104 : decode cX9_whole 104 = .ok (.istore 5, 2) := by decide +kernel
theorem dX9_whole_106 : decode cX9_whole 106 = .ok (.iload_n 2, 1) := by decide +kernel
theorem dX9_whole_107 : decode cX9_whole 107 = .ok (.iload 5, 2) := by decide +kernel
theorem dX9_whole_109 : decode cX9_whole 109 = .ok (.ifCond .ge 9, 3) := by decide +kernel
theorem dX9_whole_112 : decode cX9_whole 112 = .ok (.iload 5, 2) := by decide +kernel
theorem dX9_whole_114 : decode cX9_whole 114 = .ok (.ineg, 1) := by decide +kernel
theorem dX9_whole_115 : decode cX9_whole 115 = .ok (.goto 4, 3) := by decide +kernel
theorem dX9_whole_118 : decode cX9_whole 118 = .ok (.iconst 0, 1) := by decide +kernel
theorem dX9_whole_119 : decode cX9_whole 119 = .ok (.iadd, 1) := by decide +kernel
theorem dX9_whole_120 : decode cX9_whole 120 = .ok (.istore_n 2, 1) := by decide +kernel
theorem dX9_whole_121 : decode cX9_whole 121 = .ok (.iload_n 3, 1) := by decide +kernel
theorem dX9_whole_122 : decode cX9_whole 122 = .ok (.iload 5, 2) := by decide +kernel
theorem dX9_whole_124 : decode cX9_whole 124 = .ok (.ifCond .le 8, 3) := by decide +kernel
theorem dX9_whole_127 : decode cX9_whole 127 = .ok (.iload 5, 2) := by decide +kernel
theorem dX9_whole_129 : decode cX9_whole 129 = .ok (.goto 4, 3) := by decide +kernel
theorem dX9_whole_132 : decode cX9_whole 132 = .ok (.iconst 0, 1) := by decide +kernel
theorem dX9_whole_133 : decode cX9_whole 133 = .ok (.iadd, 1) := by decide +kernel
theorem dX9_whole_134 : decode cX9_whole 134 = .ok (.istore_n 3, 1) := by decide +kernel
theorem dX9_whole_135 : decode cX9_whole 135 = .ok (.iinc 4 1, 3) := by decide +kernel
theorem dX9_whole_138 : decode cX9_whole 138 = .ok (.goto (-58), 3) := by decide +kernel
theorem dX9_whole_141 : decode cX9_whole 141 = .ok (.iload_n 1, 1) := by decide +kernel
theorem dX9_whole_142 : decode cX9_whole 142 = .ok (.ifCond .ne 7, 3) := by decide +kernel
theorem dX9_whole_145 : decode cX9_whole 145 = .ok (.iload_n 2, 1) := by decide +kernel
theorem dX9_whole_146 : decode cX9_whole 146 = .ok (.goto 22, 3) := by decide +kernel
theorem dX9_whole_149 : decode cX9_whole 149 = .ok (.iload_n 1, 1) := by decide +kernel
theorem dX9_whole_150 : decode cX9_whole 150 = .ok (.iconst 1, 1) := by decide +kernel
theorem dX9_whole_151 : decode cX9_whole 151 = .ok (.if_icmp .ne 7, 3) := by decide +kernel
theorem dX9_whole_154 : decode cX9_whole 154 = .ok (.iload_n 3, 1) := by decide +kernel
theorem dX9_whole_155 : decode cX9_whole 155 = .ok (.goto 13, 3) := by decide +kernel
theorem dX9_whole_158 : decode cX9_whole 158 = .ok (.iload_n 2, 1) := by decide +kernel
theorem dX9_whole_159 : decode cX9_whole 159 = .ok (.iload_n 3, 1) := by decide +kernel
theorem dX9_whole_160 : decode cX9_whole 160 = .ok (.if_icmp .gt 7, 3) := by decide +kernel
theorem dX9_whole_163 : decode cX9_whole 163 = .ok (.iconst 1, 1) := by decide +kernel
theorem dX9_whole_164 : decode cX9_whole 164 = .ok (.goto 4, 3) := by decide +kernel
theorem dX9_whole_167 : decode cX9_whole 167 = .ok (.iconst 0, 1) := by decide +kernel
theorem dX9_whole_168 : decode cX9_whole 168 = .ok (.ireturn, 1) := by decide +kernel
theorem dX9_rules_0 : decode cX9_rules 0 = .ok (.aload_n 0, 1) := by decide +kernel
theorem dX9_rules_1 : decode cX9_rules 1 = .ok (.getfield 88, 3) := by decide +kernel
theorem dX9_rules_4 : decode cX9_rules 4 = .ok (.istore_n 1, 1) := by decide +kernel
theorem dX9_rules_5 : decode cX9_rules 5 = .ok (.iconst 0, 1) := by decide +kernel
theorem dX9_rules_6 : decode cX9_rules 6 = .ok (.istore_n 2, 1) := by decide +kernel
theorem dX9_rules_7 : decode cX9_rules 7 = .ok (.iconst 0, 1) := by decide +kernel
theorem dX9_rules_8 : decode cX9_rules 8 = .ok (.istore_n 3, 1) := by decide +kernel
theorem dX9_rules_9 : decode cX9_rules 9 = .ok (.iload_n 3, 1) := by decide +kernel
theorem dX9_rules_10 : decode cX9_rules 10 = .ok (.iconst 3, 1) := by decide +kernel
theorem dX9_rules_11 : decode cX9_rules 11 = .ok (.if_icmp .ge 36, 3) := by decide +kernel
theorem dX9_rules_14 : decode cX9_rules 14 = .ok (.aload_n 0, 1) := by decide +kernel
theorem dX9_rules_15 : decode cX9_rules 15 = .ok (.iload_n 3, 1) := by decide +kernel
theorem dX9_rules_16 : decode cX9_rules 16 = .ok (.putfield 88, 3) := by decide +kernel
theorem dX9_rules_19 : decode cX9_rules 19 = .ok (.iload_n 2, 1) := by decide +kernel
theorem dX9_rules_20 : decode cX9_rules 20 = .ok (.aload_n 0, 1) := by decide +kernel
theorem dX9_rules_21 : decode cX9_rules 21 = .ok (.aload_n 0, 1) := by decide +kernel
theorem dX9_rules_22 : decode cX9_rules 22 = .ok (.getfield 13, 3) := by decide +kernel
theorem dX9_rules_25 : decode cX9_rules 25 = .ok (.iconst 0, 1) := by decide +kernel
theorem dX9_rules_26 : decode cX9_rules 26 = .ok (.invokevirtual 155, 3) := by decide +kernel
theorem dX9_rules_29 : decode cX9_rules 29 = .ok (.ifCond .ge 9, 3) := by decide +kernel
theorem dX9_rules_32 : decode cX9_rules 32 = .ok (.iconst 1, 1) := by decide +kernel
theorem dX9_rules_33 : decode cX9_rules 33 = .ok (.iload_n 3, 1) := by decide +kernel
theorem dX9_rules_34 : decode cX9_rules 34 = .ok (.ishl, 1) := by decide +kernel
theorem dX9_rules_35 : decode cX9_rules 35 = .ok (.goto 4, 3) := by decide +kernel
theorem dX9_rules_38 : decode cX9_rules 38 = .ok (.iconst 0, 1) := by decide +kernel
theorem dX9_rules_39 : decode cX9_rules 39 = .ok (.ior, 1) := by decide +kernel
theorem dX9_rules_40 : decode cX9_rules 40 = .ok (.istore_n 2, 1) := by decide +kernel
theorem dX9_rules_41 : decode cX9_rules 41 = .ok (.iinc 3 1, 3) := by decide +kernel
theorem dX9_rules_44 : decode cX9_rules 44 = .ok (.goto (-35), 3) := by decide +kernel
theorem dX9_rules_47 : decode cX9_rules 47 = .ok (.aload_n 0, 1) := by decide +kernel
theorem dX9_rules_48 : decode cX9_rules 48 = .ok (.iload_n 1, 1) := by decide +kernel
theorem dX9_rules_49 : decode cX9_rules 49 = .ok (.putfield 88, 3) := by decide +kernel
theorem dX9_rules_52 : decode cX9_rules 52 = .ok (.iload_n 2, 1) := by decide +kernel
theorem dX9_rules_53 : decode cX9_rules 53 = .ok (.ireturn, 1) := by decide +kernel
theorem dX9_propose_0 : decode cX9_propose 0 = .ok (.aload_n 0, 1) := by decide +kernel
theorem dX9_propose_1 : decode cX9_propose 1 = .ok (.iload_n 1, 1) := by decide +kernel
theorem dX9_propose_2 : decode cX9_propose 2 = .ok (.invokevirtual 77, 3) := by decide +kernel
theorem dX9_propose_5 : decode cX9_propose 5 = .ok (.ifCond .ne 5, 3) := by decide +kernel
theorem dX9_propose_8 : decode cX9_propose 8 = .ok (.iconst (-1), 1) := by decide +kernel
theorem dX9_propose_9 : decode cX9_propose 9 = .ok (.ireturn, 1) := by decide +kernel
theorem dX9_propose_10 : decode cX9_propose 10 = .ok (.iload_n 2, 1) := by decide +kernel
theorem dX9_propose_11 : decode cX9_propose 11 = .ok (.i2l, 1) := by decide +kernel
theorem dX9_propose_12 : decode cX9_propose 12 = .ok (.lconst 0, 1) := by decide +kernel
theorem dX9_propose_13 : decode cX9_propose 13 = .ok (.lconst 1, 1) := by decide +kernel
theorem dX9_propose_14 : decode cX9_propose 14 = .ok (.invokestatic 59, 3) := by decide +kernel
theorem dX9_propose_17 : decode cX9_propose 17 = .ok (.ifCond .ne 6, 3) := by decide +kernel
theorem dX9_propose_20 : decode cX9_propose 20 = .ok (.bipush (-2), 2) := by decide +kernel
theorem dX9_propose_22 : decode cX9_propose 22 = .ok (.ireturn, 1) := by decide +kernel
theorem dX9_propose_23 : decode cX9_propose 23 = .ok (.aload_n 0, 1) := by decide +kernel
theorem dX9_propose_24 : decode cX9_propose 24 = .ok (.aload_n 0, 1) := by decide +kernel
theorem dX9_propose_25 : decode cX9_propose 25 = .ok (.getfield 13, 3) := by decide +kernel
theorem dX9_propose_28 : decode cX9_propose 28 = .ok (.invokevirtual 143, 3) := by decide +kernel
theorem dX9_propose_31 : decode cX9_propose 31 = .ok (.bipush (-6), 2) := by decide +kernel
theorem dX9_propose_33 : decode cX9_propose 33 = .ok (.istore_n 3, 1) := by decide +kernel
theorem dX9_propose_34 : decode cX9_propose 34 = .ok (.bipush (-6), 2) := by decide +kernel
theorem dX9_propose_36 : decode cX9_propose 36 = .ok (.istore 4, 2) := by decide +kernel
theorem dX9_propose_38 : decode cX9_propose 38 = .ok (.iconst 1, 1) := by decide +kernel
theorem dX9_propose_39 : decode cX9_propose 39 = .ok (.istore 5, 2) := by decide +kernel
theorem dX9_propose_41 : decode cX9_propose 41 = .ok (.iload 5, 2) := by decide +kernel
theorem dX9_propose_43 : decode cX9_propose 43 = .ok (.iconst 1, 1) := by decide +kernel
theorem dX9_propose_44 : decode cX9_propose 44 = .ok (.aload_n 0, 1) := by decide +kernel
theorem dX9_propose_45 : decode cX9_propose 45 = .ok (.getfield 55, 3) := by decide +kernel
theorem dX9_propose_48 : decode cX9_propose 48 = .ok (.ishl, 1) := by decide +kernel
theorem dX9_propose_49 : decode cX9_propose 49 = .ok (.if_icmp .ge 58, 3) := by decide +kernel
theorem dX9_propose_52 : decode cX9_propose 52 = .ok (.iload 5, 2) := by decide +kernel
theorem dX9_propose_54 : decode cX9_propose 54 = .ok (.iload_n 1, 1) := by decide +kernel
theorem dX9_propose_55 : decode cX9_propose 55 = .ok (.ishr, 1) := by decide +kernel
theorem dX9_propose_56 : decode cX9_propose 56 = .ok (.iconst 1, 1) := by decide +kernel
theorem dX9_propose_57 : decode cX9_propose 57 = .ok (.iand, 1) := by decide +kernel
theorem dX9_propose_58 : decode cX9_propose 58 = .ok (.iconst 1, 1) := by decide +kernel
theorem dX9_propose_59 : decode cX9_propose 59 = .ok (.if_icmp .ne 42, 3) := by decide +kernel
theorem dX9_propose_62 : decode cX9_propose 62 = .ok (.aload_n 0, 1) := by decide +kernel
theorem dX9_propose_63 : decode cX9_propose 63 = .ok (.aload_n 0, 1) := by decide +kernel
theorem dX9_propose_64 : decode cX9_propose 64 = .ok (.getfield 13, 3) := by decide +kernel
theorem dX9_propose_67 : decode cX9_propose 67 = .ok (.iload 5, 2) := by decide +kernel
theorem dX9_propose_69 : decode cX9_propose 69 = .ok (.invokevirtual 146, 3) := by decide +kernel
theorem dX9_propose_72 : decode cX9_propose 72 = .ok (.ifCond .eq 29, 3) := by decide +kernel
theorem dX9_propose_75 : decode cX9_propose 75 = .ok (.iload_n 3, 1) := by decide +kernel
theorem dX9_propose_76 : decode cX9_propose 76 = .ok (.ifCond .lt 14, 3) := by decide +kernel
theorem dX9_propose_79 : decode cX9_propose 79 = .ok (.aload_n 0, 1) := by decide +kernel
theorem dX9_propose_80 : decode cX9_propose 80 = .ok (.getfield 25, 3) := by decide +kernel
theorem dX9_propose_83 : decode cX9_propose 83 = .ok (.iload_n 1, 1) := by decide +kernel
theorem dX9_propose_84 : decode cX9_propose 84 = .ok (.iaload, 1) := by decide +kernel
theorem dX9_propose_85 : decode cX9_propose 85 = .ok (.iload 4, 2) := by decide +kernel
theorem dX9_propose_87 : decode cX9_propose 87 = .ok (.if_icmp .le 14, 3) := by decide +kernel
theorem dX9_propose_90 : decode cX9_propose 90 = .ok (.iload 5, 2) := by decide +kernel
theorem dX9_propose_92 : decode cX9_propose 92 = .ok (.istore_n 3, 1) := by decide +kernel
theorem dX9_propose_93 : decode cX9_propose 93 = .ok (.aload_n 0, 1) := by decide +kernel
theorem dX9_propose_94 : decode cX9_propose 94 = .ok (.getfield 25, 3) := by decide +kernel
theorem dX9_propose_97 : decode cX9_propose 97 = .ok (.iload_n 1, 1) := by decide +kernel
theorem dX9_propose_98 : decode cX9_propose 98 = .ok (.iaload, 1) := by decide +kernel
theorem dX9_propose_99 : decode cX9_propose 99 = .ok (.istore 4, 2) := by decide +kernel
theorem dX9_propose_101 : decode cX9_propose 101 = .ok (.iinc 5 1, 3) := by decide +kernel
theorem dX9_propose_104 : decode cX9_propose 104 = .ok (.goto (-63), 3) := by decide +kernel
theorem dX9_propose_107 : decode cX9_propose 107 = .ok (.iload_n 2, 1) := by decide +kernel
theorem dX9_propose_108 : decode cX9_propose 108 = .ok (.ifCond .ne 7, 3) := by decide +kernel
theorem dX9_propose_111 : decode cX9_propose 111 = .ok (.iload_n 3, 1) := by decide +kernel
theorem dX9_propose_112 : decode cX9_propose 112 = .ok (.goto 5, 3) := by decide +kernel
theorem dX9_propose_115 : decode cX9_propose 115 = .ok (.iload 4, 2) := by decide +kernel
theorem dX9_propose_117 : decode cX9_propose 117 = .ok (.ireturn, 1) := by decide +kernel
theorem dX9_isThere_0 : decode cX9_isThere 0 = .ok (.iload_n 1, 1) := by decide +kernel
theorem dX9_isThere_1 : decode cX9_isThere 1 = .ok (.i2l, 1) := by decide +kernel
theorem dX9_isThere_2 : decode cX9_isThere 2 = .ok (.lconst 0, 1) := by decide +kernel
theorem dX9_isThere_3 : decode cX9_isThere 3 = .ok (.aload_n 0, 1) := by decide +kernel
theorem dX9_isThere_4 : decode cX9_isThere 4 = .ok (.aload_n 0, 1) := by decide +kernel
theorem dX9_isThere_5 : decode cX9_isThere 5 = .ok (.getfield 13, 3) := by decide +kernel
theorem dX9_isThere_8 : decode cX9_isThere 8 = .ok (.invokevirtual 73, 3) := by decide +kernel
theorem dX9_isThere_11 : decode cX9_isThere 11 = .ok (.iconst 1, 1) := by decide +kernel
theorem dX9_isThere_12 : decode cX9_isThere 12 = .ok (.isub, 1) := by decide +kernel
theorem dX9_isThere_13 : decode cX9_isThere 13 = .ok (.i2l, 1) := by decide +kernel
theorem dX9_isThere_14 : decode cX9_isThere 14 = .ok (.invokestatic 59, 3) := by decide +kernel
theorem dX9_isThere_17 : decode cX9_isThere 17 = .ok (.ireturn, 1) := by decide +kernel
theorem dX9_enter_0 : decode cX9_enter 0 = .ok (.aload_n 0, 1) := by decide +kernel
theorem dX9_enter_1 : decode cX9_enter 1 = .ok (.iload_n 1, 1) := by decide +kernel
theorem dX9_enter_2 : decode cX9_enter 2 = .ok (.invokevirtual 77, 3) := by decide +kernel
theorem dX9_enter_5 : decode cX9_enter 5 = .ok (.ifCond .ne 6, 3) := by decide +kernel
theorem dX9_enter_8 : decode cX9_enter 8 = .ok (.ldc 179, 2) := by decide +kernel
theorem dX9_enter_10 : decode cX9_enter 10 = .ok (.ireturn, 1) := by decide +kernel
theorem dX9_enter_11 : decode cX9_enter 11 = .ok (.aload_n 0, 1) := by decide +kernel
theorem dX9_enter_12 : decode cX9_enter 12 = .ok (.iload_n 2, 1) := by decide +kernel
theorem dX9_enter_13 : decode cX9_enter 13 = .ok (.invokevirtual 180, 3) := by decide +kernel
theorem dX9_enter_16 : decode cX9_enter 16 = .ok (.ifCond .eq 23, 3) := by decide +kernel
theorem dX9_enter_19 : decode cX9_enter 19 = .ok (.iload_n 2, 1) := by decide +kernel
theorem dX9_enter_20 : decode cX9_enter 20 = .ok (.aload_n 0, 1) := by decide +kernel
theorem dX9_enter_21 : decode cX9_enter 21 = .ok (.getfield 13, 3) := by decide +kernel
theorem dX9_enter_24 : decode cX9_enter 24 = .ok (.iload_n 1, 1) := by decide +kernel
theorem dX9_enter_25 : decode cX9_enter 25 = .ok (.iaload, 1) := by decide +kernel
theorem dX9_enter_26 : decode cX9_enter 26 = .ok (.if_icmp .eq 13, 3) := by decide +kernel
theorem dX9_enter_29 : decode cX9_enter 29 = .ok (.iload_n 3, 1) := by decide +kernel
theorem dX9_enter_30 : decode cX9_enter 30 = .ok (.i2l, 1) := by decide +kernel
theorem dX9_enter_31 : decode cX9_enter 31 = .ok (.lconst 0, 1) := by decide +kernel
theorem dX9_enter_32 : decode cX9_enter 32 = .ok (.lconst 1, 1) := by decide +kernel
theorem dX9_enter_33 : decode cX9_enter 33 = .ok (.invokestatic 59, 3) := by decide +kernel
theorem dX9_enter_36 : decode cX9_enter 36 = .ok (.ifCond .ne 6, 3) := by decide +kernel
theorem dX9_enter_39 : decode cX9_enter 39 = .ok (.ldc 183, 2) := by decide +kernel
theorem dX9_enter_41 : decode cX9_enter 41 = .ok (.ireturn, 1) := by decide +kernel
theorem dX9_enter_42 : decode cX9_enter 42 = .ok (.aload_n 0, 1) := by decide +kernel
theorem dX9_enter_43 : decode cX9_enter 43 = .ok (.aload_n 0, 1) := by decide +kernel
theorem dX9_enter_44 : decode cX9_enter 44 = .ok (.getfield 13, 3) := by decide +kernel
theorem dX9_enter_47 : decode cX9_enter 47 = .ok (.invokevirtual 143, 3) := by decide +kernel
theorem dX9_enter_50 : decode cX9_enter 50 = .ok (.aload_n 0, 1) := by decide +kernel
theorem dX9_enter_51 : decode cX9_enter 51 = .ok (.aload_n 0, 1) := by decide +kernel
theorem dX9_enter_52 : decode cX9_enter 52 = .ok (.getfield 13, 3) := by decide +kernel
theorem dX9_enter_55 : decode cX9_enter 55 = .ok (.aload_n 0, 1) := by decide +kernel
theorem dX9_enter_56 : decode cX9_enter 56 = .ok (.getfield 16, 3) := by decide +kernel
theorem dX9_enter_59 : decode cX9_enter 59 = .ok (.invokevirtual 128, 3) := by decide +kernel
theorem dX9_enter_62 : decode cX9_enter 62 = .ok (.aload_n 0, 1) := by decide +kernel
theorem dX9_enter_63 : decode cX9_enter 63 = .ok (.getfield 16, 3) := by decide +kernel
theorem dX9_enter_66 : decode cX9_enter 66 = .ok (.iload_n 1, 1) := by decide +kernel
theorem dX9_enter_67 : decode cX9_enter 67 = .ok (.iload_n 2, 1) := by decide +kernel
theorem dX9_enter_68 : decode cX9_enter 68 = .ok (.iastore, 1) := by decide +kernel
theorem dX9_enter_69 : decode cX9_enter 69 = .ok (.aload_n 0, 1) := by decide +kernel
theorem dX9_enter_70 : decode cX9_enter 70 = .ok (.aload_n 0, 1) := by decide +kernel
theorem dX9_enter_71 : decode cX9_enter 71 = .ok (.getfield 16, 3) := by decide +kernel
theorem dX9_enter_74 : decode cX9_enter 74 = .ok (.invokevirtual 115, 3) := by decide +kernel
theorem dX9_enter_77 : decode cX9_enter 77 = .ok (.iconst 0, 1) := by decide +kernel
theorem dX9_enter_78 : decode cX9_enter 78 = .ok (.istore 4, 2) := by decide +kernel
theorem dX9_enter_80 : decode cX9_enter 80 = .ok (.iconst 0, 1) := by decide +kernel
theorem dX9_enter_81 : decode cX9_enter 81 = .ok (.istore 5, 2) := by decide +kernel
theorem dX9_enter_83 : decode cX9_enter 83 = .ok (.iload 5, 2) := by decide +kernel
theorem dX9_enter_85 : decode cX9_enter 85 = .ok (.aload_n 0, 1) := by decide +kernel
theorem dX9_enter_86 : decode cX9_enter 86 = .ok (.getfield 55, 3) := by decide +kernel
theorem dX9_enter_89 : decode cX9_enter 89 = .ok (.if_icmp .ge 44, 3) := by decide +kernel
theorem dX9_enter_92 : decode cX9_enter 92 = .ok (.iload 4, 2) := by decide +kernel
theorem dX9_enter_94 : decode cX9_enter 94 = .ok (.aload_n 0, 1) := by decide +kernel
theorem dX9_enter_95 : decode cX9_enter 95 = .ok (.getfield 13, 3) := by decide +kernel
theorem dX9_enter_98 : decode cX9_enter 98 = .ok (.iload 5, 2) := by decide +kernel
theorem dX9_enter_100 : decode cX9_enter 100 = .ok (.iaload, 1) := by decide +kernel
theorem dX9_enter_101 : decode cX9_enter 101 = .ok (.iload_n 2, 1) := by decide +kernel
theorem dX9_enter_102 : decode cX9_enter 102 = .ok (.if_icmp .ne 21, 3) := by decide +kernel
theorem dX9_enter_105 : decode cX9_enter 105 = .ok (.aload_n 0, 1) := by decide +kernel
theorem dX9_enter_106 : decode cX9_enter 106 = .ok (.getfield 25, 3) := by decide +kernel
theorem dX9_enter_109 : decode cX9_enter 109 = .ok (.iload 5, 2) := by decide +kernel
theorem dX9_enter_111 : decode cX9_enter 111 = .ok (.iaload, 1) := by decide +kernel
theorem dX9_enter_112 : decode cX9_enter 112 = .ok (.aload_n 0, 1) := by decide +kernel
theorem dX9_enter_113 : decode cX9_enter 113 = .ok (.getfield 46, 3) := by decide +kernel
theorem dX9_enter_116 : decode cX9_enter 116 = .ok (.iload 5, 2) := by decide +kernel
theorem dX9_enter_118 : decode cX9_enter 118 = .ok (.iaload, 1) := by decide +kernel
theorem dX9_enter_119 : decode cX9_enter 119 = .ok (.isub, 1) := by decide +kernel
theorem dX9_enter_120 : decode cX9_enter 120 = .ok (.goto 4, 3) := by decide +kernel
theorem dX9_enter_123 : decode cX9_enter 123 = .ok (.iconst 0, 1) := by decide +kernel
theorem dX9_enter_124 : decode cX9_enter 124 = .ok (.iadd, 1) := by decide +kernel
theorem dX9_enter_125 : decode cX9_enter 125 = .ok (.istore 4, 2) := by decide +kernel
theorem dX9_enter_127 : decode cX9_enter 127 = .ok (.iinc 5 1, 3) := by decide +kernel
theorem dX9_enter_130 : decode cX9_enter 130 = .ok (.goto (-47), 3) := by decide +kernel
theorem dX9_enter_133 : decode cX9_enter 133 = .ok (.iload_n 3, 1) := by decide +kernel
theorem dX9_enter_134 : decode cX9_enter 134 = .ok (.ifCond .ne 19, 3) := by decide +kernel
theorem dX9_enter_137 : decode cX9_enter 137 = .ok (.aload_n 0, 1) := by decide +kernel
theorem dX9_enter_138 : decode cX9_enter 138 = .ok (.getfield 25, 3) := by decide +kernel
theorem dX9_enter_141 : decode cX9_enter 141 = .ok (.iload_n 1, 1) := by decide +kernel
theorem dX9_enter_142 : decode cX9_enter 142 = .ok (.iaload, 1) := by decide +kernel
theorem dX9_enter_143 : decode cX9_enter 143 = .ok (.aload_n 0, 1) := by decide +kernel
theorem dX9_enter_144 : decode cX9_enter 144 = .ok (.getfield 46, 3) := by decide +kernel
theorem dX9_enter_147 : decode cX9_enter 147 = .ok (.iload_n 1, 1) := by decide +kernel
theorem dX9_enter_148 : decode cX9_enter 148 = .ok (.iaload, 1) := by decide +kernel
theorem dX9_enter_149 : decode cX9_enter 149 = .ok (.isub, 1) := by decide +kernel
theorem dX9_enter_150 : decode cX9_enter 150 = .ok (.goto 5, 3) := by decide +kernel
theorem dX9_enter_153 : decode cX9_enter 153 = .ok (.iload 4, 2) := by decide +kernel
theorem dX9_enter_155 : decode cX9_enter 155 = .ok (.ireturn, 1) := by decide +kernel
theorem dX9_holds_0 : decode cX9_holds 0 = .ok (.aload_n 0, 1) := by decide +kernel
theorem dX9_holds_1 : decode cX9_holds 1 = .ok (.aload_n 0, 1) := by decide +kernel
theorem dX9_holds_2 : decode cX9_holds 2 = .ok (.getfield 13, 3) := by decide +kernel
theorem dX9_holds_5 : decode cX9_holds 5 = .ok (.invokevirtual 143, 3) := by decide +kernel
theorem dX9_holds_8 : decode cX9_holds 8 = .ok (.iconst 0, 1) := by decide +kernel
theorem dX9_holds_9 : decode cX9_holds 9 = .ok (.istore_n 1, 1) := by decide +kernel
theorem dX9_holds_10 : decode cX9_holds 10 = .ok (.iconst 0, 1) := by decide +kernel
theorem dX9_holds_11 : decode cX9_holds 11 = .ok (.istore_n 2, 1) := by decide +kernel
theorem dX9_holds_12 : decode cX9_holds 12 = .ok (.iload_n 2, 1) := by decide +kernel
theorem dX9_holds_13 : decode cX9_holds 13 = .ok (.aload_n 0, 1) := by decide +kernel
theorem dX9_holds_14 : decode cX9_holds 14 = .ok (.getfield 55, 3) := by decide +kernel
theorem dX9_holds_17 : decode cX9_holds 17 = .ok (.if_icmp .ge 30, 3) := by decide +kernel
theorem dX9_holds_20 : decode cX9_holds 20 = .ok (.aload_n 0, 1) := by decide +kernel
theorem dX9_holds_21 : decode cX9_holds 21 = .ok (.aload_n 0, 1) := by decide +kernel
theorem dX9_holds_22 : decode cX9_holds 22 = .ok (.getfield 13, 3) := by decide +kernel
theorem dX9_holds_25 : decode cX9_holds 25 = .ok (.iload_n 2, 1) := by decide +kernel
theorem dX9_holds_26 : decode cX9_holds 26 = .ok (.invokevirtual 132, 3) := by decide +kernel
theorem dX9_holds_29 : decode cX9_holds 29 = .ok (.istore_n 3, 1) := by decide +kernel
theorem dX9_holds_30 : decode cX9_holds 30 = .ok (.iload_n 3, 1) := by decide +kernel
theorem dX9_holds_31 : decode cX9_holds 31 = .ok (.iload_n 1, 1) := by decide +kernel
theorem dX9_holds_32 : decode cX9_holds 32 = .ok (.if_icmp .le 7, 3) := by decide +kernel
theorem dX9_holds_35 : decode cX9_holds 35 = .ok (.iload_n 3, 1) := by decide +kernel
theorem dX9_holds_36 : decode cX9_holds 36 = .ok (.goto 4, 3) := by decide +kernel
theorem dX9_holds_39 : decode cX9_holds 39 = .ok (.iload_n 1, 1) := by decide +kernel
theorem dX9_holds_40 : decode cX9_holds 40 = .ok (.istore_n 1, 1) := by decide +kernel
theorem dX9_holds_41 : decode cX9_holds 41 = .ok (.iinc 2 1, 3) := by decide +kernel
theorem dX9_holds_44 : decode cX9_holds 44 = .ok (.goto (-32), 3) := by decide +kernel
theorem dX9_holds_47 : decode cX9_holds 47 = .ok (.iload_n 1, 1) := by decide +kernel
theorem dX9_holds_48 : decode cX9_holds 48 = .ok (.ireturn, 1) := by decide +kernel
theorem dX9_hurt_0 : decode cX9_hurt 0 = .ok (.aload_n 0, 1) := by decide +kernel
theorem dX9_hurt_1 : decode cX9_hurt 1 = .ok (.iload_n 1, 1) := by decide +kernel
theorem dX9_hurt_2 : decode cX9_hurt 2 = .ok (.invokevirtual 180, 3) := by decide +kernel
theorem dX9_hurt_5 : decode cX9_hurt 5 = .ok (.ifCond .ne 6, 3) := by decide +kernel
theorem dX9_hurt_8 : decode cX9_hurt 8 = .ok (.bipush (-2), 2) := by decide +kernel
theorem dX9_hurt_10 : decode cX9_hurt 10 = .ok (.ireturn, 1) := by decide +kernel
theorem dX9_hurt_11 : decode cX9_hurt 11 = .ok (.aload_n 0, 1) := by decide +kernel
theorem dX9_hurt_12 : decode cX9_hurt 12 = .ok (.aload_n 0, 1) := by decide +kernel
theorem dX9_hurt_13 : decode cX9_hurt 13 = .ok (.getfield 13, 3) := by decide +kernel
theorem dX9_hurt_16 : decode cX9_hurt 16 = .ok (.invokevirtual 143, 3) := by decide +kernel
theorem dX9_hurt_19 : decode cX9_hurt 19 = .ok (.iconst 0, 1) := by decide +kernel
theorem dX9_hurt_20 : decode cX9_hurt 20 = .ok (.istore_n 2, 1) := by decide +kernel
theorem dX9_hurt_21 : decode cX9_hurt 21 = .ok (.iload_n 2, 1) := by decide +kernel
theorem dX9_hurt_22 : decode cX9_hurt 22 = .ok (.bipush 6, 2) := by decide +kernel
theorem dX9_hurt_24 : decode cX9_hurt 24 = .ok (.if_icmp .ge 38, 3) := by decide +kernel
theorem dX9_hurt_27 : decode cX9_hurt 27 = .ok (.aload_n 0, 1) := by decide +kernel
theorem dX9_hurt_28 : decode cX9_hurt 28 = .ok (.getfield 16, 3) := by decide +kernel
theorem dX9_hurt_31 : decode cX9_hurt 31 = .ok (.iload_n 2, 1) := by decide +kernel
theorem dX9_hurt_32 : decode cX9_hurt 32 = .ok (.aload_n 0, 1) := by decide +kernel
theorem dX9_hurt_33 : decode cX9_hurt 33 = .ok (.getfield 13, 3) := by decide +kernel
theorem dX9_hurt_36 : decode cX9_hurt 36 = .ok (.iload_n 2, 1) := by decide +kernel
theorem dX9_hurt_37 : decode cX9_hurt 37 = .ok (.iaload, 1) := by decide +kernel
theorem dX9_hurt_38 : decode cX9_hurt 38 = .ok (.iload_n 1, 1) := by decide +kernel
theorem dX9_hurt_39 : decode cX9_hurt 39 = .ok (.if_icmp .ne 10, 3) := by decide +kernel
theorem dX9_hurt_42 : decode cX9_hurt 42 = .ok (.bipush 7, 2) := by decide +kernel
theorem dX9_hurt_44 : decode cX9_hurt 44 = .ok (.iload_n 2, 1) := by decide +kernel
theorem dX9_hurt_45 : decode cX9_hurt 45 = .ok (.iadd, 1) := by decide +kernel
theorem dX9_hurt_46 : decode cX9_hurt 46 = .ok (.goto 9, 3) := by decide +kernel
theorem dX9_hurt_49 : decode cX9_hurt 49 = .ok (.aload_n 0, 1) := by decide +kernel
theorem dX9_hurt_50 : decode cX9_hurt 50 = .ok (.getfield 13, 3) := by decide +kernel
theorem dX9_hurt_53 : decode cX9_hurt 53 = .ok (.iload_n 2, 1) := by decide +kernel
theorem dX9_hurt_54 : decode cX9_hurt 54 = .ok (.iaload, 1) := by decide +kernel
theorem dX9_hurt_55 : decode cX9_hurt 55 = .ok (.iastore, 1) := by decide +kernel
theorem dX9_hurt_56 : decode cX9_hurt 56 = .ok (.iinc 2 1, 3) := by decide +kernel
theorem dX9_hurt_59 : decode cX9_hurt 59 = .ok (.goto (-38), 3) := by decide +kernel
theorem dX9_hurt_62 : decode cX9_hurt 62 = .ok (.aload_n 0, 1) := by decide +kernel
theorem dX9_hurt_63 : decode cX9_hurt 63 = .ok (.aload_n 0, 1) := by decide +kernel
theorem dX9_hurt_64 : decode cX9_hurt 64 = .ok (.getfield 16, 3) := by decide +kernel
theorem dX9_hurt_67 : decode cX9_hurt 67 = .ok (.invokevirtual 115, 3) := by decide +kernel
theorem dX9_hurt_70 : decode cX9_hurt 70 = .ok (.iconst 0, 1) := by decide +kernel
theorem dX9_hurt_71 : decode cX9_hurt 71 = .ok (.istore_n 2, 1) := by decide +kernel
theorem dX9_hurt_72 : decode cX9_hurt 72 = .ok (.iconst 0, 1) := by decide +kernel
theorem dX9_hurt_73 : decode cX9_hurt 73 = .ok (.istore_n 3, 1) := by decide +kernel
theorem dX9_hurt_74 : decode cX9_hurt 74 = .ok (.iload_n 3, 1) := by decide +kernel
theorem dX9_hurt_75 : decode cX9_hurt 75 = .ok (.aload_n 0, 1) := by decide +kernel
theorem dX9_hurt_76 : decode cX9_hurt 76 = .ok (.getfield 55, 3) := by decide +kernel
theorem dX9_hurt_79 : decode cX9_hurt 79 = .ok (.if_icmp .ge 44, 3) := by decide +kernel
theorem dX9_hurt_82 : decode cX9_hurt 82 = .ok (.iload_n 2, 1) := by decide +kernel
theorem dX9_hurt_83 : decode cX9_hurt 83 = .ok (.aload_n 0, 1) := by decide +kernel
theorem dX9_hurt_84 : decode cX9_hurt 84 = .ok (.getfield 13, 3) := by decide +kernel
theorem dX9_hurt_87 : decode cX9_hurt 87 = .ok (.iload_n 3, 1) := by decide +kernel
theorem dX9_hurt_88 : decode cX9_hurt 88 = .ok (.iaload, 1) := by decide +kernel
theorem dX9_hurt_89 : decode cX9_hurt 89 = .ok (.iload_n 1, 1) := by decide +kernel
theorem dX9_hurt_90 : decode cX9_hurt 90 = .ok (.if_icmp .eq 24, 3) := by decide +kernel
theorem dX9_hurt_93 : decode cX9_hurt 93 = .ok (.aload_n 0, 1) := by decide +kernel
theorem dX9_hurt_94 : decode cX9_hurt 94 = .ok (.getfield 46, 3) := by decide +kernel
theorem dX9_hurt_97 : decode cX9_hurt 97 = .ok (.iload_n 3, 1) := by decide +kernel
theorem dX9_hurt_98 : decode cX9_hurt 98 = .ok (.iaload, 1) := by decide +kernel
theorem dX9_hurt_99 : decode cX9_hurt 99 = .ok (.aload_n 0, 1) := by decide +kernel
theorem dX9_hurt_100 : decode cX9_hurt 100 = .ok (.getfield 25, 3) := by decide +kernel
theorem dX9_hurt_103 : decode cX9_hurt 103 = .ok (.iload_n 3, 1) := by decide +kernel
theorem dX9_hurt_104 : decode cX9_hurt 104 = .ok (.iaload, 1) := by decide +kernel
theorem dX9_hurt_105 : decode cX9_hurt 105 = .ok (.if_icmp .ge 9, 3) := by decide +kernel
theorem dX9_hurt_108 : decode cX9_hurt 108 = .ok (.iconst 1, 1) := by decide +kernel
theorem dX9_hurt_109 : decode cX9_hurt 109 = .ok (.iload_n 3, 1) := by decide +kernel
theorem dX9_hurt_110 : decode cX9_hurt 110 = .ok (.ishl, 1) := by decide +kernel
theorem dX9_hurt_111 : decode cX9_hurt 111 = .ok (.goto 4, 3) := by decide +kernel
theorem dX9_hurt_114 : decode cX9_hurt 114 = .ok (.iconst 0, 1) := by decide +kernel
theorem dX9_hurt_115 : decode cX9_hurt 115 = .ok (.ior, 1) := by decide +kernel
theorem dX9_hurt_116 : decode cX9_hurt 116 = .ok (.istore_n 2, 1) := by decide +kernel
theorem dX9_hurt_117 : decode cX9_hurt 117 = .ok (.iinc 3 1, 3) := by decide +kernel
theorem dX9_hurt_120 : decode cX9_hurt 120 = .ok (.goto (-46), 3) := by decide +kernel
theorem dX9_hurt_123 : decode cX9_hurt 123 = .ok (.iload_n 2, 1) := by decide +kernel
theorem dX9_hurt_124 : decode cX9_hurt 124 = .ok (.ireturn, 1) := by decide +kernel
theorem dX9_edge_0 : decode cX9_edge 0 = .ok (.aload_n 0, 1) := by decide +kernel
theorem dX9_edge_1 : decode cX9_edge 1 = .ok (.iload_n 1, 1) := by decide +kernel
theorem dX9_edge_2 : decode cX9_edge 2 = .ok (.invokevirtual 77, 3) := by decide +kernel
theorem dX9_edge_5 : decode cX9_edge 5 = .ok (.ifCond .ne 5, 3) := by decide +kernel
theorem dX9_edge_8 : decode cX9_edge 8 = .ok (.iconst (-1), 1) := by decide +kernel
theorem dX9_edge_9 : decode cX9_edge 9 = .ok (.ireturn, 1) := by decide +kernel
theorem dX9_edge_10 : decode cX9_edge 10 = .ok (.aload_n 0, 1) := by decide +kernel
theorem dX9_edge_11 : decode cX9_edge 11 = .ok (.getfield 7, 3) := by decide +kernel
theorem dX9_edge_14 : decode cX9_edge 14 = .ok (.iconst 4, 1) := by decide +kernel
theorem dX9_edge_15 : decode cX9_edge 15 = .ok (.iload_n 1, 1) := by decide +kernel
theorem dX9_edge_16 : decode cX9_edge 16 = .ok (.imul, 1) := by decide +kernel
theorem dX9_edge_17 : decode cX9_edge 17 = .ok (.iconst 1, 1) := by decide +kernel
theorem dX9_edge_18 : decode cX9_edge 18 = .ok (.iadd, 1) := by decide +kernel
theorem dX9_edge_19 : decode cX9_edge 19 = .ok (.iaload, 1) := by decide +kernel
theorem dX9_edge_20 : decode cX9_edge 20 = .ok (.istore_n 2, 1) := by decide +kernel
theorem dX9_edge_21 : decode cX9_edge 21 = .ok (.aload_n 0, 1) := by decide +kernel
theorem dX9_edge_22 : decode cX9_edge 22 = .ok (.aload_n 0, 1) := by decide +kernel
theorem dX9_edge_23 : decode cX9_edge 23 = .ok (.getfield 13, 3) := by decide +kernel
theorem dX9_edge_26 : decode cX9_edge 26 = .ok (.iconst 0, 1) := by decide +kernel
theorem dX9_edge_27 : decode cX9_edge 27 = .ok (.invokevirtual 155, 3) := by decide +kernel
theorem dX9_edge_30 : decode cX9_edge 30 = .ok (.ifCond .ge 7, 3) := by decide +kernel
theorem dX9_edge_33 : decode cX9_edge 33 = .ok (.iconst 1, 1) := by decide +kernel
theorem dX9_edge_34 : decode cX9_edge 34 = .ok (.goto 4, 3) := by decide +kernel
theorem dX9_edge_37 : decode cX9_edge 37 = .ok (.iconst 0, 1) := by decide +kernel
theorem dX9_edge_38 : decode cX9_edge 38 = .ok (.istore_n 3, 1) := by decide +kernel
theorem dX9_edge_39 : decode cX9_edge 39 = .ok (.bipush (-6), 2) := by decide +kernel
theorem dX9_edge_41 : decode cX9_edge 41 = .ok (.istore 4, 2) := by decide +kernel
theorem dX9_edge_43 : decode cX9_edge 43 = .ok (.iconst 1, 1) := by decide +kernel
theorem dX9_edge_44 : decode cX9_edge 44 = .ok (.istore 5, 2) := by decide +kernel
theorem dX9_edge_46 : decode cX9_edge 46 = .ok (.iload 5, 2) := by decide +kernel
theorem dX9_edge_48 : decode cX9_edge 48 = .ok (.bipush 99, 2) := by decide +kernel
theorem dX9_edge_50 : decode cX9_edge 50 = .ok (.if_icmp .ge 107, 3) := by decide +kernel
theorem dX9_edge_53 : decode cX9_edge 53 = .ok (.iload 4, 2) := by decide +kernel
theorem dX9_edge_55 : decode cX9_edge 55 = .ok (.ifCond .ge 102, 3) := by decide +kernel
theorem dX9_edge_58 : decode cX9_edge 58 = .ok (.iconst 0, 1) := by decide +kernel
theorem dX9_edge_59 : decode cX9_edge 59 = .ok (.istore 6, 2) := by decide +kernel
theorem dX9_edge_61 : decode cX9_edge 61 = .ok (.iload 6, 2) := by decide +kernel
theorem dX9_edge_63 : decode cX9_edge 63 = .ok (.iconst 2, 1) := by decide +kernel
theorem dX9_edge_64 : decode cX9_edge 64 = .ok (.if_icmp .ge 87, 3) := by decide +kernel
theorem dX9_edge_67 : decode cX9_edge 67 = .ok (.iload 4, 2) := by decide +kernel
theorem dX9_edge_69 : decode cX9_edge 69 = .ok (.ifCond .ge 82, 3) := by decide +kernel
theorem dX9_edge_72 : decode cX9_edge 72 = .ok (.iload 6, 2) := by decide +kernel
theorem dX9_edge_74 : decode cX9_edge 74 = .ok (.ifCond .ne 10, 3) := by decide +kernel
theorem dX9_edge_77 : decode cX9_edge 77 = .ok (.iload_n 2, 1) := by decide +kernel
theorem dX9_edge_78 : decode cX9_edge 78 = .ok (.iload 5, 2) := by decide +kernel
theorem dX9_edge_80 : decode cX9_edge 80 = .ok (.isub, 1) := by decide +kernel
theorem dX9_edge_81 : decode cX9_edge 81 = .ok (.goto 7, 3) := by decide +kernel
theorem dX9_edge_84 : decode cX9_edge 84 = .ok (.iload_n 2, 1) := by decide +kernel
theorem dX9_edge_85 : decode cX9_edge 85 = .ok (.iload 5, 2) := by decide +kernel
theorem dX9_edge_87 : decode cX9_edge 87 = .ok (.iadd, 1) := by decide +kernel
theorem dX9_edge_88 : decode cX9_edge 88 = .ok (.istore 7, 2) := by decide +kernel
theorem dX9_edge_90 : decode cX9_edge 90 = .ok (.iload 7, 2) := by decide +kernel
theorem dX9_edge_92 : decode cX9_edge 92 = .ok (.i2l, 1) := by decide +kernel
theorem dX9_edge_93 : decode cX9_edge 93 = .ok (.lconst 1, 1) := by decide +kernel
theorem dX9_edge_94 : decode cX9_edge 94 = .ok (.ldc2_w 63, 3) := by decide +kernel
theorem dX9_edge_97 : decode cX9_edge 97 = .ok (.invokestatic 59, 3) := by decide +kernel
theorem dX9_edge_100 : decode cX9_edge 100 = .ok (.ifCond .eq 45, 3) := by decide +kernel
theorem dX9_edge_103 : decode cX9_edge 103 = .ok (.aload_n 0, 1) := by decide +kernel
theorem dX9_edge_104 : decode cX9_edge 104 = .ok (.getfield 7, 3) := by decide +kernel
theorem dX9_edge_107 : decode cX9_edge 107 = .ok (.iconst 4, 1) := by decide +kernel
theorem dX9_edge_108 : decode cX9_edge 108 = .ok (.iload_n 1, 1) := by decide +kernel
theorem dX9_edge_109 : decode cX9_edge 109 = .ok (.imul, 1) := by decide +kernel
theorem dX9_edge_110 : decode cX9_edge 110 = .ok (.iconst 1, 1) := by decide +kernel
theorem dX9_edge_111 : decode cX9_edge 111 = .ok (.iadd, 1) := by decide +kernel
theorem dX9_edge_112 : decode cX9_edge 112 = .ok (.iload 7, 2) := by decide +kernel
theorem dX9_edge_114 : decode cX9_edge 114 = .ok (.iastore, 1) := by decide +kernel
theorem dX9_edge_115 : decode cX9_edge 115 = .ok (.aload_n 0, 1) := by decide +kernel
theorem dX9_edge_116 : decode cX9_edge 116 = .ok (.aload_n 0, 1) := by decide +kernel
theorem dX9_edge_117 : decode cX9_edge 117 = .ok (.getfield 13, 3) := by decide +kernel
theorem dX9_edge_120 : decode cX9_edge 120 = .ok (.iconst 0, 1) := by decide +kernel
theorem dX9_edge_121 : decode cX9_edge 121 = .ok (.invokevirtual 155, 3) := by decide +kernel
theorem dX9_edge_124 : decode cX9_edge 124 = .ok (.ifCond .ge 7, 3) := by decide +kernel
theorem dX9_edge_127 : decode cX9_edge 127 = .ok (.iconst 1, 1) := by decide +kernel
theorem dX9_edge_128 : decode cX9_edge 128 = .ok (.goto 4, 3) := by decide +kernel
theorem dX9_edge_131 : decode cX9_edge 131 = .ok (.iconst 0, 1) := by decide +kernel
theorem dX9_edge_132 : decode cX9_edge 132 = .ok (.iload_n 3, 1) := by decide +kernel
theorem dX9_edge_133 : decode cX9_edge 133 = .ok (.if_icmp .eq 8, 3) := by decide +kernel
theorem dX9_edge_136 : decode cX9_edge 136 = .ok (.iload 7, 2) := by decide +kernel
theorem dX9_edge_138 : decode cX9_edge 138 = .ok (.goto 5, 3) := by decide +kernel
theorem dX9_edge_141 : decode cX9_edge 141 = .ok (.bipush (-6), 2) := by decide +kernel
theorem dX9_edge_143 : decode cX9_edge 143 = .ok (.istore 4, 2) := by decide +kernel
theorem dX9_edge_145 : decode cX9_edge 145 = .ok (.iinc 6 1, 3) := by decide +kernel
theorem dX9_edge_148 : decode cX9_edge 148 = .ok (.goto (-87), 3) := by decide +kernel
theorem dX9_edge_151 : decode cX9_edge 151 = .ok (.iinc 5 1, 3) := by decide +kernel
theorem dX9_edge_154 : decode cX9_edge 154 = .ok (.goto (-108), 3) := by decide +kernel
theorem dX9_edge_157 : decode cX9_edge 157 = .ok (.aload_n 0, 1) := by decide +kernel
theorem dX9_edge_158 : decode cX9_edge 158 = .ok (.getfield 7, 3) := by decide +kernel
theorem dX9_edge_161 : decode cX9_edge 161 = .ok (.iconst 4, 1) := by decide +kernel
theorem dX9_edge_162 : decode cX9_edge 162 = .ok (.iload_n 1, 1) := by decide +kernel
theorem dX9_edge_163 : decode cX9_edge 163 = .ok (.imul, 1) := by decide +kernel
theorem dX9_edge_164 : decode cX9_edge 164 = .ok (.iconst 1, 1) := by decide +kernel
theorem dX9_edge_165 : decode cX9_edge 165 = .ok (.iadd, 1) := by decide +kernel
theorem dX9_edge_166 : decode cX9_edge 166 = .ok (.iload_n 2, 1) := by decide +kernel
theorem dX9_edge_167 : decode cX9_edge 167 = .ok (.iastore, 1) := by decide +kernel
theorem dX9_edge_168 : decode cX9_edge 168 = .ok (.iload 4, 2) := by decide +kernel
theorem dX9_edge_170 : decode cX9_edge 170 = .ok (.ireturn, 1) := by decide +kernel
theorem dX9_told_0 : decode cX9_told 0 = .ok (.iload_n 1, 1) := by decide +kernel
theorem dX9_told_1 : decode cX9_told 1 = .ok (.i2l, 1) := by decide +kernel
theorem dX9_told_2 : decode cX9_told 2 = .ok (.ldc2_w 171, 3) := by decide +kernel
theorem dX9_told_5 : decode cX9_told 5 = .ok (.ldc2_w 173, 3) := by decide +kernel
theorem dX9_told_8 : decode cX9_told 8 = .ok (.invokestatic 59, 3) := by decide +kernel
theorem dX9_told_11 : decode cX9_told 11 = .ok (.ifCond .eq 33, 3) := by decide +kernel
theorem dX9_told_14 : decode cX9_told 14 = .ok (.aload_n 0, 1) := by decide +kernel
theorem dX9_told_15 : decode cX9_told 15 = .ok (.iload_n 1, 1) := by decide +kernel
theorem dX9_told_16 : decode cX9_told 16 = .ok (.bipush 10, 2) := by decide +kernel
theorem dX9_told_18 : decode cX9_told 18 = .ok (.isub, 1) := by decide +kernel
theorem dX9_told_19 : decode cX9_told 19 = .ok (.invokevirtual 77, 3) := by decide +kernel
theorem dX9_told_22 : decode cX9_told 22 = .ok (.ifCond .eq 19, 3) := by decide +kernel
theorem dX9_told_25 : decode cX9_told 25 = .ok (.aload_n 0, 1) := by decide +kernel
theorem dX9_told_26 : decode cX9_told 26 = .ok (.getfield 7, 3) := by decide +kernel
theorem dX9_told_29 : decode cX9_told 29 = .ok (.iconst 4, 1) := by decide +kernel
theorem dX9_told_30 : decode cX9_told 30 = .ok (.iload_n 1, 1) := by decide +kernel
theorem dX9_told_31 : decode cX9_told 31 = .ok (.bipush 10, 2) := by decide +kernel
theorem dX9_told_33 : decode cX9_told 33 = .ok (.isub, 1) := by decide +kernel
theorem dX9_told_34 : decode cX9_told 34 = .ok (.imul, 1) := by decide +kernel
theorem dX9_told_35 : decode cX9_told 35 = .ok (.iconst 1, 1) := by decide +kernel
theorem dX9_told_36 : decode cX9_told 36 = .ok (.iadd, 1) := by decide +kernel
theorem dX9_told_37 : decode cX9_told 37 = .ok (.iaload, 1) := by decide +kernel
theorem dX9_told_38 : decode cX9_told 38 = .ok (.goto 5, 3) := by decide +kernel
theorem dX9_told_41 : decode cX9_told 41 = .ok (.bipush (-6), 2) := by decide +kernel
theorem dX9_told_43 : decode cX9_told 43 = .ok (.ireturn, 1) := by decide +kernel
theorem dX9_told_44 : decode cX9_told 44 = .ok (.iload_n 1, 1) := by decide +kernel
theorem dX9_told_45 : decode cX9_told 45 = .ok (.tableswitch 64 0 4 #[35, 40, 45, 50, 55], 35) := by decide +kernel
theorem dX9_told_80 : decode cX9_told 80 = .ok (.aload_n 0, 1) := by decide +kernel
theorem dX9_told_81 : decode cX9_told 81 = .ok (.getfield 55, 3) := by decide +kernel
theorem dX9_told_84 : decode cX9_told 84 = .ok (.ireturn, 1) := by decide +kernel
theorem dX9_told_85 : decode cX9_told 85 = .ok (.aload_n 0, 1) := by decide +kernel
theorem dX9_told_86 : decode cX9_told 86 = .ok (.getfield 95, 3) := by decide +kernel
theorem dX9_told_89 : decode cX9_told 89 = .ok (.ireturn, 1) := by decide +kernel
theorem dX9_told_90 : decode cX9_told 90 = .ok (.aload_n 0, 1) := by decide +kernel
theorem dX9_told_91 : decode cX9_told 91 = .ok (.getfield 85, 3) := by decide +kernel
theorem dX9_told_94 : decode cX9_told 94 = .ok (.ireturn, 1) := by decide +kernel
theorem dX9_told_95 : decode cX9_told 95 = .ok (.aload_n 0, 1) := by decide +kernel
theorem dX9_told_96 : decode cX9_told 96 = .ok (.getfield 88, 3) := by decide +kernel
theorem dX9_told_99 : decode cX9_told 99 = .ok (.ireturn, 1) := by decide +kernel
theorem dX9_told_100 : decode cX9_told 100 = .ok (.aload_n 0, 1) := by decide +kernel
theorem dX9_told_101 : decode cX9_told 101 = .ok (.aload_n 0, 1) := by decide +kernel
theorem dX9_told_102 : decode cX9_told 102 = .ok (.getfield 13, 3) := by decide +kernel
theorem dX9_told_105 : decode cX9_told 105 = .ok (.invokevirtual 73, 3) := by decide +kernel
theorem dX9_told_108 : decode cX9_told 108 = .ok (.ireturn, 1) := by decide +kernel
theorem dX9_told_109 : decode cX9_told 109 = .ok (.bipush (-2), 2) := by decide +kernel
theorem dX9_told_111 : decode cX9_told 111 = .ok (.ireturn, 1) := by decide +kernel
