theorem dX0_init_0 : decode cX0_init 0 = .ok (.aload_n 0, 1) := by decide +kernel
theorem dX0_init_1 : decode cX0_init 1 = .ok (.invokespecial 3, 3) := by decide +kernel
theorem dX0_init_4 : decode cX0_init 4 = .ok (.aload_n 0, 1) := by decide +kernel
theorem dX0_init_5 : decode cX0_init 5 = .ok (.new 9, 3) := by decide +kernel
theorem dX0_init_8 : decode cX0_init 8 = .ok (.dup, 1) := by decide +kernel
theorem dX0_init_9 : decode cX0_init 9 = .ok (.invokespecial 11, 3) := by decide +kernel
theorem dX0_init_12 : decode cX0_init 12 = .ok (.putfield 12, 3) := by decide +kernel
theorem dX0_init_15 : decode cX0_init 15 = .ok (.aload_n 0, 1) := by decide +kernel
theorem dX0_init_16 : decode cX0_init 16 = .ok (.new 18, 3) := by decide +kernel
theorem dX0_init_19 : decode cX0_init 19 = .ok (.dup, 1) := by decide +kernel
theorem dX0_init_20 : decode cX0_init 20 = .ok (.invokespecial 20, 3) := by decide +kernel
theorem dX0_init_23 : decode cX0_init 23 = .ok (.putfield 21, 3) := by decide +kernel
theorem dX0_init_26 : decode cX0_init 26 = .ok (.aload_n 0, 1) := by decide +kernel
theorem dX0_init_27 : decode cX0_init 27 = .ok (.sipush 203, 3) := by decide +kernel
theorem dX0_init_30 : decode cX0_init 30 = .ok (.newarray .int, 2) := by decide +kernel
theorem dX0_init_32 : decode cX0_init 32 = .ok (.putfield 25, 3) := by decide +kernel
theorem dX0_init_35 : decode cX0_init 35 = .ok (.aload_n 0, 1) := by decide +kernel
theorem dX0_init_36 : decode cX0_init 36 = .ok (.sipush 1218, 3) := by decide +kernel
theorem dX0_init_39 : decode cX0_init 39 = .ok (.newarray .int, 2) := by decide +kernel
theorem dX0_init_41 : decode cX0_init 41 = .ok (.putfield 29, 3) := by decide +kernel
theorem dX0_init_44 : decode cX0_init 44 = .ok (.return_, 1) := by decide +kernel
theorem dX0_rowOf_0 : decode cX0_rowOf 0 = .ok (.aload_n 1, 1) := by decide +kernel
theorem dX0_rowOf_1 : decode cX0_rowOf 1 = .ok (.invokevirtual 32, 3) := by decide +kernel
theorem dX0_rowOf_4 : decode cX0_rowOf 4 = .ok (.istore_n 2, 1) := by decide +kernel
theorem dX0_rowOf_5 : decode cX0_rowOf 5 = .ok (.iload_n 2, 1) := by decide +kernel
theorem dX0_rowOf_6 : decode cX0_rowOf 6 = .ok (.bipush 6, 2) := by decide +kernel
theorem dX0_rowOf_8 : decode cX0_rowOf 8 = .ok (.imul, 1) := by decide +kernel
theorem dX0_rowOf_9 : decode cX0_rowOf 9 = .ok (.istore_n 3, 1) := by decide +kernel
theorem dX0_rowOf_10 : decode cX0_rowOf 10 = .ok (.aload_n 0, 1) := by decide +kernel
theorem dX0_rowOf_11 : decode cX0_rowOf 11 = .ok (.getfield 25, 3) := by decide +kernel
theorem dX0_rowOf_14 : decode cX0_rowOf 14 = .ok (.iload_n 2, 1) := by decide +kernel
theorem dX0_rowOf_15 : decode cX0_rowOf 15 = .ok (.iaload, 1) := by decide +kernel
theorem dX0_rowOf_16 : decode cX0_rowOf 16 = .ok (.aload_n 0, 1) := by decide +kernel
theorem dX0_rowOf_17 : decode cX0_rowOf 17 = .ok (.getfield 12, 3) := by decide +kernel
theorem dX0_rowOf_20 : decode cX0_rowOf 20 = .ok (.getfield 38, 3) := by decide +kernel
theorem dX0_rowOf_23 : decode cX0_rowOf 23 = .ok (.if_icmp .eq 68, 3) := by decide +kernel
theorem dX0_rowOf_26 : decode cX0_rowOf 26 = .ok (.aload_n 0, 1) := by decide +kernel
theorem dX0_rowOf_27 : decode cX0_rowOf 27 = .ok (.getfield 21, 3) := by decide +kernel
theorem dX0_rowOf_30 : decode cX0_rowOf 30 = .ok (.aload_n 0, 1) := by decide +kernel
theorem dX0_rowOf_31 : decode cX0_rowOf 31 = .ok (.getfield 12, 3) := by decide +kernel
theorem dX0_rowOf_34 : decode cX0_rowOf 34 = .ok (.aload_n 1, 1) := by decide +kernel
theorem dX0_rowOf_35 : decode cX0_rowOf 35 = .ok (.invokevirtual 42, 3) := by decide +kernel
theorem dX0_rowOf_38 : decode cX0_rowOf 38 = .ok (.iconst 0, 1) := by decide +kernel
theorem dX0_rowOf_39 : decode cX0_rowOf 39 = .ok (.istore 4, 2) := by decide +kernel
theorem dX0_rowOf_41 : decode cX0_rowOf 41 = .ok (.iload 4, 2) := by decide +kernel
theorem dX0_rowOf_43 : decode cX0_rowOf 43 = .ok (.aload_n 0, 1) := by decide +kernel
theorem dX0_rowOf_44 : decode cX0_rowOf 44 = .ok (.getfield 12, 3) := by decide +kernel
theorem dX0_rowOf_47 : decode cX0_rowOf 47 = .ok (.getfield 46, 3) := by decide +kernel
theorem dX0_rowOf_50 : decode cX0_rowOf 50 = .ok (.if_icmp .ge 28, 3) := by decide +kernel
theorem dX0_rowOf_53 : decode cX0_rowOf 53 = .ok (.aload_n 0, 1) := by decide +kernel
theorem dX0_rowOf_54 : decode cX0_rowOf 54 = .ok (.getfield 29, 3) := by decide +kernel
theorem dX0_rowOf_57 : decode cX0_rowOf 57 = .ok (.iload_n 3, 1) := by decide +kernel
theorem dX0_rowOf_58 : decode cX0_rowOf 58 = .ok (.iload 4, 2) := by decide +kernel
theorem dX0_rowOf_60 : decode cX0_rowOf 60 = .ok (.iadd, 1) := by decide +kernel
theorem dX0_rowOf_61 : decode cX0_rowOf 61 = .ok (.aload_n 0, 1) := by decide +kernel
theorem dX0_rowOf_62 : decode cX0_rowOf 62 = .ok (.getfield 21, 3) := by decide +kernel
theorem dX0_rowOf_65 : decode cX0_rowOf 65 = .ok (.getfield 49, 3) := by decide +kernel
theorem dX0_rowOf_68 : decode cX0_rowOf 68 = .ok (.iload 4, 2) := by decide +kernel
theorem dX0_rowOf_70 : decode cX0_rowOf 70 = .ok (.iaload, 1) := by decide +kernel
theorem dX0_rowOf_71 : decode cX0_rowOf 71 = .ok (.iastore, 1) := by decide +kernel
theorem dX0_rowOf_72 : decode cX0_rowOf 72 = .ok (.iinc 4 1, 3) := by decide +kernel
theorem dX0_rowOf_75 : decode cX0_rowOf 75 = .ok (.goto (-34), 3) := by decide +kernel
theorem dX0_rowOf_78 : decode cX0_rowOf 78 = .ok (.aload_n 0, 1) := by decide +kernel
theorem dX0_rowOf_79 : decode cX0_rowOf 79 = .ok (.getfield 25, 3) := by decide +kernel
theorem dX0_rowOf_82 : decode cX0_rowOf 82 = .ok (.iload_n 2, 1) := by decide +kernel
theorem dX0_rowOf_83 : decode cX0_rowOf 83 = .ok (.aload_n 0, 1) := by decide +kernel
theorem dX0_rowOf_84 : decode cX0_rowOf 84 = .ok (.getfield 12, 3) := by decide +kernel
theorem dX0_rowOf_87 : decode cX0_rowOf 87 = .ok (.getfield 38, 3) := by decide +kernel
theorem dX0_rowOf_90 : decode cX0_rowOf 90 = .ok (.iastore, 1) := by decide +kernel
theorem dX0_rowOf_91 : decode cX0_rowOf 91 = .ok (.iload_n 3, 1) := by decide +kernel
theorem dX0_rowOf_92 : decode cX0_rowOf 92 = .ok (.ireturn, 1) := by decide +kernel
theorem dX0_at_0 : decode cX0_at 0 = .ok (.aload_n 0, 1) := by decide +kernel
theorem dX0_at_1 : decode cX0_at 1 = .ok (.getfield 29, 3) := by decide +kernel
theorem dX0_at_4 : decode cX0_at 4 = .ok (.iload_n 1, 1) := by decide +kernel
theorem dX0_at_5 : decode cX0_at 5 = .ok (.iload_n 2, 1) := by decide +kernel
theorem dX0_at_6 : decode cX0_at 6 = .ok (.iadd, 1) := by decide +kernel
theorem dX0_at_7 : decode cX0_at 7 = .ok (.iaload, 1) := by decide +kernel
theorem dX0_at_8 : decode cX0_at 8 = .ok (.ireturn, 1) := by decide +kernel
theorem dX1_init_0 : decode cX1_init 0 = .ok (.aload_n 0, 1) := by decide +kernel
theorem dX1_init_1 : decode cX1_init 1 = .ok (.invokespecial 3, 3) := by decide +kernel
theorem dX1_init_4 : decode cX1_init 4 = .ok (.aload_n 0, 1) := by decide +kernel
theorem dX1_init_5 : decode cX1_init 5 = .ok (.new 9, 3) := by decide +kernel
theorem dX1_init_8 : decode cX1_init 8 = .ok (.dup, 1) := by decide +kernel
theorem dX1_init_9 : decode cX1_init 9 = .ok (.invokespecial 11, 3) := by decide +kernel
theorem dX1_init_12 : decode cX1_init 12 = .ok (.putfield 12, 3) := by decide +kernel
theorem dX1_init_15 : decode cX1_init 15 = .ok (.aload_n 0, 1) := by decide +kernel
theorem dX1_init_16 : decode cX1_init 16 = .ok (.sipush 501, 3) := by decide +kernel
theorem dX1_init_19 : decode cX1_init 19 = .ok (.newarray .int, 2) := by decide +kernel
theorem dX1_init_21 : decode cX1_init 21 = .ok (.putfield 18, 3) := by decide +kernel
theorem dX1_init_24 : decode cX1_init 24 = .ok (.return_, 1) := by decide +kernel
theorem dX1_travel_0 : decode cX1_travel 0 = .ok (.aload_n 0, 1) := by decide +kernel
theorem dX1_travel_1 : decode cX1_travel 1 = .ok (.getfield 12, 3) := by decide +kernel
theorem dX1_travel_4 : decode cX1_travel 4 = .ok (.aload_n 2, 1) := by decide +kernel
theorem dX1_travel_5 : decode cX1_travel 5 = .ok (.invokevirtual 22, 3) := by decide +kernel
theorem dX1_travel_8 : decode cX1_travel 8 = .ok (.aload_n 0, 1) := by decide +kernel
theorem dX1_travel_9 : decode cX1_travel 9 = .ok (.iload_n 3, 1) := by decide +kernel
theorem dX1_travel_10 : decode cX1_travel 10 = .ok (.putfield 26, 3) := by decide +kernel
theorem dX1_travel_13 : decode cX1_travel 13 = .ok (.aload_n 0, 1) := by decide +kernel
theorem dX1_travel_14 : decode cX1_travel 14 = .ok (.iconst (-1), 1) := by decide +kernel
theorem dX1_travel_15 : decode cX1_travel 15 = .ok (.putfield 30, 3) := by decide +kernel
theorem dX1_travel_18 : decode cX1_travel 18 = .ok (.iconst 0, 1) := by decide +kernel
theorem dX1_travel_19 : decode cX1_travel 19 = .ok (.istore 4, 2) := by decide +kernel
theorem dX1_travel_21 : decode cX1_travel 21 = .ok (.iload 4, 2) := by decide +kernel
theorem dX1_travel_23 : decode cX1_travel 23 = .ok (.sipush 500, 3) := by decide +kernel
theorem dX1_travel_26 : decode cX1_travel 26 = .ok (.if_icmp .gt 79, 3) := by decide +kernel
theorem dX1_travel_29 : decode cX1_travel 29 = .ok (.aload_n 0, 1) := by decide +kernel
theorem dX1_travel_30 : decode cX1_travel 30 = .ok (.iload 4, 2) := by decide +kernel
theorem dX1_travel_32 : decode cX1_travel 32 = .ok (.putfield 33, 3) := by decide +kernel
theorem dX1_travel_35 : decode cX1_travel 35 = .ok (.aload_n 0, 1) := by decide +kernel
theorem dX1_travel_36 : decode cX1_travel 36 = .ok (.aload_n 0, 1) := by decide +kernel
theorem dX1_travel_37 : decode cX1_travel 37 = .ok (.invokevirtual 36, 3) := by decide +kernel
theorem dX1_travel_40 : decode cX1_travel 40 = .ok (.iload 4, 2) := by decide +kernel
theorem dX1_travel_42 : decode cX1_travel 42 = .ok (.invokevirtual 40, 3) := by decide +kernel
theorem dX1_travel_45 : decode cX1_travel 45 = .ok (.istore 5, 2) := by decide +kernel
theorem dX1_travel_47 : decode cX1_travel 47 = .ok (.iload 5, 2) := by decide +kernel
theorem dX1_travel_49 : decode cX1_travel 49 = .ok (.ifCond .lt 13, 3) := by decide +kernel
theorem dX1_travel_52 : decode cX1_travel 52 = .ok (.aload_n 0, 1) := by decide +kernel
theorem dX1_travel_53 : decode cX1_travel 53 = .ok (.iload 4, 2) := by decide +kernel
theorem dX1_travel_55 : decode cX1_travel 55 = .ok (.iload 5, 2) := by decide +kernel
theorem dX1_travel_57 : decode cX1_travel 57 = .ok (.isub, 1) := by decide +kernel
theorem dX1_travel_58 : decode cX1_travel 58 = .ok (.putfield 30, 3) := by decide +kernel
theorem dX1_travel_61 : decode cX1_travel 61 = .ok (.return_, 1) := by decide +kernel
theorem dX1_travel_62 : decode cX1_travel 62 = .ok (.aload_n 0, 1) := by decide +kernel
theorem dX1_travel_63 : decode cX1_travel 63 = .ok (.getfield 18, 3) := by decide +kernel
theorem dX1_travel_66 : decode cX1_travel 66 = .ok (.iload 4, 2) := by decide +kernel
theorem dX1_travel_68 : decode cX1_travel 68 = .ok (.aload_n 0, 1) := by decide +kernel
theorem dX1_travel_69 : decode cX1_travel 69 = .ok (.invokevirtual 36, 3) := by decide +kernel
theorem dX1_travel_72 : decode cX1_travel 72 = .ok (.iastore, 1) := by decide +kernel
theorem dX1_travel_73 : decode cX1_travel 73 = .ok (.aload_n 0, 1) := by decide +kernel
theorem dX1_travel_74 : decode cX1_travel 74 = .ok (.aload_n 1, 1) := by decide +kernel
theorem dX1_travel_75 : decode cX1_travel 75 = .ok (.invokevirtual 44, 3) := by decide +kernel
theorem dX1_travel_78 : decode cX1_travel 78 = .ok (.ifCond .ne 9, 3) := by decide +kernel
theorem dX1_travel_81 : decode cX1_travel 81 = .ok (.aload_n 0, 1) := by decide +kernel
theorem dX1_travel_82 : decode cX1_travel 82 = .ok (.iconst 0, 1) := by decide +kernel
theorem dX1_travel_83 : decode cX1_travel 83 = .ok (.putfield 30, 3) := by decide +kernel
theorem dX1_travel_86 : decode cX1_travel 86 = .ok (.return_, 1) := by decide +kernel
theorem dX1_travel_87 : decode cX1_travel 87 = .ok (.iload 4, 2) := by decide +kernel
theorem dX1_travel_89 : decode cX1_travel 89 = .ok (.sipush 500, 3) := by decide +kernel
theorem dX1_travel_92 : decode cX1_travel 92 = .ok (.if_icmp .ge 7, 3) := by decide +kernel
theorem dX1_travel_95 : decode cX1_travel 95 = .ok (.aload_n 0, 1) := by decide +kernel
theorem dX1_travel_96 : decode cX1_travel 96 = .ok (.invokevirtual 48, 3) := by decide +kernel
theorem dX1_travel_99 : decode cX1_travel 99 = .ok (.iinc 4 1, 3) := by decide +kernel
theorem dX1_travel_102 : decode cX1_travel 102 = .ok (.goto (-81), 3) := by decide +kernel
theorem dX1_travel_105 : decode cX1_travel 105 = .ok (.return_, 1) := by decide +kernel
theorem dX1_where_0 : decode cX1_where 0 = .ok (.aload_n 0, 1) := by decide +kernel
theorem dX1_where_1 : decode cX1_where 1 = .ok (.getfield 12, 3) := by decide +kernel
theorem dX1_where_4 : decode cX1_where 4 = .ok (.invokevirtual 51, 3) := by decide +kernel
theorem dX1_where_7 : decode cX1_where 7 = .ok (.bipush 6, 2) := by decide +kernel
theorem dX1_where_9 : decode cX1_where 9 = .ok (.imul, 1) := by decide +kernel
theorem dX1_where_10 : decode cX1_where 10 = .ok (.aload_n 0, 1) := by decide +kernel
theorem dX1_where_11 : decode cX1_where 11 = .ok (.getfield 26, 3) := by decide +kernel
theorem dX1_where_14 : decode cX1_where 14 = .ok (.iadd, 1) := by decide +kernel
theorem dX1_where_15 : decode cX1_where 15 = .ok (.ireturn, 1) := by decide +kernel
theorem dX1_firstSeen_0 : decode cX1_firstSeen 0 = .ok (.iconst 0, 1) := by decide +kernel
theorem dX1_firstSeen_1 : decode cX1_firstSeen 1 = .ok (.istore_n 3, 1) := by decide +kernel
theorem dX1_firstSeen_2 : decode cX1_firstSeen 2 = .ok (.iload_n 3, 1) := by decide +kernel
theorem dX1_firstSeen_3 : decode cX1_firstSeen 3 = .ok (.iload_n 2, 1) := by decide +kernel
theorem dX1_firstSeen_4 : decode cX1_firstSeen 4 = .ok (.if_icmp .ge 21, 3) := by decide +kernel
theorem dX1_firstSeen_7 : decode cX1_firstSeen 7 = .ok (.aload_n 0, 1) := by decide +kernel
theorem dX1_firstSeen_8 : decode cX1_firstSeen 8 = .ok (.getfield 18, 3) := by decide +kernel
theorem dX1_firstSeen_11 : decode cX1_firstSeen 11 = .ok (.iload_n 3, 1) := by decide +kernel
theorem dX1_firstSeen_12 : decode cX1_firstSeen 12 = .ok (.iaload, 1) := by decide +kernel
theorem dX1_firstSeen_13 : decode cX1_firstSeen 13 = .ok (.iload_n 1, 1) := by decide +kernel
theorem dX1_firstSeen_14 : decode cX1_firstSeen 14 = .ok (.if_icmp .ne 5, 3) := by decide +kernel
theorem dX1_firstSeen_17 : decode cX1_firstSeen 17 = .ok (.iload_n 3, 1) := by decide +kernel
theorem dX1_firstSeen_18 : decode cX1_firstSeen 18 = .ok (.ireturn, 1) := by decide +kernel
theorem dX1_firstSeen_19 : decode cX1_firstSeen 19 = .ok (.iinc 3 1, 3) := by decide +kernel
theorem dX1_firstSeen_22 : decode cX1_firstSeen 22 = .ok (.goto (-20), 3) := by decide +kernel
theorem dX1_firstSeen_25 : decode cX1_firstSeen 25 = .ok (.iconst (-1), 1) := by decide +kernel
theorem dX1_firstSeen_26 : decode cX1_firstSeen 26 = .ok (.ireturn, 1) := by decide +kernel
theorem dX1_findGoer_0 : decode cX1_findGoer 0 = .ok (.aload_n 0, 1) := by decide +kernel
theorem dX1_findGoer_1 : decode cX1_findGoer 1 = .ok (.aload_n 0, 1) := by decide +kernel
theorem dX1_findGoer_2 : decode cX1_findGoer 2 = .ok (.getfield 26, 3) := by decide +kernel
theorem dX1_findGoer_5 : decode cX1_findGoer 5 = .ok (.putfield 54, 3) := by decide +kernel
theorem dX1_findGoer_8 : decode cX1_findGoer 8 = .ok (.iconst 0, 1) := by decide +kernel
theorem dX1_findGoer_9 : decode cX1_findGoer 9 = .ok (.istore_n 2, 1) := by decide +kernel
theorem dX1_findGoer_10 : decode cX1_findGoer 10 = .ok (.iload_n 2, 1) := by decide +kernel
theorem dX1_findGoer_11 : decode cX1_findGoer 11 = .ok (.aload_n 0, 1) := by decide +kernel
theorem dX1_findGoer_12 : decode cX1_findGoer 12 = .ok (.getfield 12, 3) := by decide +kernel
theorem dX1_findGoer_15 : decode cX1_findGoer 15 = .ok (.getfield 57, 3) := by decide +kernel
theorem dX1_findGoer_18 : decode cX1_findGoer 18 = .ok (.if_icmp .ge 48, 3) := by decide +kernel
theorem dX1_findGoer_21 : decode cX1_findGoer 21 = .ok (.aload_n 0, 1) := by decide +kernel
theorem dX1_findGoer_22 : decode cX1_findGoer 22 = .ok (.aload_n 1, 1) := by decide +kernel
theorem dX1_findGoer_23 : decode cX1_findGoer 23 = .ok (.aload_n 0, 1) := by decide +kernel
theorem dX1_findGoer_24 : decode cX1_findGoer 24 = .ok (.getfield 12, 3) := by decide +kernel
theorem dX1_findGoer_27 : decode cX1_findGoer 27 = .ok (.aload_n 0, 1) := by decide +kernel
theorem dX1_findGoer_28 : decode cX1_findGoer 28 = .ok (.getfield 54, 3) := by decide +kernel
theorem dX1_findGoer_31 : decode cX1_findGoer 31 = .ok (.invokevirtual 60, 3) := by decide +kernel
theorem dX1_findGoer_34 : decode cX1_findGoer 34 = .ok (.putfield 66, 3) := by decide +kernel
theorem dX1_findGoer_37 : decode cX1_findGoer 37 = .ok (.aload_n 0, 1) := by decide +kernel
theorem dX1_findGoer_38 : decode cX1_findGoer 38 = .ok (.getfield 66, 3) := by decide +kernel
theorem dX1_findGoer_41 : decode cX1_findGoer 41 = .ok (.bipush (-2), 2) := by decide +kernel
theorem dX1_findGoer_43 : decode cX1_findGoer 43 = .ok (.if_icmp .eq 5, 3) := by decide +kernel
theorem dX1_findGoer_46 : decode cX1_findGoer 46 = .ok (.iconst 1, 1) := by decide +kernel
theorem dX1_findGoer_47 : decode cX1_findGoer 47 = .ok (.ireturn, 1) := by decide +kernel
theorem dX1_findGoer_48 : decode cX1_findGoer 48 = .ok (.aload_n 0, 1) := by decide +kernel
theorem dX1_findGoer_49 : decode cX1_findGoer 49 = .ok (.aload_n 0, 1) := by decide +kernel
theorem dX1_findGoer_50 : decode cX1_findGoer 50 = .ok (.aload_n 0, 1) := by decide +kernel
theorem dX1_findGoer_51 : decode cX1_findGoer 51 = .ok (.getfield 54, 3) := by decide +kernel
theorem dX1_findGoer_54 : decode cX1_findGoer 54 = .ok (.invokevirtual 69, 3) := by decide +kernel
theorem dX1_findGoer_57 : decode cX1_findGoer 57 = .ok (.putfield 54, 3) := by decide +kernel
theorem dX1_findGoer_60 : decode cX1_findGoer 60 = .ok (.iinc 2 1, 3) := by decide +kernel
theorem dX1_findGoer_63 : decode cX1_findGoer 63 = .ok (.goto (-53), 3) := by decide +kernel
theorem dX1_findGoer_66 : decode cX1_findGoer 66 = .ok (.iconst 0, 1) := by decide +kernel
theorem dX1_findGoer_67 : decode cX1_findGoer 67 = .ok (.ireturn, 1) := by decide +kernel
theorem dX1_step_0 : decode cX1_step 0 = .ok (.aload_n 0, 1) := by decide +kernel
theorem dX1_step_1 : decode cX1_step 1 = .ok (.getfield 66, 3) := by decide +kernel
theorem dX1_step_4 : decode cX1_step 4 = .ok (.iconst (-1), 1) := by decide +kernel
theorem dX1_step_5 : decode cX1_step 5 = .ok (.if_icmp .ne 17, 3) := by decide +kernel
theorem dX1_step_8 : decode cX1_step 8 = .ok (.aload_n 0, 1) := by decide +kernel
theorem dX1_step_9 : decode cX1_step 9 = .ok (.getfield 12, 3) := by decide +kernel
theorem dX1_step_12 : decode cX1_step 12 = .ok (.aload_n 0, 1) := by decide +kernel
theorem dX1_step_13 : decode cX1_step 13 = .ok (.getfield 54, 3) := by decide +kernel
theorem dX1_step_16 : decode cX1_step 16 = .ok (.invokevirtual 73, 3) := by decide +kernel
theorem dX1_step_19 : decode cX1_step 19 = .ok (.goto 18, 3) := by decide +kernel
theorem dX1_step_22 : decode cX1_step 22 = .ok (.aload_n 0, 1) := by decide +kernel
theorem dX1_step_23 : decode cX1_step 23 = .ok (.getfield 12, 3) := by decide +kernel
theorem dX1_step_26 : decode cX1_step 26 = .ok (.aload_n 0, 1) := by decide +kernel
theorem dX1_step_27 : decode cX1_step 27 = .ok (.getfield 54, 3) := by decide +kernel
theorem dX1_step_30 : decode cX1_step 30 = .ok (.aload_n 0, 1) := by decide +kernel
theorem dX1_step_31 : decode cX1_step 31 = .ok (.getfield 66, 3) := by decide +kernel
theorem dX1_step_34 : decode cX1_step 34 = .ok (.invokevirtual 77, 3) := by decide +kernel
theorem dX1_step_37 : decode cX1_step 37 = .ok (.aload_n 0, 1) := by decide +kernel
theorem dX1_step_38 : decode cX1_step 38 = .ok (.aload_n 0, 1) := by decide +kernel
theorem dX1_step_39 : decode cX1_step 39 = .ok (.aload_n 0, 1) := by decide +kernel
theorem dX1_step_40 : decode cX1_step 40 = .ok (.getfield 54, 3) := by decide +kernel
theorem dX1_step_43 : decode cX1_step 43 = .ok (.invokevirtual 69, 3) := by decide +kernel
theorem dX1_step_46 : decode cX1_step 46 = .ok (.putfield 26, 3) := by decide +kernel
theorem dX1_step_49 : decode cX1_step 49 = .ok (.return_, 1) := by decide +kernel
theorem dX1_behind_0 : decode cX1_behind 0 = .ok (.iload_n 1, 1) := by decide +kernel
theorem dX1_behind_1 : decode cX1_behind 1 = .ok (.iconst 1, 1) := by decide +kernel
theorem dX1_behind_2 : decode cX1_behind 2 = .ok (.iadd, 1) := by decide +kernel
theorem dX1_behind_3 : decode cX1_behind 3 = .ok (.aload_n 0, 1) := by decide +kernel
theorem dX1_behind_4 : decode cX1_behind 4 = .ok (.getfield 12, 3) := by decide +kernel
theorem dX1_behind_7 : decode cX1_behind 7 = .ok (.getfield 57, 3) := by decide +kernel
theorem dX1_behind_10 : decode cX1_behind 10 = .ok (.if_icmp .ge 9, 3) := by decide +kernel
theorem dX1_behind_13 : decode cX1_behind 13 = .ok (.iload_n 1, 1) := by decide +kernel
theorem dX1_behind_14 : decode cX1_behind 14 = .ok (.iconst 1, 1) := by decide +kernel
theorem dX1_behind_15 : decode cX1_behind 15 = .ok (.iadd, 1) := by decide +kernel
theorem dX1_behind_16 : decode cX1_behind 16 = .ok (.goto 4, 3) := by decide +kernel
theorem dX1_behind_19 : decode cX1_behind 19 = .ok (.iconst 0, 1) := by decide +kernel
theorem dX1_behind_20 : decode cX1_behind 20 = .ok (.ireturn, 1) := by decide +kernel
theorem dX2_init_0 : decode cX2_init 0 = .ok (.aload_n 0, 1) := by decide +kernel
theorem dX2_init_1 : decode cX2_init 1 = .ok (.invokespecial 3, 3) := by decide +kernel
theorem dX2_init_4 : decode cX2_init 4 = .ok (.aload_n 0, 1) := by decide +kernel
theorem dX2_init_5 : decode cX2_init 5 = .ok (.new 9, 3) := by decide +kernel
theorem dX2_init_8 : decode cX2_init 8 = .ok (.dup, 1) := by decide +kernel
theorem dX2_init_9 : decode cX2_init 9 = .ok (.invokespecial 11, 3) := by decide +kernel
theorem dX2_init_12 : decode cX2_init 12 = .ok (.putfield 12, 3) := by decide +kernel
theorem dX2_init_15 : decode cX2_init 15 = .ok (.aload_n 0, 1) := by decide +kernel
theorem dX2_init_16 : decode cX2_init 16 = .ok (.aload_n 0, 1) := by decide +kernel
theorem dX2_init_17 : decode cX2_init 17 = .ok (.getfield 12, 3) := by decide +kernel
theorem dX2_init_20 : decode cX2_init 20 = .ok (.getfield 18, 3) := by decide +kernel
theorem dX2_init_23 : decode cX2_init 23 = .ok (.putfield 22, 3) := by decide +kernel
theorem dX2_init_26 : decode cX2_init 26 = .ok (.aload_n 0, 1) := by decide +kernel
theorem dX2_init_27 : decode cX2_init 27 = .ok (.new 23, 3) := by decide +kernel
theorem dX2_init_30 : decode cX2_init 30 = .ok (.dup, 1) := by decide +kernel
theorem dX2_init_31 : decode cX2_init 31 = .ok (.invokespecial 25, 3) := by decide +kernel
theorem dX2_init_34 : decode cX2_init 34 = .ok (.putfield 26, 3) := by decide +kernel
theorem dX2_init_37 : decode cX2_init 37 = .ok (.return_, 1) := by decide +kernel
theorem dX2_gainByLeaving_0 : decode cX2_gainByLeaving 0 = .ok (.aload_n 0, 1) := by decide +kernel
theorem dX2_gainByLeaving_1 : decode cX2_gainByLeaving 1 = .ok (.getfield 26, 3) := by decide +kernel
theorem dX2_gainByLeaving_4 : decode cX2_gainByLeaving 4 = .ok (.aload_n 1, 1) := by decide +kernel
theorem dX2_gainByLeaving_5 : decode cX2_gainByLeaving 5 = .ok (.invokevirtual 30, 3) := by decide +kernel
theorem dX2_gainByLeaving_8 : decode cX2_gainByLeaving 8 = .ok (.aload_n 0, 1) := by decide +kernel
theorem dX2_gainByLeaving_9 : decode cX2_gainByLeaving 9 = .ok (.getfield 26, 3) := by decide +kernel
theorem dX2_gainByLeaving_12 : decode cX2_gainByLeaving 12 = .ok (.iload_n 2, 1) := by decide +kernel
theorem dX2_gainByLeaving_13 : decode cX2_gainByLeaving 13 = .ok (.invokevirtual 34, 3) := by decide +kernel
theorem dX2_gainByLeaving_16 : decode cX2_gainByLeaving 16 = .ok (.aload_n 0, 1) := by decide +kernel
theorem dX2_gainByLeaving_17 : decode cX2_gainByLeaving 17 = .ok (.getfield 12, 3) := by decide +kernel
theorem dX2_gainByLeaving_20 : decode cX2_gainByLeaving 20 = .ok (.aload_n 0, 1) := by decide +kernel
theorem dX2_gainByLeaving_21 : decode cX2_gainByLeaving 21 = .ok (.getfield 12, 3) := by decide +kernel
theorem dX2_gainByLeaving_24 : decode cX2_gainByLeaving 24 = .ok (.aload_n 0, 1) := by decide +kernel
theorem dX2_gainByLeaving_25 : decode cX2_gainByLeaving 25 = .ok (.getfield 26, 3) := by decide +kernel
theorem dX2_gainByLeaving_28 : decode cX2_gainByLeaving 28 = .ok (.invokevirtual 38, 3) := by decide +kernel
theorem dX2_gainByLeaving_31 : decode cX2_gainByLeaving 31 = .ok (.iload_n 2, 1) := by decide +kernel
theorem dX2_gainByLeaving_32 : decode cX2_gainByLeaving 32 = .ok (.invokevirtual 42, 3) := by decide +kernel
theorem dX2_gainByLeaving_35 : decode cX2_gainByLeaving 35 = .ok (.aload_n 0, 1) := by decide +kernel
theorem dX2_gainByLeaving_36 : decode cX2_gainByLeaving 36 = .ok (.getfield 12, 3) := by decide +kernel
theorem dX2_gainByLeaving_39 : decode cX2_gainByLeaving 39 = .ok (.aload_n 0, 1) := by decide +kernel
theorem dX2_gainByLeaving_40 : decode cX2_gainByLeaving 40 = .ok (.getfield 12, 3) := by decide +kernel
theorem dX2_gainByLeaving_43 : decode cX2_gainByLeaving 43 = .ok (.aload_n 1, 1) := by decide +kernel
theorem dX2_gainByLeaving_44 : decode cX2_gainByLeaving 44 = .ok (.invokevirtual 38, 3) := by decide +kernel
theorem dX2_gainByLeaving_47 : decode cX2_gainByLeaving 47 = .ok (.iload_n 2, 1) := by decide +kernel
theorem dX2_gainByLeaving_48 : decode cX2_gainByLeaving 48 = .ok (.invokevirtual 42, 3) := by decide +kernel
theorem dX2_gainByLeaving_51 : decode cX2_gainByLeaving 51 = .ok (.isub, 1) := by decide +kernel
theorem dX2_gainByLeaving_52 : decode cX2_gainByLeaving 52 = .ok (.ireturn, 1) := by decide +kernel
theorem dX2_gainByJoining_0 : decode cX2_gainByJoining 0 = .ok (.aload_n 0, 1) := by decide +kernel
theorem dX2_gainByJoining_1 : decode cX2_gainByJoining 1 = .ok (.getfield 26, 3) := by decide +kernel
theorem dX2_gainByJoining_4 : decode cX2_gainByJoining 4 = .ok (.aload_n 1, 1) := by decide +kernel
theorem dX2_gainByJoining_5 : decode cX2_gainByJoining 5 = .ok (.invokevirtual 30, 3) := by decide +kernel
theorem dX2_gainByJoining_8 : decode cX2_gainByJoining 8 = .ok (.aload_n 0, 1) := by decide +kernel
theorem dX2_gainByJoining_9 : decode cX2_gainByJoining 9 = .ok (.getfield 26, 3) := by decide +kernel
theorem dX2_gainByJoining_12 : decode cX2_gainByJoining 12 = .ok (.iload_n 2, 1) := by decide +kernel
theorem dX2_gainByJoining_13 : decode cX2_gainByJoining 13 = .ok (.iload_n 3, 1) := by decide +kernel
theorem dX2_gainByJoining_14 : decode cX2_gainByJoining 14 = .ok (.invokevirtual 46, 3) := by decide +kernel
theorem dX2_gainByJoining_17 : decode cX2_gainByJoining 17 = .ok (.aload_n 0, 1) := by decide +kernel
theorem dX2_gainByJoining_18 : decode cX2_gainByJoining 18 = .ok (.getfield 12, 3) := by decide +kernel
theorem dX2_gainByJoining_21 : decode cX2_gainByJoining 21 = .ok (.aload_n 1, 1) := by decide +kernel
theorem dX2_gainByJoining_22 : decode cX2_gainByJoining 22 = .ok (.invokevirtual 38, 3) := by decide +kernel
theorem dX2_gainByJoining_25 : decode cX2_gainByJoining 25 = .ok (.istore 4, 2) := by decide +kernel
theorem dX2_gainByJoining_27 : decode cX2_gainByJoining 27 = .ok (.aload_n 0, 1) := by decide +kernel
theorem dX2_gainByJoining_28 : decode cX2_gainByJoining 28 = .ok (.getfield 12, 3) := by decide +kernel
theorem dX2_gainByJoining_31 : decode cX2_gainByJoining 31 = .ok (.aload_n 0, 1) := by decide +kernel
theorem dX2_gainByJoining_32 : decode cX2_gainByJoining 32 = .ok (.getfield 26, 3) := by decide +kernel
theorem dX2_gainByJoining_35 : decode cX2_gainByJoining 35 = .ok (.invokevirtual 38, 3) := by decide +kernel
theorem dX2_gainByJoining_38 : decode cX2_gainByJoining 38 = .ok (.istore 5, 2) := by decide +kernel
theorem dX2_gainByJoining_40 : decode cX2_gainByJoining 40 = .ok (.iconst 0, 1) := by decide +kernel
theorem dX2_gainByJoining_41 : decode cX2_gainByJoining 41 = .ok (.istore 6, 2) := by decide +kernel
theorem dX2_gainByJoining_43 : decode cX2_gainByJoining 43 = .ok (.iload 6, 2) := by decide +kernel
theorem dX2_gainByJoining_45 : decode cX2_gainByJoining 45 = .ok (.aload_n 0, 1) := by decide +kernel
theorem dX2_gainByJoining_46 : decode cX2_gainByJoining 46 = .ok (.getfield 22, 3) := by decide +kernel
theorem dX2_gainByJoining_49 : decode cX2_gainByJoining 49 = .ok (.getfield 50, 3) := by decide +kernel
theorem dX2_gainByJoining_52 : decode cX2_gainByJoining 52 = .ok (.if_icmp .ge 47, 3) := by decide +kernel
theorem dX2_gainByJoining_55 : decode cX2_gainByJoining 55 = .ok (.aload_n 1, 1) := by decide +kernel
theorem dX2_gainByJoining_56 : decode cX2_gainByJoining 56 = .ok (.getfield 56, 3) := by decide +kernel
theorem dX2_gainByJoining_59 : decode cX2_gainByJoining 59 = .ok (.iload 6, 2) := by decide +kernel
theorem dX2_gainByJoining_61 : decode cX2_gainByJoining 61 = .ok (.iaload, 1) := by decide +kernel
theorem dX2_gainByJoining_62 : decode cX2_gainByJoining 62 = .ok (.iload_n 3, 1) := by decide +kernel
theorem dX2_gainByJoining_63 : decode cX2_gainByJoining 63 = .ok (.if_icmp .ne 30, 3) := by decide +kernel
theorem dX2_gainByJoining_66 : decode cX2_gainByJoining 66 = .ok (.aload_n 0, 1) := by decide +kernel
theorem dX2_gainByJoining_67 : decode cX2_gainByJoining 67 = .ok (.getfield 12, 3) := by decide +kernel
theorem dX2_gainByJoining_70 : decode cX2_gainByJoining 70 = .ok (.iload 5, 2) := by decide +kernel
theorem dX2_gainByJoining_72 : decode cX2_gainByJoining 72 = .ok (.iload 6, 2) := by decide +kernel
theorem dX2_gainByJoining_74 : decode cX2_gainByJoining 74 = .ok (.invokevirtual 42, 3) := by decide +kernel
theorem dX2_gainByJoining_77 : decode cX2_gainByJoining 77 = .ok (.aload_n 0, 1) := by decide +kernel
theorem dX2_gainByJoining_78 : decode cX2_gainByJoining 78 = .ok (.getfield 12, 3) := by decide +kernel
theorem dX2_gainByJoining_81 : decode cX2_gainByJoining 81 = .ok (.iload 4, 2) := by decide +kernel
theorem dX2_gainByJoining_83 : decode cX2_gainByJoining 83 = .ok (.iload 6, 2) := by decide +kernel
theorem dX2_gainByJoining_85 : decode cX2_gainByJoining 85 = .ok (.invokevirtual 42, 3) := by decide +kernel
theorem dX2_gainByJoining_88 : decode cX2_gainByJoining 88 = .ok (.if_icmp .ge 5, 3) := by decide +kernel
theorem dX2_gainByJoining_91 : decode cX2_gainByJoining 91 = .ok (.iconst 0, 1) := by decide +kernel
theorem dX2_gainByJoining_92 : decode cX2_gainByJoining 92 = .ok (.ireturn, 1) := by decide +kernel
theorem dX2_gainByJoining_93 : decode cX2_gainByJoining 93 = .ok (.iinc 6 1, 3) := by decide +kernel
theorem dX2_gainByJoining_96 : decode cX2_gainByJoining 96 = .ok (.goto (-53), 3) := by decide +kernel
theorem dX2_gainByJoining_99 : decode cX2_gainByJoining 99 = .ok (.aload_n 0, 1) := by decide +kernel
theorem dX2_gainByJoining_100 : decode cX2_gainByJoining 100 = .ok (.getfield 12, 3) := by decide +kernel
theorem dX2_gainByJoining_103 : decode cX2_gainByJoining 103 = .ok (.iload 5, 2) := by decide +kernel
theorem dX2_gainByJoining_105 : decode cX2_gainByJoining 105 = .ok (.iload_n 2, 1) := by decide +kernel
theorem dX2_gainByJoining_106 : decode cX2_gainByJoining 106 = .ok (.invokevirtual 42, 3) := by decide +kernel
theorem dX2_gainByJoining_109 : decode cX2_gainByJoining 109 = .ok (.aload_n 0, 1) := by decide +kernel
theorem dX2_gainByJoining_110 : decode cX2_gainByJoining 110 = .ok (.getfield 12, 3) := by decide +kernel
theorem dX2_gainByJoining_113 : decode cX2_gainByJoining 113 = .ok (.iload 4, 2) := by decide +kernel
theorem dX2_gainByJoining_115 : decode cX2_gainByJoining 115 = .ok (.iload_n 2, 1) := by decide +kernel
theorem dX2_gainByJoining_116 : decode cX2_gainByJoining 116 = .ok (.invokevirtual 42, 3) := by decide +kernel
theorem dX2_gainByJoining_119 : decode cX2_gainByJoining 119 = .ok (.isub, 1) := by decide +kernel
theorem dX2_gainByJoining_120 : decode cX2_gainByJoining 120 = .ok (.ireturn, 1) := by decide +kernel
theorem dX2_wouldAllGain_0 : decode cX2_wouldAllGain 0 = .ok (.aload_n 0, 1) := by decide +kernel
theorem dX2_wouldAllGain_1 : decode cX2_wouldAllGain 1 = .ok (.getfield 26, 3) := by decide +kernel
theorem dX2_wouldAllGain_4 : decode cX2_wouldAllGain 4 = .ok (.aload_n 1, 1) := by decide +kernel
theorem dX2_wouldAllGain_5 : decode cX2_wouldAllGain 5 = .ok (.invokevirtual 30, 3) := by decide +kernel
theorem dX2_wouldAllGain_8 : decode cX2_wouldAllGain 8 = .ok (.aload_n 0, 1) := by decide +kernel
theorem dX2_wouldAllGain_9 : decode cX2_wouldAllGain 9 = .ok (.getfield 26, 3) := by decide +kernel
theorem dX2_wouldAllGain_12 : decode cX2_wouldAllGain 12 = .ok (.iload_n 2, 1) := by decide +kernel
theorem dX2_wouldAllGain_13 : decode cX2_wouldAllGain 13 = .ok (.invokevirtual 60, 3) := by decide +kernel
theorem dX2_wouldAllGain_16 : decode cX2_wouldAllGain 16 = .ok (.aload_n 0, 1) := by decide +kernel
theorem dX2_wouldAllGain_17 : decode cX2_wouldAllGain 17 = .ok (.getfield 12, 3) := by decide +kernel
theorem dX2_wouldAllGain_20 : decode cX2_wouldAllGain 20 = .ok (.aload_n 1, 1) := by decide +kernel
theorem dX2_wouldAllGain_21 : decode cX2_wouldAllGain 21 = .ok (.invokevirtual 38, 3) := by decide +kernel
theorem dX2_wouldAllGain_24 : decode cX2_wouldAllGain 24 = .ok (.istore_n 3, 1) := by decide +kernel
theorem dX2_wouldAllGain_25 : decode cX2_wouldAllGain 25 = .ok (.aload_n 0, 1) := by decide +kernel
theorem dX2_wouldAllGain_26 : decode cX2_wouldAllGain 26 = .ok (.getfield 12, 3) := by decide +kernel
theorem dX2_wouldAllGain_29 : decode cX2_wouldAllGain 29 = .ok (.aload_n 0, 1) := by decide +kernel
theorem dX2_wouldAllGain_30 : decode cX2_wouldAllGain 30 = .ok (.getfield 26, 3) := by decide +kernel
theorem dX2_wouldAllGain_33 : decode cX2_wouldAllGain 33 = .ok (.invokevirtual 38, 3) := by decide +kernel
theorem dX2_wouldAllGain_36 : decode cX2_wouldAllGain 36 = .ok (.istore 4, 2) := by decide +kernel
theorem dX2_wouldAllGain_38 : decode cX2_wouldAllGain 38 = .ok (.iconst 0, 1) := by decide +kernel
theorem dX2_wouldAllGain_39 : decode cX2_wouldAllGain 39 = .ok (.istore 5, 2) := by decide +kernel
theorem dX2_wouldAllGain_41 : decode cX2_wouldAllGain 41 = .ok (.iload 5, 2) := by decide +kernel
theorem dX2_wouldAllGain_43 : decode cX2_wouldAllGain 43 = .ok (.aload_n 0, 1) := by decide +kernel
theorem dX2_wouldAllGain_44 : decode cX2_wouldAllGain 44 = .ok (.getfield 22, 3) := by decide +kernel
theorem dX2_wouldAllGain_47 : decode cX2_wouldAllGain 47 = .ok (.getfield 50, 3) := by decide +kernel
theorem dX2_wouldAllGain_50 : decode cX2_wouldAllGain 50 = .ok (.if_icmp .ge 45, 3) := by decide +kernel
theorem dX2_wouldAllGain_53 : decode cX2_wouldAllGain 53 = .ok (.iload_n 2, 1) := by decide +kernel
theorem dX2_wouldAllGain_54 : decode cX2_wouldAllGain 54 = .ok (.iload 5, 2) := by decide +kernel
theorem dX2_wouldAllGain_56 : decode cX2_wouldAllGain 56 = .ok (.ishr, 1) := by decide +kernel
theorem dX2_wouldAllGain_57 : decode cX2_wouldAllGain 57 = .ok (.iconst 1, 1) := by decide +kernel
theorem dX2_wouldAllGain_58 : decode cX2_wouldAllGain 58 = .ok (.iand, 1) := by decide +kernel
theorem dX2_wouldAllGain_59 : decode cX2_wouldAllGain 59 = .ok (.iconst 1, 1) := by decide +kernel
theorem dX2_wouldAllGain_60 : decode cX2_wouldAllGain 60 = .ok (.if_icmp .ne 29, 3) := by decide +kernel
theorem dX2_wouldAllGain_63 : decode cX2_wouldAllGain 63 = .ok (.aload_n 0, 1) := by decide +kernel
theorem dX2_wouldAllGain_64 : decode cX2_wouldAllGain 64 = .ok (.getfield 12, 3) := by decide +kernel
theorem dX2_wouldAllGain_67 : decode cX2_wouldAllGain 67 = .ok (.iload 4, 2) := by decide +kernel
theorem dX2_wouldAllGain_69 : decode cX2_wouldAllGain 69 = .ok (.iload 5, 2) := by decide +kernel
theorem dX2_wouldAllGain_71 : decode cX2_wouldAllGain 71 = .ok (.invokevirtual 42, 3) := by decide +kernel
theorem dX2_wouldAllGain_74 : decode cX2_wouldAllGain 74 = .ok (.aload_n 0, 1) := by decide +kernel
theorem dX2_wouldAllGain_75 : decode cX2_wouldAllGain 75 = .ok (.getfield 12, 3) := by decide +kernel
theorem dX2_wouldAllGain_78 : decode cX2_wouldAllGain 78 = .ok (.iload_n 3, 1) := by decide +kernel
theorem dX2_wouldAllGain_79 : decode cX2_wouldAllGain 79 = .ok (.iload 5, 2) := by decide +kernel
theorem dX2_wouldAllGain_81 : decode cX2_wouldAllGain 81 = .ok (.invokevirtual 42, 3) := by decide +kernel
theorem dX2_wouldAllGain_84 : decode cX2_wouldAllGain 84 = .ok (.if_icmp .gt 5, 3) := by decide +kernel
theorem dX2_wouldAllGain_87 : decode cX2_wouldAllGain 87 = .ok (.iconst 0, 1) := by decide +kernel
theorem dX2_wouldAllGain_88 : decode cX2_wouldAllGain 88 = .ok (.ireturn, 1) := by decide +kernel
theorem dX2_wouldAllGain_89 : decode cX2_wouldAllGain 89 = .ok (.iinc 5 1, 3) := by decide +kernel
theorem dX2_wouldAllGain_92 : decode cX2_wouldAllGain 92 = .ok (.goto (-51), 3) := by decide +kernel
theorem dX2_wouldAllGain_95 : decode cX2_wouldAllGain 95 = .ok (.iconst 1, 1) := by decide +kernel
theorem dX2_wouldAllGain_96 : decode cX2_wouldAllGain 96 = .ok (.ireturn, 1) := by decide +kernel
theorem dX2_goodGathered_0 : decode cX2_goodGathered 0 = .ok (.aload_n 0, 1) := by decide +kernel
theorem dX2_goodGathered_1 : decode cX2_goodGathered 1 = .ok (.getfield 26, 3) := by decide +kernel
theorem dX2_goodGathered_4 : decode cX2_goodGathered 4 = .ok (.aload_n 1, 1) := by decide +kernel
theorem dX2_goodGathered_5 : decode cX2_goodGathered 5 = .ok (.invokevirtual 30, 3) := by decide +kernel
theorem dX2_goodGathered_8 : decode cX2_goodGathered 8 = .ok (.aload_n 0, 1) := by decide +kernel
theorem dX2_goodGathered_9 : decode cX2_goodGathered 9 = .ok (.getfield 26, 3) := by decide +kernel
theorem dX2_goodGathered_12 : decode cX2_goodGathered 12 = .ok (.iload_n 2, 1) := by decide +kernel
theorem dX2_goodGathered_13 : decode cX2_goodGathered 13 = .ok (.invokevirtual 60, 3) := by decide +kernel
theorem dX2_goodGathered_16 : decode cX2_goodGathered 16 = .ok (.aload_n 0, 1) := by decide +kernel
theorem dX2_goodGathered_17 : decode cX2_goodGathered 17 = .ok (.getfield 12, 3) := by decide +kernel
theorem dX2_goodGathered_20 : decode cX2_goodGathered 20 = .ok (.aload_n 0, 1) := by decide +kernel
theorem dX2_goodGathered_21 : decode cX2_goodGathered 21 = .ok (.getfield 12, 3) := by decide +kernel
theorem dX2_goodGathered_24 : decode cX2_goodGathered 24 = .ok (.aload_n 0, 1) := by decide +kernel
theorem dX2_goodGathered_25 : decode cX2_goodGathered 25 = .ok (.getfield 26, 3) := by decide +kernel
theorem dX2_goodGathered_28 : decode cX2_goodGathered 28 = .ok (.invokevirtual 38, 3) := by decide +kernel
theorem dX2_goodGathered_31 : decode cX2_goodGathered 31 = .ok (.iload_n 3, 1) := by decide +kernel
theorem dX2_goodGathered_32 : decode cX2_goodGathered 32 = .ok (.invokevirtual 42, 3) := by decide +kernel
theorem dX2_goodGathered_35 : decode cX2_goodGathered 35 = .ok (.ireturn, 1) := by decide +kernel
theorem dX2_stayBreaker_0 : decode cX2_stayBreaker 0 = .ok (.iconst 0, 1) := by decide +kernel
theorem dX2_stayBreaker_1 : decode cX2_stayBreaker 1 = .ok (.istore_n 2, 1) := by decide +kernel
theorem dX2_stayBreaker_2 : decode cX2_stayBreaker 2 = .ok (.iload_n 2, 1) := by decide +kernel
theorem dX2_stayBreaker_3 : decode cX2_stayBreaker 3 = .ok (.aload_n 0, 1) := by decide +kernel
theorem dX2_stayBreaker_4 : decode cX2_stayBreaker 4 = .ok (.getfield 22, 3) := by decide +kernel
theorem dX2_stayBreaker_7 : decode cX2_stayBreaker 7 = .ok (.getfield 50, 3) := by decide +kernel
theorem dX2_stayBreaker_10 : decode cX2_stayBreaker 10 = .ok (.if_icmp .ge 20, 3) := by decide +kernel
theorem dX2_stayBreaker_13 : decode cX2_stayBreaker 13 = .ok (.aload_n 0, 1) := by decide +kernel
theorem dX2_stayBreaker_14 : decode cX2_stayBreaker 14 = .ok (.aload_n 1, 1) := by decide +kernel
theorem dX2_stayBreaker_15 : decode cX2_stayBreaker 15 = .ok (.iload_n 2, 1) := by decide +kernel
theorem dX2_stayBreaker_16 : decode cX2_stayBreaker 16 = .ok (.invokevirtual 63, 3) := by decide +kernel
theorem dX2_stayBreaker_19 : decode cX2_stayBreaker 19 = .ok (.ifCond .le 5, 3) := by decide +kernel
theorem dX2_stayBreaker_22 : decode cX2_stayBreaker 22 = .ok (.iload_n 2, 1) := by decide +kernel
theorem dX2_stayBreaker_23 : decode cX2_stayBreaker 23 = .ok (.ireturn, 1) := by decide +kernel
theorem dX2_stayBreaker_24 : decode cX2_stayBreaker 24 = .ok (.iinc 2 1, 3) := by decide +kernel
theorem dX2_stayBreaker_27 : decode cX2_stayBreaker 27 = .ok (.goto (-25), 3) := by decide +kernel
theorem dX2_stayBreaker_30 : decode cX2_stayBreaker 30 = .ok (.bipush (-6), 2) := by decide +kernel
theorem dX2_stayBreaker_32 : decode cX2_stayBreaker 32 = .ok (.ireturn, 1) := by decide +kernel
theorem dX2_joinBreaker_0 : decode cX2_joinBreaker 0 = .ok (.iconst 0, 1) := by decide +kernel
theorem dX2_joinBreaker_1 : decode cX2_joinBreaker 1 = .ok (.istore_n 2, 1) := by decide +kernel
theorem dX2_joinBreaker_2 : decode cX2_joinBreaker 2 = .ok (.iload_n 2, 1) := by decide +kernel
theorem dX2_joinBreaker_3 : decode cX2_joinBreaker 3 = .ok (.aload_n 0, 1) := by decide +kernel
theorem dX2_joinBreaker_4 : decode cX2_joinBreaker 4 = .ok (.getfield 22, 3) := by decide +kernel
theorem dX2_joinBreaker_7 : decode cX2_joinBreaker 7 = .ok (.getfield 50, 3) := by decide +kernel
theorem dX2_joinBreaker_10 : decode cX2_joinBreaker 10 = .ok (.if_icmp .ge 55, 3) := by decide +kernel
theorem dX2_joinBreaker_13 : decode cX2_joinBreaker 13 = .ok (.iconst 0, 1) := by decide +kernel
theorem dX2_joinBreaker_14 : decode cX2_joinBreaker 14 = .ok (.istore_n 3, 1) := by decide +kernel
theorem dX2_joinBreaker_15 : decode cX2_joinBreaker 15 = .ok (.iload_n 3, 1) := by decide +kernel
theorem dX2_joinBreaker_16 : decode cX2_joinBreaker 16 = .ok (.aload_n 1, 1) := by decide +kernel
theorem dX2_joinBreaker_17 : decode cX2_joinBreaker 17 = .ok (.getfield 67, 3) := by decide +kernel
theorem dX2_joinBreaker_20 : decode cX2_joinBreaker 20 = .ok (.if_icmp .ge 39, 3) := by decide +kernel
theorem dX2_joinBreaker_23 : decode cX2_joinBreaker 23 = .ok (.aload_n 1, 1) := by decide +kernel
theorem dX2_joinBreaker_24 : decode cX2_joinBreaker 24 = .ok (.getfield 56, 3) := by decide +kernel
theorem dX2_joinBreaker_27 : decode cX2_joinBreaker 27 = .ok (.iload_n 2, 1) := by decide +kernel
theorem dX2_joinBreaker_28 : decode cX2_joinBreaker 28 = .ok (.iaload, 1) := by decide +kernel
theorem dX2_joinBreaker_29 : decode cX2_joinBreaker 29 = .ok (.iload_n 3, 1) := by decide +kernel
theorem dX2_joinBreaker_30 : decode cX2_joinBreaker 30 = .ok (.if_icmp .eq 23, 3) := by decide +kernel
theorem dX2_joinBreaker_33 : decode cX2_joinBreaker 33 = .ok (.aload_n 0, 1) := by decide +kernel
theorem dX2_joinBreaker_34 : decode cX2_joinBreaker 34 = .ok (.aload_n 1, 1) := by decide +kernel
theorem dX2_joinBreaker_35 : decode cX2_joinBreaker 35 = .ok (.iload_n 2, 1) := by decide +kernel
theorem dX2_joinBreaker_36 : decode cX2_joinBreaker 36 = .ok (.iload_n 3, 1) := by decide +kernel
theorem dX2_joinBreaker_37 : decode cX2_joinBreaker 37 = .ok (.invokevirtual 70, 3) := by decide +kernel
theorem dX2_joinBreaker_40 : decode cX2_joinBreaker 40 = .ok (.ifCond .le 13, 3) := by decide +kernel
theorem dX2_joinBreaker_43 : decode cX2_joinBreaker 43 = .ok (.bipush 100, 2) := by decide +kernel
theorem dX2_joinBreaker_45 : decode cX2_joinBreaker 45 = .ok (.bipush 10, 2) := by decide +kernel
theorem dX2_joinBreaker_47 : decode cX2_joinBreaker 47 = .ok (.iload_n 2, 1) := by decide +kernel
theorem dX2_joinBreaker_48 : decode cX2_joinBreaker 48 = .ok (.imul, 1) := by decide +kernel
theorem dX2_joinBreaker_49 : decode cX2_joinBreaker 49 = .ok (.iadd, 1) := by decide +kernel
theorem dX2_joinBreaker_50 : decode cX2_joinBreaker 50 = .ok (.iload_n 3, 1) := by decide +kernel
theorem dX2_joinBreaker_51 : decode cX2_joinBreaker 51 = .ok (.iadd, 1) := by decide +kernel
theorem dX2_joinBreaker_52 : decode cX2_joinBreaker 52 = .ok (.ireturn, 1) := by decide +kernel
theorem dX2_joinBreaker_53 : decode cX2_joinBreaker 53 = .ok (.iinc 3 1, 3) := by decide +kernel
theorem dX2_joinBreaker_56 : decode cX2_joinBreaker 56 = .ok (.goto (-41), 3) := by decide +kernel
theorem dX2_joinBreaker_59 : decode cX2_joinBreaker 59 = .ok (.iinc 2 1, 3) := by decide +kernel
theorem dX2_joinBreaker_62 : decode cX2_joinBreaker 62 = .ok (.goto (-60), 3) := by decide +kernel
theorem dX2_joinBreaker_65 : decode cX2_joinBreaker 65 = .ok (.bipush (-6), 2) := by decide +kernel
theorem dX2_joinBreaker_67 : decode cX2_joinBreaker 67 = .ok (.ireturn, 1) := by decide +kernel
theorem dX2_coreBreaker_0 : decode cX2_coreBreaker 0 = .ok (.iconst 1, 1) := by decide +kernel
theorem dX2_coreBreaker_1 : decode cX2_coreBreaker 1 = .ok (.istore_n 2, 1) := by decide +kernel
theorem dX2_coreBreaker_2 : decode cX2_coreBreaker 2 = .ok (.iload_n 2, 1) := by decide +kernel
theorem dX2_coreBreaker_3 : decode cX2_coreBreaker 3 = .ok (.iconst 1, 1) := by decide +kernel
theorem dX2_coreBreaker_4 : decode cX2_coreBreaker 4 = .ok (.aload_n 1, 1) := by decide +kernel
theorem dX2_coreBreaker_5 : decode cX2_coreBreaker 5 = .ok (.getfield 74, 3) := by decide +kernel
theorem dX2_coreBreaker_8 : decode cX2_coreBreaker 8 = .ok (.ishl, 1) := by decide +kernel
theorem dX2_coreBreaker_9 : decode cX2_coreBreaker 9 = .ok (.if_icmp .ge 24, 3) := by decide +kernel
theorem dX2_coreBreaker_12 : decode cX2_coreBreaker 12 = .ok (.aload_n 0, 1) := by decide +kernel
theorem dX2_coreBreaker_13 : decode cX2_coreBreaker 13 = .ok (.aload_n 1, 1) := by decide +kernel
theorem dX2_coreBreaker_14 : decode cX2_coreBreaker 14 = .ok (.iload_n 2, 1) := by decide +kernel
theorem dX2_coreBreaker_15 : decode cX2_coreBreaker 15 = .ok (.invokevirtual 75, 3) := by decide +kernel
theorem dX2_coreBreaker_18 : decode cX2_coreBreaker 18 = .ok (.ifCond .eq 9, 3) := by decide +kernel
theorem dX2_coreBreaker_21 : decode cX2_coreBreaker 21 = .ok (.sipush 1000, 3) := by decide +kernel
theorem dX2_coreBreaker_24 : decode cX2_coreBreaker 24 = .ok (.iload_n 2, 1) := by decide +kernel
theorem dX2_coreBreaker_25 : decode cX2_coreBreaker 25 = .ok (.iadd, 1) := by decide +kernel
theorem dX2_coreBreaker_26 : decode cX2_coreBreaker 26 = .ok (.ireturn, 1) := by decide +kernel
theorem dX2_coreBreaker_27 : decode cX2_coreBreaker 27 = .ok (.iinc 2 1, 3) := by decide +kernel
theorem dX2_coreBreaker_30 : decode cX2_coreBreaker 30 = .ok (.goto (-28), 3) := by decide +kernel
theorem dX2_coreBreaker_33 : decode cX2_coreBreaker 33 = .ok (.bipush (-6), 2) := by decide +kernel
theorem dX2_coreBreaker_35 : decode cX2_coreBreaker 35 = .ok (.ireturn, 1) := by decide +kernel
theorem dX2_bestGoal_0 : decode cX2_bestGoal 0 = .ok (.bipush (-2), 2) := by decide +kernel
theorem dX2_bestGoal_2 : decode cX2_bestGoal 2 = .ok (.istore_n 3, 1) := by decide +kernel
theorem dX2_bestGoal_3 : decode cX2_bestGoal 3 = .ok (.iconst 0, 1) := by decide +kernel
theorem dX2_bestGoal_4 : decode cX2_bestGoal 4 = .ok (.istore 4, 2) := by decide +kernel
theorem dX2_bestGoal_6 : decode cX2_bestGoal 6 = .ok (.aload_n 0, 1) := by decide +kernel
theorem dX2_bestGoal_7 : decode cX2_bestGoal 7 = .ok (.aload_n 1, 1) := by decide +kernel
theorem dX2_bestGoal_8 : decode cX2_bestGoal 8 = .ok (.iload_n 2, 1) := by decide +kernel
theorem dX2_bestGoal_9 : decode cX2_bestGoal 9 = .ok (.invokevirtual 63, 3) := by decide +kernel
theorem dX2_bestGoal_12 : decode cX2_bestGoal 12 = .ok (.istore 5, 2) := by decide +kernel
theorem dX2_bestGoal_14 : decode cX2_bestGoal 14 = .ok (.iload 5, 2) := by decide +kernel
theorem dX2_bestGoal_16 : decode cX2_bestGoal 16 = .ok (.iload 4, 2) := by decide +kernel
theorem dX2_bestGoal_18 : decode cX2_bestGoal 18 = .ok (.if_icmp .le 9, 3) := by decide +kernel
theorem dX2_bestGoal_21 : decode cX2_bestGoal 21 = .ok (.iconst (-1), 1) := by decide +kernel
theorem dX2_bestGoal_22 : decode cX2_bestGoal 22 = .ok (.istore_n 3, 1) := by decide +kernel
theorem dX2_bestGoal_23 : decode cX2_bestGoal 23 = .ok (.iload 5, 2) := by decide +kernel
theorem dX2_bestGoal_25 : decode cX2_bestGoal 25 = .ok (.istore 4, 2) := by decide +kernel
theorem dX2_bestGoal_27 : decode cX2_bestGoal 27 = .ok (.iconst 0, 1) := by decide +kernel
theorem dX2_bestGoal_28 : decode cX2_bestGoal 28 = .ok (.istore 6, 2) := by decide +kernel
theorem dX2_bestGoal_30 : decode cX2_bestGoal 30 = .ok (.iload 6, 2) := by decide +kernel
theorem dX2_bestGoal_32 : decode cX2_bestGoal 32 = .ok (.aload_n 1, 1) := by decide +kernel
theorem dX2_bestGoal_33 : decode cX2_bestGoal 33 = .ok (.getfield 67, 3) := by decide +kernel
theorem dX2_bestGoal_36 : decode cX2_bestGoal 36 = .ok (.if_icmp .ge 44, 3) := by decide +kernel
theorem dX2_bestGoal_39 : decode cX2_bestGoal 39 = .ok (.aload_n 1, 1) := by decide +kernel
theorem dX2_bestGoal_40 : decode cX2_bestGoal 40 = .ok (.getfield 56, 3) := by decide +kernel
theorem dX2_bestGoal_43 : decode cX2_bestGoal 43 = .ok (.iload_n 2, 1) := by decide +kernel
theorem dX2_bestGoal_44 : decode cX2_bestGoal 44 = .ok (.iaload, 1) := by decide +kernel
theorem dX2_bestGoal_45 : decode cX2_bestGoal 45 = .ok (.iload 6, 2) := by decide +kernel
theorem dX2_bestGoal_47 : decode cX2_bestGoal 47 = .ok (.if_icmp .eq 27, 3) := by decide +kernel
theorem dX2_bestGoal_50 : decode cX2_bestGoal 50 = .ok (.aload_n 0, 1) := by decide +kernel
theorem dX2_bestGoal_51 : decode cX2_bestGoal 51 = .ok (.aload_n 1, 1) := by decide +kernel
theorem dX2_bestGoal_52 : decode cX2_bestGoal 52 = .ok (.iload_n 2, 1) := by decide +kernel
theorem dX2_bestGoal_53 : decode cX2_bestGoal 53 = .ok (.iload 6, 2) := by decide +kernel
theorem dX2_bestGoal_55 : decode cX2_bestGoal 55 = .ok (.invokevirtual 70, 3) := by decide +kernel
theorem dX2_bestGoal_58 : decode cX2_bestGoal 58 = .ok (.istore 5, 2) := by decide +kernel
theorem dX2_bestGoal_60 : decode cX2_bestGoal 60 = .ok (.iload 5, 2) := by decide +kernel
theorem dX2_bestGoal_62 : decode cX2_bestGoal 62 = .ok (.iload 4, 2) := by decide +kernel
theorem dX2_bestGoal_64 : decode cX2_bestGoal 64 = .ok (.if_icmp .le 10, 3) := by decide +kernel
theorem dX2_bestGoal_67 : decode cX2_bestGoal 67 = .ok (.iload 6, 2) := by decide +kernel
theorem dX2_bestGoal_69 : decode cX2_bestGoal 69 = .ok (.istore_n 3, 1) := by decide +kernel
theorem dX2_bestGoal_70 : decode cX2_bestGoal 70 = .ok (.iload 5, 2) := by decide +kernel
theorem dX2_bestGoal_72 : decode cX2_bestGoal 72 = .ok (.istore 4, 2) := by decide +kernel
theorem dX2_bestGoal_74 : decode cX2_bestGoal 74 = .ok (.iinc 6 1, 3) := by decide +kernel
theorem dX2_bestGoal_77 : decode cX2_bestGoal 77 = .ok (.goto (-47), 3) := by decide +kernel
theorem dX2_bestGoal_80 : decode cX2_bestGoal 80 = .ok (.iload_n 3, 1) := by decide +kernel
theorem dX2_bestGoal_81 : decode cX2_bestGoal 81 = .ok (.ireturn, 1) := by decide +kernel
theorem dX3_init_0 : decode cX3_init 0 = .ok (.aload_n 0, 1) := by decide +kernel
theorem dX3_init_1 : decode cX3_init 1 = .ok (.invokespecial 3, 3) := by decide +kernel
theorem dX3_init_4 : decode cX3_init 4 = .ok (.aload_n 0, 1) := by decide +kernel
theorem dX3_init_5 : decode cX3_init 5 = .ok (.iconst 1, 1) := by decide +kernel
theorem dX3_init_6 : decode cX3_init 6 = .ok (.putfield 9, 3) := by decide +kernel
theorem dX3_init_9 : decode cX3_init 9 = .ok (.aload_n 0, 1) := by decide +kernel
theorem dX3_init_10 : decode cX3_init 10 = .ok (.bipush 6, 2) := by decide +kernel
theorem dX3_init_12 : decode cX3_init 12 = .ok (.newarray .int, 2) := by decide +kernel
theorem dX3_init_14 : decode cX3_init 14 = .ok (.putfield 15, 3) := by decide +kernel
theorem dX3_init_17 : decode cX3_init 17 = .ok (.aload_n 0, 1) := by decide +kernel
theorem dX3_init_18 : decode cX3_init 18 = .ok (.bipush 6, 2) := by decide +kernel
theorem dX3_init_20 : decode cX3_init 20 = .ok (.newarray .int, 2) := by decide +kernel
theorem dX3_init_22 : decode cX3_init 22 = .ok (.putfield 19, 3) := by decide +kernel
theorem dX3_init_25 : decode cX3_init 25 = .ok (.aload_n 0, 1) := by decide +kernel
theorem dX3_init_26 : decode cX3_init 26 = .ok (.bipush 6, 2) := by decide +kernel
theorem dX3_init_28 : decode cX3_init 28 = .ok (.newarray .int, 2) := by decide +kernel
theorem dX3_init_30 : decode cX3_init 30 = .ok (.putfield 22, 3) := by decide +kernel
theorem dX3_init_33 : decode cX3_init 33 = .ok (.aload_n 0, 1) := by decide +kernel
theorem dX3_init_34 : decode cX3_init 34 = .ok (.bipush 6, 2) := by decide +kernel
theorem dX3_init_36 : decode cX3_init 36 = .ok (.newarray .int, 2) := by decide +kernel
theorem dX3_init_38 : decode cX3_init 38 = .ok (.putfield 25, 3) := by decide +kernel
theorem dX3_init_41 : decode cX3_init 41 = .ok (.return_, 1) := by decide +kernel
theorem dX3_fits_0 : decode cX3_fits 0 = .ok (.iload_n 0, 1) := by decide +kernel
theorem dX3_fits_1 : decode cX3_fits 1 = .ok (.tableswitch 97 0 3 #[31, 48, 65, 81], 31) := by decide +kernel
theorem dX3_fits_32 : decode cX3_fits 32 = .ok (.iload_n 1, 1) := by decide +kernel
theorem dX3_fits_33 : decode cX3_fits 33 = .ok (.iconst 1, 1) := by decide +kernel
theorem dX3_fits_34 : decode cX3_fits 34 = .ok (.if_icmp .lt 13, 3) := by decide +kernel
theorem dX3_fits_37 : decode cX3_fits 37 = .ok (.iload_n 1, 1) := by decide +kernel
theorem dX3_fits_38 : decode cX3_fits 38 = .ok (.bipush 99, 2) := by decide +kernel
theorem dX3_fits_40 : decode cX3_fits 40 = .ok (.if_icmp .gt 7, 3) := by decide +kernel
theorem dX3_fits_43 : decode cX3_fits 43 = .ok (.iconst 1, 1) := by decide +kernel
theorem dX3_fits_44 : decode cX3_fits 44 = .ok (.goto 4, 3) := by decide +kernel
theorem dX3_fits_47 : decode cX3_fits 47 = .ok (.iconst 0, 1) := by decide +kernel
theorem dX3_fits_48 : decode cX3_fits 48 = .ok (.ireturn, 1) := by decide +kernel
theorem dX3_fits_49 : decode cX3_fits 49 = .ok (.iload_n 1, 1) := by decide +kernel
theorem dX3_fits_50 : decode cX3_fits 50 = .ok (.iconst 1, 1) := by decide +kernel
theorem dX3_fits_51 : decode cX3_fits 51 = .ok (.if_icmp .lt 13, 3) := by decide +kernel
theorem dX3_fits_54 : decode cX3_fits 54 = .ok (.iload_n 1, 1) := by decide +kernel
theorem dX3_fits_55 : decode cX3_fits 55 = .ok (.bipush 99, 2) := by decide +kernel
theorem dX3_fits_57 : decode cX3_fits 57 = .ok (.if_icmp .gt 7, 3) := by decide +kernel
theorem dX3_fits_60 : decode cX3_fits 60 = .ok (.iconst 1, 1) := by decide +kernel
theorem dX3_fits_61 : decode cX3_fits 61 = .ok (.goto 4, 3) := by decide +kernel
theorem dX3_fits_64 : decode cX3_fits 64 = .ok (.iconst 0, 1) := by decide +kernel
theorem dX3_fits_65 : decode cX3_fits 65 = .ok (.ireturn, 1) := by decide +kernel
theorem dX3_fits_66 : decode cX3_fits 66 = .ok (.iload_n 1, 1) := by decide +kernel
theorem dX3_fits_67 : decode cX3_fits 67 = .ok (.ifCond .lt 13, 3) := by decide +kernel
theorem dX3_fits_70 : decode cX3_fits 70 = .ok (.iload_n 1, 1) := by decide +kernel
theorem dX3_fits_71 : decode cX3_fits 71 = .ok (.bipush 20, 2) := by decide +kernel
theorem dX3_fits_73 : decode cX3_fits 73 = .ok (.if_icmp .gt 7, 3) := by decide +kernel
theorem dX3_fits_76 : decode cX3_fits 76 = .ok (.iconst 1, 1) := by decide +kernel
theorem dX3_fits_77 : decode cX3_fits 77 = .ok (.goto 4, 3) := by decide +kernel
theorem dX3_fits_80 : decode cX3_fits 80 = .ok (.iconst 0, 1) := by decide +kernel
theorem dX3_fits_81 : decode cX3_fits 81 = .ok (.ireturn, 1) := by decide +kernel
theorem dX3_fits_82 : decode cX3_fits 82 = .ok (.iload_n 1, 1) := by decide +kernel
theorem dX3_fits_83 : decode cX3_fits 83 = .ok (.ifCond .lt 13, 3) := by decide +kernel
theorem dX3_fits_86 : decode cX3_fits 86 = .ok (.iload_n 1, 1) := by decide +kernel
theorem dX3_fits_87 : decode cX3_fits 87 = .ok (.bipush 60, 2) := by decide +kernel
theorem dX3_fits_89 : decode cX3_fits 89 = .ok (.if_icmp .gt 7, 3) := by decide +kernel
theorem dX3_fits_92 : decode cX3_fits 92 = .ok (.iconst 1, 1) := by decide +kernel
theorem dX3_fits_93 : decode cX3_fits 93 = .ok (.goto 4, 3) := by decide +kernel
theorem dX3_fits_96 : decode cX3_fits 96 = .ok (.iconst 0, 1) := by decide +kernel
theorem dX3_fits_97 : decode cX3_fits 97 = .ok (.ireturn, 1) := by decide +kernel
theorem dX3_fits_98 : decode cX3_fits 98 = .ok (.iconst 0, 1) := by decide +kernel
theorem dX3_fits_99 : decode cX3_fits 99 = .ok (.ireturn, 1) := by decide +kernel
theorem dX3_rowOf_0 : decode cX3_rowOf 0 = .ok (.iload_n 1, 1) := by decide +kernel
theorem dX3_rowOf_1 : decode cX3_rowOf 1 = .ok (.tableswitch 42 0 2 #[27, 32, 37], 27) := by decide +kernel
theorem dX3_rowOf_28 : decode cX3_rowOf 28 = .ok (.aload_n 0, 1) := by decide +kernel
theorem dX3_rowOf_29 : decode cX3_rowOf 29 = .ok (.getfield 15, 3) := by decide +kernel
theorem dX3_rowOf_32 : decode cX3_rowOf 32 = .ok (.areturn, 1) := by decide +kernel
theorem dX3_rowOf_33 : decode cX3_rowOf 33 = .ok (.aload_n 0, 1) := by decide +kernel
theorem dX3_rowOf_34 : decode cX3_rowOf 34 = .ok (.getfield 19, 3) := by decide +kernel
theorem dX3_rowOf_37 : decode cX3_rowOf 37 = .ok (.areturn, 1) := by decide +kernel
theorem dX3_rowOf_38 : decode cX3_rowOf 38 = .ok (.aload_n 0, 1) := by decide +kernel
theorem dX3_rowOf_39 : decode cX3_rowOf 39 = .ok (.getfield 22, 3) := by decide +kernel
theorem dX3_rowOf_42 : decode cX3_rowOf 42 = .ok (.areturn, 1) := by decide +kernel
theorem dX3_rowOf_43 : decode cX3_rowOf 43 = .ok (.aload_n 0, 1) := by decide +kernel
theorem dX3_rowOf_44 : decode cX3_rowOf 44 = .ok (.getfield 25, 3) := by decide +kernel
theorem dX3_rowOf_47 : decode cX3_rowOf 47 = .ok (.areturn, 1) := by decide +kernel
theorem dX3_add_0 : decode cX3_add 0 = .ok (.aload_n 0, 1) := by decide +kernel
theorem dX3_add_1 : decode cX3_add 1 = .ok (.getfield 28, 3) := by decide +kernel
theorem dX3_add_4 : decode cX3_add 4 = .ok (.istore 5, 2) := by decide +kernel
theorem dX3_add_6 : decode cX3_add 6 = .ok (.aload_n 0, 1) := by decide +kernel
theorem dX3_add_7 : decode cX3_add 7 = .ok (.getfield 15, 3) := by decide +kernel
theorem dX3_add_10 : decode cX3_add 10 = .ok (.iload 5, 2) := by decide +kernel
theorem dX3_add_12 : decode cX3_add 12 = .ok (.iload_n 1, 1) := by decide +kernel
theorem dX3_add_13 : decode cX3_add 13 = .ok (.iastore, 1) := by decide +kernel
theorem dX3_add_14 : decode cX3_add 14 = .ok (.aload_n 0, 1) := by decide +kernel
theorem dX3_add_15 : decode cX3_add 15 = .ok (.getfield 19, 3) := by decide +kernel
theorem dX3_add_18 : decode cX3_add 18 = .ok (.iload 5, 2) := by decide +kernel
theorem dX3_add_20 : decode cX3_add 20 = .ok (.iload_n 2, 1) := by decide +kernel
theorem dX3_add_21 : decode cX3_add 21 = .ok (.iastore, 1) := by decide +kernel
theorem dX3_add_22 : decode cX3_add 22 = .ok (.aload_n 0, 1) := by decide +kernel
theorem dX3_add_23 : decode cX3_add 23 = .ok (.getfield 22, 3) := by decide +kernel
theorem dX3_add_26 : decode cX3_add 26 = .ok (.iload 5, 2) := by decide +kernel
theorem dX3_add_28 : decode cX3_add 28 = .ok (.iload_n 3, 1) := by decide +kernel
theorem dX3_add_29 : decode cX3_add 29 = .ok (.iastore, 1) := by decide +kernel
theorem dX3_add_30 : decode cX3_add 30 = .ok (.aload_n 0, 1) := by decide +kernel
theorem dX3_add_31 : decode cX3_add 31 = .ok (.getfield 25, 3) := by decide +kernel
theorem dX3_add_34 : decode cX3_add 34 = .ok (.iload 5, 2) := by decide +kernel
theorem dX3_add_36 : decode cX3_add 36 = .ok (.iload 4, 2) := by decide +kernel
theorem dX3_add_38 : decode cX3_add 38 = .ok (.iastore, 1) := by decide +kernel
theorem dX3_add_39 : decode cX3_add 39 = .ok (.aload_n 0, 1) := by decide +kernel
theorem dX3_add_40 : decode cX3_add 40 = .ok (.dup, 1) := by decide +kernel
theorem dX3_add_41 : decode cX3_add 41 = .ok (.getfield 28, 3) := by decide +kernel
theorem dX3_add_44 : decode cX3_add 44 = .ok (.iconst 1, 1) := by decide +kernel
theorem dX3_add_45 : decode cX3_add 45 = .ok (.iadd, 1) := by decide +kernel
theorem dX3_add_46 : decode cX3_add 46 = .ok (.putfield 28, 3) := by decide +kernel
theorem dX3_add_49 : decode cX3_add 49 = .ok (.aload_n 0, 1) := by decide +kernel
theorem dX3_add_50 : decode cX3_add 50 = .ok (.dup, 1) := by decide +kernel
theorem dX3_add_51 : decode cX3_add 51 = .ok (.getfield 9, 3) := by decide +kernel
theorem dX3_add_54 : decode cX3_add 54 = .ok (.iconst 1, 1) := by decide +kernel
theorem dX3_add_55 : decode cX3_add 55 = .ok (.iadd, 1) := by decide +kernel
theorem dX3_add_56 : decode cX3_add 56 = .ok (.putfield 9, 3) := by decide +kernel
theorem dX3_add_59 : decode cX3_add 59 = .ok (.iload 5, 2) := by decide +kernel
theorem dX3_add_61 : decode cX3_add 61 = .ok (.ireturn, 1) := by decide +kernel
theorem dX3_put_0 : decode cX3_put 0 = .ok (.aload_n 0, 1) := by decide +kernel
theorem dX3_put_1 : decode cX3_put 1 = .ok (.iload_n 1, 1) := by decide +kernel
theorem dX3_put_2 : decode cX3_put 2 = .ok (.invokevirtual 31, 3) := by decide +kernel
theorem dX3_put_5 : decode cX3_put 5 = .ok (.iload_n 2, 1) := by decide +kernel
theorem dX3_put_6 : decode cX3_put 6 = .ok (.iload_n 3, 1) := by decide +kernel
theorem dX3_put_7 : decode cX3_put 7 = .ok (.iastore, 1) := by decide +kernel
theorem dX3_put_8 : decode cX3_put 8 = .ok (.aload_n 0, 1) := by decide +kernel
theorem dX3_put_9 : decode cX3_put 9 = .ok (.dup, 1) := by decide +kernel
theorem dX3_put_10 : decode cX3_put 10 = .ok (.getfield 9, 3) := by decide +kernel
theorem dX3_put_13 : decode cX3_put 13 = .ok (.iconst 1, 1) := by decide +kernel
theorem dX3_put_14 : decode cX3_put 14 = .ok (.iadd, 1) := by decide +kernel
theorem dX3_put_15 : decode cX3_put 15 = .ok (.putfield 9, 3) := by decide +kernel
theorem dX3_put_18 : decode cX3_put 18 = .ok (.return_, 1) := by decide +kernel
theorem dX3_putWalls_0 : decode cX3_putWalls 0 = .ok (.aload_n 0, 1) := by decide +kernel
theorem dX3_putWalls_1 : decode cX3_putWalls 1 = .ok (.iload_n 1, 1) := by decide +kernel
theorem dX3_putWalls_2 : decode cX3_putWalls 2 = .ok (.putfield 35, 3) := by decide +kernel
theorem dX3_putWalls_5 : decode cX3_putWalls 5 = .ok (.aload_n 0, 1) := by decide +kernel
theorem dX3_putWalls_6 : decode cX3_putWalls 6 = .ok (.dup, 1) := by decide +kernel
theorem dX3_putWalls_7 : decode cX3_putWalls 7 = .ok (.getfield 9, 3) := by decide +kernel
theorem dX3_putWalls_10 : decode cX3_putWalls 10 = .ok (.iconst 1, 1) := by decide +kernel
theorem dX3_putWalls_11 : decode cX3_putWalls 11 = .ok (.iadd, 1) := by decide +kernel
theorem dX3_putWalls_12 : decode cX3_putWalls 12 = .ok (.putfield 9, 3) := by decide +kernel
theorem dX3_putWalls_15 : decode cX3_putWalls 15 = .ok (.return_, 1) := by decide +kernel
theorem dX3_putShares_0 : decode cX3_putShares 0 = .ok (.aload_n 0, 1) := by decide +kernel
theorem dX3_putShares_1 : decode cX3_putShares 1 = .ok (.iload_n 1, 1) := by decide +kernel
theorem dX3_putShares_2 : decode cX3_putShares 2 = .ok (.putfield 38, 3) := by decide +kernel
theorem dX3_putShares_5 : decode cX3_putShares 5 = .ok (.aload_n 0, 1) := by decide +kernel
theorem dX3_putShares_6 : decode cX3_putShares 6 = .ok (.dup, 1) := by decide +kernel
theorem dX3_putShares_7 : decode cX3_putShares 7 = .ok (.getfield 9, 3) := by decide +kernel
theorem dX3_putShares_10 : decode cX3_putShares 10 = .ok (.iconst 1, 1) := by decide +kernel
theorem dX3_putShares_11 : decode cX3_putShares 11 = .ok (.iadd, 1) := by decide +kernel
theorem dX3_putShares_12 : decode cX3_putShares 12 = .ok (.putfield 9, 3) := by decide +kernel
theorem dX3_putShares_15 : decode cX3_putShares 15 = .ok (.return_, 1) := by decide +kernel
theorem dX3_copy_0 : decode cX3_copy 0 = .ok (.aload_n 0, 1) := by decide +kernel
theorem dX3_copy_1 : decode cX3_copy 1 = .ok (.aload_n 1, 1) := by decide +kernel
theorem dX3_copy_2 : decode cX3_copy 2 = .ok (.getfield 28, 3) := by decide +kernel
theorem dX3_copy_5 : decode cX3_copy 5 = .ok (.putfield 28, 3) := by decide +kernel
theorem dX3_copy_8 : decode cX3_copy 8 = .ok (.aload_n 0, 1) := by decide +kernel
theorem dX3_copy_9 : decode cX3_copy 9 = .ok (.aload_n 1, 1) := by decide +kernel
theorem dX3_copy_10 : decode cX3_copy 10 = .ok (.getfield 35, 3) := by decide +kernel
theorem dX3_copy_13 : decode cX3_copy 13 = .ok (.putfield 35, 3) := by decide +kernel
theorem dX3_copy_16 : decode cX3_copy 16 = .ok (.aload_n 0, 1) := by decide +kernel
theorem dX3_copy_17 : decode cX3_copy 17 = .ok (.aload_n 1, 1) := by decide +kernel
theorem dX3_copy_18 : decode cX3_copy 18 = .ok (.getfield 38, 3) := by decide +kernel
theorem dX3_copy_21 : decode cX3_copy 21 = .ok (.putfield 38, 3) := by decide +kernel
theorem dX3_copy_24 : decode cX3_copy 24 = .ok (.iconst 0, 1) := by decide +kernel
theorem dX3_copy_25 : decode cX3_copy 25 = .ok (.istore_n 2, 1) := by decide +kernel
theorem dX3_copy_26 : decode cX3_copy 26 = .ok (.iload_n 2, 1) := by decide +kernel
theorem dX3_copy_27 : decode cX3_copy 27 = .ok (.bipush 6, 2) := by decide +kernel
theorem dX3_copy_29 : decode cX3_copy 29 = .ok (.if_icmp .ge 57, 3) := by decide +kernel
theorem dX3_copy_32 : decode cX3_copy 32 = .ok (.aload_n 0, 1) := by decide +kernel
theorem dX3_copy_33 : decode cX3_copy 33 = .ok (.getfield 15, 3) := by decide +kernel
theorem dX3_copy_36 : decode cX3_copy 36 = .ok (.iload_n 2, 1) := by decide +kernel
theorem dX3_copy_37 : decode cX3_copy 37 = .ok (.aload_n 1, 1) := by decide +kernel
theorem dX3_copy_38 : decode cX3_copy 38 = .ok (.getfield 15, 3) := by decide +kernel
theorem dX3_copy_41 : decode cX3_copy 41 = .ok (.iload_n 2, 1) := by decide +kernel
theorem dX3_copy_42 : decode cX3_copy 42 = .ok (.iaload, 1) := by decide +kernel
theorem dX3_copy_43 : decode cX3_copy 43 = .ok (.iastore, 1) := by decide +kernel
theorem dX3_copy_44 : decode cX3_copy 44 = .ok (.aload_n 0, 1) := by decide +kernel
theorem dX3_copy_45 : decode cX3_copy 45 = .ok (.getfield 19, 3) := by decide +kernel
theorem dX3_copy_48 : decode cX3_copy 48 = .ok (.iload_n 2, 1) := by decide +kernel
theorem dX3_copy_49 : decode cX3_copy 49 = .ok (.aload_n 1, 1) := by decide +kernel
theorem dX3_copy_50 : decode cX3_copy 50 = .ok (.getfield 19, 3) := by decide +kernel
theorem dX3_copy_53 : decode cX3_copy 53 = .ok (.iload_n 2, 1) := by decide +kernel
theorem dX3_copy_54 : decode cX3_copy 54 = .ok (.iaload, 1) := by decide +kernel
theorem dX3_copy_55 : decode cX3_copy 55 = .ok (.iastore, 1) := by decide +kernel
theorem dX3_copy_56 : decode cX3_copy 56 = .ok (.aload_n 0, 1) := by decide +kernel
theorem dX3_copy_57 : decode cX3_copy 57 = .ok (.getfield 22, 3) := by decide +kernel
theorem dX3_copy_60 : decode cX3_copy 60 = .ok (.iload_n 2, 1) := by decide +kernel
theorem dX3_copy_61 : decode cX3_copy 61 = .ok (.aload_n 1, 1) := by decide +kernel
theorem dX3_copy_62 : decode cX3_copy 62 = .ok (.getfield 22, 3) := by decide +kernel
theorem dX3_copy_65 : decode cX3_copy 65 = .ok (.iload_n 2, 1) := by decide +kernel
theorem dX3_copy_66 : decode cX3_copy 66 = .ok (.iaload, 1) := by decide +kernel
theorem dX3_copy_67 : decode cX3_copy 67 = .ok (.iastore, 1) := by decide +kernel
theorem dX3_copy_68 : decode cX3_copy 68 = .ok (.aload_n 0, 1) := by decide +kernel
theorem dX3_copy_69 : decode cX3_copy 69 = .ok (.getfield 25, 3) := by decide +kernel
theorem dX3_copy_72 : decode cX3_copy 72 = .ok (.iload_n 2, 1) := by decide +kernel
theorem dX3_copy_73 : decode cX3_copy 73 = .ok (.aload_n 1, 1) := by decide +kernel
theorem dX3_copy_74 : decode cX3_copy 74 = .ok (.getfield 25, 3) := by decide +kernel
theorem dX3_copy_77 : decode cX3_copy 77 = .ok (.iload_n 2, 1) := by decide +kernel
theorem dX3_copy_78 : decode cX3_copy 78 = .ok (.iaload, 1) := by decide +kernel
theorem dX3_copy_79 : decode cX3_copy 79 = .ok (.iastore, 1) := by decide +kernel
theorem dX3_copy_80 : decode cX3_copy 80 = .ok (.iinc 2 1, 3) := by decide +kernel
theorem dX3_copy_83 : decode cX3_copy 83 = .ok (.goto (-57), 3) := by decide +kernel
theorem dX3_copy_86 : decode cX3_copy 86 = .ok (.aload_n 0, 1) := by decide +kernel
theorem dX3_copy_87 : decode cX3_copy 87 = .ok (.dup, 1) := by decide +kernel
theorem dX3_copy_88 : decode cX3_copy 88 = .ok (.getfield 9, 3) := by decide +kernel
theorem dX3_copy_91 : decode cX3_copy 91 = .ok (.iconst 1, 1) := by decide +kernel
theorem dX3_copy_92 : decode cX3_copy 92 = .ok (.iadd, 1) := by decide +kernel
theorem dX3_copy_93 : decode cX3_copy 93 = .ok (.putfield 9, 3) := by decide +kernel
theorem dX3_copy_96 : decode cX3_copy 96 = .ok (.return_, 1) := by decide +kernel
theorem dX4_init_0 : decode cX4_init 0 = .ok (.aload_n 0, 1) := by decide +kernel
theorem dX4_init_1 : decode cX4_init 1 = .ok (.invokespecial 3, 3) := by decide +kernel
theorem dX4_init_4 : decode cX4_init 4 = .ok (.aload_n 0, 1) := by decide +kernel
theorem dX4_init_5 : decode cX4_init 5 = .ok (.bipush 6, 2) := by decide +kernel
theorem dX4_init_7 : decode cX4_init 7 = .ok (.newarray .int, 2) := by decide +kernel
theorem dX4_init_9 : decode cX4_init 9 = .ok (.putfield 9, 3) := by decide +kernel
theorem dX4_init_12 : decode cX4_init 12 = .ok (.aload_n 0, 1) := by decide +kernel
theorem dX4_init_13 : decode cX4_init 13 = .ok (.bipush 6, 2) := by decide +kernel
theorem dX4_init_15 : decode cX4_init 15 = .ok (.newarray .int, 2) := by decide +kernel
theorem dX4_init_17 : decode cX4_init 17 = .ok (.putfield 15, 3) := by decide +kernel
theorem dX4_init_20 : decode cX4_init 20 = .ok (.aload_n 0, 1) := by decide +kernel
theorem dX4_init_21 : decode cX4_init 21 = .ok (.bipush 6, 2) := by decide +kernel
theorem dX4_init_23 : decode cX4_init 23 = .ok (.newarray .int, 2) := by decide +kernel
theorem dX4_init_25 : decode cX4_init 25 = .ok (.putfield 18, 3) := by decide +kernel
theorem dX4_init_28 : decode cX4_init 28 = .ok (.aload_n 0, 1) := by decide +kernel
theorem dX4_init_29 : decode cX4_init 29 = .ok (.bipush 6, 2) := by decide +kernel
theorem dX4_init_31 : decode cX4_init 31 = .ok (.newarray .int, 2) := by decide +kernel
theorem dX4_init_33 : decode cX4_init 33 = .ok (.putfield 21, 3) := by decide +kernel
theorem dX4_init_36 : decode cX4_init 36 = .ok (.aload_n 0, 1) := by decide +kernel
theorem dX4_init_37 : decode cX4_init 37 = .ok (.bipush 6, 2) := by decide +kernel
theorem dX4_init_39 : decode cX4_init 39 = .ok (.newarray .int, 2) := by decide +kernel
theorem dX4_init_41 : decode cX4_init 41 = .ok (.putfield 24, 3) := by decide +kernel
theorem dX4_init_44 : decode cX4_init 44 = .ok (.aload_n 0, 1) := by decide +kernel
theorem dX4_init_45 : decode cX4_init 45 = .ok (.bipush 6, 2) := by decide +kernel
theorem dX4_init_47 : decode cX4_init 47 = .ok (.newarray .int, 2) := by decide +kernel
theorem dX4_init_49 : decode cX4_init 49 = .ok (.putfield 27, 3) := by decide +kernel
theorem dX4_init_52 : decode cX4_init 52 = .ok (.return_, 1) := by decide +kernel
theorem dX4_reckon_0 : decode cX4_reckon 0 = .ok (.iconst 0, 1) := by decide +kernel
theorem dX4_reckon_1 : decode cX4_reckon 1 = .ok (.istore_n 3, 1) := by decide +kernel
theorem dX4_reckon_2 : decode cX4_reckon 2 = .ok (.iload_n 3, 1) := by decide +kernel
theorem dX4_reckon_3 : decode cX4_reckon 3 = .ok (.aload_n 1, 1) := by decide +kernel
theorem dX4_reckon_4 : decode cX4_reckon 4 = .ok (.getfield 30, 3) := by decide +kernel
theorem dX4_reckon_7 : decode cX4_reckon 7 = .ok (.if_icmp .ge 84, 3) := by decide +kernel
theorem dX4_reckon_10 : decode cX4_reckon 10 = .ok (.aload_n 0, 1) := by decide +kernel
theorem dX4_reckon_11 : decode cX4_reckon 11 = .ok (.getfield 9, 3) := by decide +kernel
theorem dX4_reckon_14 : decode cX4_reckon 14 = .ok (.iload_n 3, 1) := by decide +kernel
theorem dX4_reckon_15 : decode cX4_reckon 15 = .ok (.aload_n 0, 1) := by decide +kernel
theorem dX4_reckon_16 : decode cX4_reckon 16 = .ok (.aload_n 1, 1) := by decide +kernel
theorem dX4_reckon_17 : decode cX4_reckon 17 = .ok (.aload_n 2, 1) := by decide +kernel
theorem dX4_reckon_18 : decode cX4_reckon 18 = .ok (.iload_n 3, 1) := by decide +kernel
theorem dX4_reckon_19 : decode cX4_reckon 19 = .ok (.invokevirtual 36, 3) := by decide +kernel
theorem dX4_reckon_22 : decode cX4_reckon 22 = .ok (.iastore, 1) := by decide +kernel
theorem dX4_reckon_23 : decode cX4_reckon 23 = .ok (.aload_n 0, 1) := by decide +kernel
theorem dX4_reckon_24 : decode cX4_reckon 24 = .ok (.aload_n 1, 1) := by decide +kernel
theorem dX4_reckon_25 : decode cX4_reckon 25 = .ok (.aload_n 2, 1) := by decide +kernel
theorem dX4_reckon_26 : decode cX4_reckon 26 = .ok (.iload_n 3, 1) := by decide +kernel
theorem dX4_reckon_27 : decode cX4_reckon 27 = .ok (.invokevirtual 40, 3) := by decide +kernel
theorem dX4_reckon_30 : decode cX4_reckon 30 = .ok (.aload_n 2, 1) := by decide +kernel
theorem dX4_reckon_31 : decode cX4_reckon 31 = .ok (.getfield 44, 3) := by decide +kernel
theorem dX4_reckon_34 : decode cX4_reckon 34 = .ok (.aload_n 0, 1) := by decide +kernel
theorem dX4_reckon_35 : decode cX4_reckon 35 = .ok (.getfield 18, 3) := by decide +kernel
theorem dX4_reckon_38 : decode cX4_reckon 38 = .ok (.iload_n 3, 1) := by decide +kernel
theorem dX4_reckon_39 : decode cX4_reckon 39 = .ok (.iaload, 1) := by decide +kernel
theorem dX4_reckon_40 : decode cX4_reckon 40 = .ok (.iaload, 1) := by decide +kernel
theorem dX4_reckon_41 : decode cX4_reckon 41 = .ok (.aload_n 2, 1) := by decide +kernel
theorem dX4_reckon_42 : decode cX4_reckon 42 = .ok (.getfield 44, 3) := by decide +kernel
theorem dX4_reckon_45 : decode cX4_reckon 45 = .ok (.iload_n 3, 1) := by decide +kernel
theorem dX4_reckon_46 : decode cX4_reckon 46 = .ok (.iaload, 1) := by decide +kernel
theorem dX4_reckon_47 : decode cX4_reckon 47 = .ok (.if_icmp .eq 7, 3) := by decide +kernel
theorem dX4_reckon_50 : decode cX4_reckon 50 = .ok (.iconst 1, 1) := by decide +kernel
theorem dX4_reckon_51 : decode cX4_reckon 51 = .ok (.goto 4, 3) := by decide +kernel
theorem dX4_reckon_54 : decode cX4_reckon 54 = .ok (.iconst 0, 1) := by decide +kernel
theorem dX4_reckon_55 : decode cX4_reckon 55 = .ok (.istore 4, 2) := by decide +kernel
theorem dX4_reckon_57 : decode cX4_reckon 57 = .ok (.aload_n 0, 1) := by decide +kernel
theorem dX4_reckon_58 : decode cX4_reckon 58 = .ok (.getfield 24, 3) := by decide +kernel
theorem dX4_reckon_61 : decode cX4_reckon 61 = .ok (.iload_n 3, 1) := by decide +kernel
theorem dX4_reckon_62 : decode cX4_reckon 62 = .ok (.iload 4, 2) := by decide +kernel
theorem dX4_reckon_64 : decode cX4_reckon 64 = .ok (.ifCond .eq 19, 3) := by decide +kernel
theorem dX4_reckon_67 : decode cX4_reckon 67 = .ok (.aload_n 0, 1) := by decide +kernel
theorem dX4_reckon_68 : decode cX4_reckon 68 = .ok (.getfield 9, 3) := by decide +kernel
theorem dX4_reckon_71 : decode cX4_reckon 71 = .ok (.iload_n 3, 1) := by decide +kernel
theorem dX4_reckon_72 : decode cX4_reckon 72 = .ok (.iaload, 1) := by decide +kernel
theorem dX4_reckon_73 : decode cX4_reckon 73 = .ok (.aload_n 0, 1) := by decide +kernel
theorem dX4_reckon_74 : decode cX4_reckon 74 = .ok (.getfield 21, 3) := by decide +kernel
theorem dX4_reckon_77 : decode cX4_reckon 77 = .ok (.iload_n 3, 1) := by decide +kernel
theorem dX4_reckon_78 : decode cX4_reckon 78 = .ok (.iaload, 1) := by decide +kernel
theorem dX4_reckon_79 : decode cX4_reckon 79 = .ok (.imul, 1) := by decide +kernel
theorem dX4_reckon_80 : decode cX4_reckon 80 = .ok (.goto 4, 3) := by decide +kernel
theorem dX4_reckon_83 : decode cX4_reckon 83 = .ok (.iconst 0, 1) := by decide +kernel
theorem dX4_reckon_84 : decode cX4_reckon 84 = .ok (.iastore, 1) := by decide +kernel
theorem dX4_reckon_85 : decode cX4_reckon 85 = .ok (.iinc 3 1, 3) := by decide +kernel
theorem dX4_reckon_88 : decode cX4_reckon 88 = .ok (.goto (-86), 3) := by decide +kernel
theorem dX4_reckon_91 : decode cX4_reckon 91 = .ok (.aload_n 1, 1) := by decide +kernel
theorem dX4_reckon_92 : decode cX4_reckon 92 = .ok (.getfield 49, 3) := by decide +kernel
theorem dX4_reckon_95 : decode cX4_reckon 95 = .ok (.ifCond .eq 26, 3) := by decide +kernel
theorem dX4_reckon_98 : decode cX4_reckon 98 = .ok (.iconst 0, 1) := by decide +kernel
theorem dX4_reckon_99 : decode cX4_reckon 99 = .ok (.istore_n 3, 1) := by decide +kernel
theorem dX4_reckon_100 : decode cX4_reckon 100 = .ok (.iload_n 3, 1) := by decide +kernel
theorem dX4_reckon_101 : decode cX4_reckon 101 = .ok (.aload_n 2, 1) := by decide +kernel
theorem dX4_reckon_102 : decode cX4_reckon 102 = .ok (.getfield 52, 3) := by decide +kernel
theorem dX4_reckon_105 : decode cX4_reckon 105 = .ok (.if_icmp .ge 16, 3) := by decide +kernel
theorem dX4_reckon_108 : decode cX4_reckon 108 = .ok (.aload_n 0, 1) := by decide +kernel
theorem dX4_reckon_109 : decode cX4_reckon 109 = .ok (.aload_n 1, 1) := by decide +kernel
theorem dX4_reckon_110 : decode cX4_reckon 110 = .ok (.aload_n 2, 1) := by decide +kernel
theorem dX4_reckon_111 : decode cX4_reckon 111 = .ok (.iload_n 3, 1) := by decide +kernel
theorem dX4_reckon_112 : decode cX4_reckon 112 = .ok (.invokevirtual 55, 3) := by decide +kernel
theorem dX4_reckon_115 : decode cX4_reckon 115 = .ok (.iinc 3 1, 3) := by decide +kernel
theorem dX4_reckon_118 : decode cX4_reckon 118 = .ok (.goto (-18), 3) := by decide +kernel
theorem dX4_reckon_121 : decode cX4_reckon 121 = .ok (.iconst 0, 1) := by decide +kernel
theorem dX4_reckon_122 : decode cX4_reckon 122 = .ok (.istore_n 3, 1) := by decide +kernel
theorem dX4_reckon_123 : decode cX4_reckon 123 = .ok (.iload_n 3, 1) := by decide +kernel
theorem dX4_reckon_124 : decode cX4_reckon 124 = .ok (.aload_n 1, 1) := by decide +kernel
theorem dX4_reckon_125 : decode cX4_reckon 125 = .ok (.getfield 30, 3) := by decide +kernel
theorem dX4_reckon_128 : decode cX4_reckon 128 = .ok (.if_icmp .ge 37, 3) := by decide +kernel
theorem dX4_reckon_131 : decode cX4_reckon 131 = .ok (.aload_n 0, 1) := by decide +kernel
theorem dX4_reckon_132 : decode cX4_reckon 132 = .ok (.getfield 27, 3) := by decide +kernel
theorem dX4_reckon_135 : decode cX4_reckon 135 = .ok (.iload_n 3, 1) := by decide +kernel
theorem dX4_reckon_136 : decode cX4_reckon 136 = .ok (.aload_n 0, 1) := by decide +kernel
theorem dX4_reckon_137 : decode cX4_reckon 137 = .ok (.getfield 21, 3) := by decide +kernel
theorem dX4_reckon_140 : decode cX4_reckon 140 = .ok (.iload_n 3, 1) := by decide +kernel
theorem dX4_reckon_141 : decode cX4_reckon 141 = .ok (.iaload, 1) := by decide +kernel
theorem dX4_reckon_142 : decode cX4_reckon 142 = .ok (.aload_n 0, 1) := by decide +kernel
theorem dX4_reckon_143 : decode cX4_reckon 143 = .ok (.getfield 21, 3) := by decide +kernel
theorem dX4_reckon_146 : decode cX4_reckon 146 = .ok (.iload_n 3, 1) := by decide +kernel
theorem dX4_reckon_147 : decode cX4_reckon 147 = .ok (.iaload, 1) := by decide +kernel
theorem dX4_reckon_148 : decode cX4_reckon 148 = .ok (.imul, 1) := by decide +kernel
theorem dX4_reckon_149 : decode cX4_reckon 149 = .ok (.iconst 2, 1) := by decide +kernel
theorem dX4_reckon_150 : decode cX4_reckon 150 = .ok (.aload_n 0, 1) := by decide +kernel
theorem dX4_reckon_151 : decode cX4_reckon 151 = .ok (.getfield 24, 3) := by decide +kernel
theorem dX4_reckon_154 : decode cX4_reckon 154 = .ok (.iload_n 3, 1) := by decide +kernel
theorem dX4_reckon_155 : decode cX4_reckon 155 = .ok (.iaload, 1) := by decide +kernel
theorem dX4_reckon_156 : decode cX4_reckon 156 = .ok (.imul, 1) := by decide +kernel
theorem dX4_reckon_157 : decode cX4_reckon 157 = .ok (.iadd, 1) := by decide +kernel
theorem dX4_reckon_158 : decode cX4_reckon 158 = .ok (.iastore, 1) := by decide +kernel
theorem dX4_reckon_159 : decode cX4_reckon 159 = .ok (.iinc 3 1, 3) := by decide +kernel
theorem dX4_reckon_162 : decode cX4_reckon 162 = .ok (.goto (-39), 3) := by decide +kernel
theorem dX4_reckon_165 : decode cX4_reckon 165 = .ok (.iconst 0, 1) := by decide +kernel
theorem dX4_reckon_166 : decode cX4_reckon 166 = .ok (.istore_n 3, 1) := by decide +kernel
theorem dX4_reckon_167 : decode cX4_reckon 167 = .ok (.iload_n 3, 1) := by decide +kernel
theorem dX4_reckon_168 : decode cX4_reckon 168 = .ok (.aload_n 1, 1) := by decide +kernel
theorem dX4_reckon_169 : decode cX4_reckon 169 = .ok (.getfield 30, 3) := by decide +kernel
theorem dX4_reckon_172 : decode cX4_reckon 172 = .ok (.if_icmp .ge 43, 3) := by decide +kernel
theorem dX4_reckon_175 : decode cX4_reckon 175 = .ok (.aload_n 0, 1) := by decide +kernel
theorem dX4_reckon_176 : decode cX4_reckon 176 = .ok (.getfield 18, 3) := by decide +kernel
theorem dX4_reckon_179 : decode cX4_reckon 179 = .ok (.iload_n 3, 1) := by decide +kernel
theorem dX4_reckon_180 : decode cX4_reckon 180 = .ok (.iaload, 1) := by decide +kernel
theorem dX4_reckon_181 : decode cX4_reckon 181 = .ok (.istore 4, 2) := by decide +kernel
theorem dX4_reckon_183 : decode cX4_reckon 183 = .ok (.aload_n 0, 1) := by decide +kernel
theorem dX4_reckon_184 : decode cX4_reckon 184 = .ok (.getfield 27, 3) := by decide +kernel
theorem dX4_reckon_187 : decode cX4_reckon 187 = .ok (.iload 4, 2) := by decide +kernel
theorem dX4_reckon_189 : decode cX4_reckon 189 = .ok (.dup2, 1) := by decide +kernel
theorem dX4_reckon_190 : decode cX4_reckon 190 = .ok (.iaload, 1) := by decide +kernel
theorem dX4_reckon_191 : decode cX4_reckon 191 = .ok (.iconst 2, 1) := by decide +kernel
theorem dX4_reckon_192 : decode cX4_reckon 192 = .ok (.aload_n 1, 1) := by decide +kernel
theorem dX4_reckon_193 : decode cX4_reckon 193 = .ok (.getfield 58, 3) := by decide +kernel
theorem dX4_reckon_196 : decode cX4_reckon 196 = .ok (.iload 4, 2) := by decide +kernel
theorem dX4_reckon_198 : decode cX4_reckon 198 = .ok (.iaload, 1) := by decide +kernel
theorem dX4_reckon_199 : decode cX4_reckon 199 = .ok (.imul, 1) := by decide +kernel
theorem dX4_reckon_200 : decode cX4_reckon 200 = .ok (.aload_n 0, 1) := by decide +kernel
theorem dX4_reckon_201 : decode cX4_reckon 201 = .ok (.getfield 21, 3) := by decide +kernel
theorem dX4_reckon_204 : decode cX4_reckon 204 = .ok (.iload_n 3, 1) := by decide +kernel
theorem dX4_reckon_205 : decode cX4_reckon 205 = .ok (.iaload, 1) := by decide +kernel
theorem dX4_reckon_206 : decode cX4_reckon 206 = .ok (.imul, 1) := by decide +kernel
theorem dX4_reckon_207 : decode cX4_reckon 207 = .ok (.iadd, 1) := by decide +kernel
theorem dX4_reckon_208 : decode cX4_reckon 208 = .ok (.iastore, 1) := by decide +kernel
theorem dX4_reckon_209 : decode cX4_reckon 209 = .ok (.iinc 3 1, 3) := by decide +kernel
theorem dX4_reckon_212 : decode cX4_reckon 212 = .ok (.goto (-45), 3) := by decide +kernel
theorem dX4_reckon_215 : decode cX4_reckon 215 = .ok (.return_, 1) := by decide +kernel
theorem dX4_wallAround_0 : decode cX4_wallAround 0 = .ok (.aload_n 1, 1) := by decide +kernel
theorem dX4_wallAround_1 : decode cX4_wallAround 1 = .ok (.getfield 61, 3) := by decide +kernel
theorem dX4_wallAround_4 : decode cX4_wallAround 4 = .ok (.iload_n 3, 1) := by decide +kernel
theorem dX4_wallAround_5 : decode cX4_wallAround 5 = .ok (.iaload, 1) := by decide +kernel
theorem dX4_wallAround_6 : decode cX4_wallAround 6 = .ok (.istore 4, 2) := by decide +kernel
theorem dX4_wallAround_8 : decode cX4_wallAround 8 = .ok (.aload_n 1, 1) := by decide +kernel
theorem dX4_wallAround_9 : decode cX4_wallAround 9 = .ok (.getfield 61, 3) := by decide +kernel
theorem dX4_wallAround_12 : decode cX4_wallAround 12 = .ok (.iload_n 3, 1) := by decide +kernel
theorem dX4_wallAround_13 : decode cX4_wallAround 13 = .ok (.iaload, 1) := by decide +kernel
theorem dX4_wallAround_14 : decode cX4_wallAround 14 = .ok (.istore 5, 2) := by decide +kernel
theorem dX4_wallAround_16 : decode cX4_wallAround 16 = .ok (.iconst 0, 1) := by decide +kernel
theorem dX4_wallAround_17 : decode cX4_wallAround 17 = .ok (.istore 6, 2) := by decide +kernel
theorem dX4_wallAround_19 : decode cX4_wallAround 19 = .ok (.iconst 0, 1) := by decide +kernel
theorem dX4_wallAround_20 : decode cX4_wallAround 20 = .ok (.istore 7, 2) := by decide +kernel
theorem dX4_wallAround_22 : decode cX4_wallAround 22 = .ok (.iconst 0, 1) := by decide +kernel
theorem dX4_wallAround_23 : decode cX4_wallAround 23 = .ok (.istore 8, 2) := by decide +kernel
theorem dX4_wallAround_25 : decode cX4_wallAround 25 = .ok (.iload 8, 2) := by decide +kernel
theorem dX4_wallAround_27 : decode cX4_wallAround 27 = .ok (.aload_n 1, 1) := by decide +kernel
theorem dX4_wallAround_28 : decode cX4_wallAround 28 = .ok (.getfield 30, 3) := by decide +kernel
theorem dX4_wallAround_31 : decode cX4_wallAround 31 = .ok (.if_icmp .ge 76, 3) := by decide +kernel
theorem dX4_wallAround_34 : decode cX4_wallAround 34 = .ok (.aload_n 2, 1) := by decide +kernel
theorem dX4_wallAround_35 : decode cX4_wallAround 35 = .ok (.getfield 44, 3) := by decide +kernel
theorem dX4_wallAround_38 : decode cX4_wallAround 38 = .ok (.iload 8, 2) := by decide +kernel
theorem dX4_wallAround_40 : decode cX4_wallAround 40 = .ok (.iaload, 1) := by decide +kernel
theorem dX4_wallAround_41 : decode cX4_wallAround 41 = .ok (.aload_n 2, 1) := by decide +kernel
theorem dX4_wallAround_42 : decode cX4_wallAround 42 = .ok (.getfield 44, 3) := by decide +kernel
theorem dX4_wallAround_45 : decode cX4_wallAround 45 = .ok (.iload_n 3, 1) := by decide +kernel
theorem dX4_wallAround_46 : decode cX4_wallAround 46 = .ok (.iaload, 1) := by decide +kernel
theorem dX4_wallAround_47 : decode cX4_wallAround 47 = .ok (.if_icmp .ne 54, 3) := by decide +kernel
theorem dX4_wallAround_50 : decode cX4_wallAround 50 = .ok (.aload_n 1, 1) := by decide +kernel
theorem dX4_wallAround_51 : decode cX4_wallAround 51 = .ok (.getfield 61, 3) := by decide +kernel
theorem dX4_wallAround_54 : decode cX4_wallAround 54 = .ok (.iload 8, 2) := by decide +kernel
theorem dX4_wallAround_56 : decode cX4_wallAround 56 = .ok (.iaload, 1) := by decide +kernel
theorem dX4_wallAround_57 : decode cX4_wallAround 57 = .ok (.istore 9, 2) := by decide +kernel
theorem dX4_wallAround_59 : decode cX4_wallAround 59 = .ok (.iload 9, 2) := by decide +kernel
theorem dX4_wallAround_61 : decode cX4_wallAround 61 = .ok (.iload 4, 2) := by decide +kernel
theorem dX4_wallAround_63 : decode cX4_wallAround 63 = .ok (.if_icmp .ge 8, 3) := by decide +kernel
theorem dX4_wallAround_66 : decode cX4_wallAround 66 = .ok (.iload 9, 2) := by decide +kernel
theorem dX4_wallAround_68 : decode cX4_wallAround 68 = .ok (.goto 5, 3) := by decide +kernel
theorem dX4_wallAround_71 : decode cX4_wallAround 71 = .ok (.iload 4, 2) := by decide +kernel
theorem dX4_wallAround_73 : decode cX4_wallAround 73 = .ok (.istore 4, 2) := by decide +kernel
theorem dX4_wallAround_75 : decode cX4_wallAround 75 = .ok (.iload 9, 2) := by decide +kernel
theorem dX4_wallAround_77 : decode cX4_wallAround 77 = .ok (.iload 5, 2) := by decide +kernel
theorem dX4_wallAround_79 : decode cX4_wallAround 79 = .ok (.if_icmp .le 8, 3) := by decide +kernel
theorem dX4_wallAround_82 : decode cX4_wallAround 82 = .ok (.iload 9, 2) := by decide +kernel
theorem dX4_wallAround_84 : decode cX4_wallAround 84 = .ok (.goto 5, 3) := by decide +kernel
theorem dX4_wallAround_87 : decode cX4_wallAround 87 = .ok (.iload 5, 2) := by decide +kernel
theorem dX4_wallAround_89 : decode cX4_wallAround 89 = .ok (.istore 5, 2) := by decide +kernel
theorem dX4_wallAround_91 : decode cX4_wallAround 91 = .ok (.iload 6, 2) := by decide +kernel
theorem dX4_wallAround_93 : decode cX4_wallAround 93 = .ok (.iload 9, 2) := by decide +kernel
theorem dX4_wallAround_95 : decode cX4_wallAround 95 = .ok (.iadd, 1) := by decide +kernel
theorem dX4_wallAround_96 : decode cX4_wallAround 96 = .ok (.istore 6, 2) := by decide +kernel
theorem dX4_wallAround_98 : decode cX4_wallAround 98 = .ok (.iinc 7 1, 3) := by decide +kernel
theorem dX4_wallAround_101 : decode cX4_wallAround 101 = .ok (.iinc 8 1, 3) := by decide +kernel
theorem dX4_wallAround_104 : decode cX4_wallAround 104 = .ok (.goto (-79), 3) := by decide +kernel
theorem dX4_wallAround_107 : decode cX4_wallAround 107 = .ok (.aload_n 1, 1) := by decide +kernel
theorem dX4_wallAround_108 : decode cX4_wallAround 108 = .ok (.getfield 64, 3) := by decide +kernel
theorem dX4_wallAround_111 : decode cX4_wallAround 111 = .ok (.ifCond .ne 6, 3) := by decide +kernel
theorem dX4_wallAround_114 : decode cX4_wallAround 114 = .ok (.iload 4, 2) := by decide +kernel
theorem dX4_wallAround_116 : decode cX4_wallAround 116 = .ok (.ireturn, 1) := by decide +kernel
theorem dX4_wallAround_117 : decode cX4_wallAround 117 = .ok (.aload_n 1, 1) := by decide +kernel
theorem dX4_wallAround_118 : decode cX4_wallAround 118 = .ok (.getfield 64, 3) := by decide +kernel
theorem dX4_wallAround_121 : decode cX4_wallAround 121 = .ok (.iconst 1, 1) := by decide +kernel
theorem dX4_wallAround_122 : decode cX4_wallAround 122 = .ok (.if_icmp .ne 6, 3) := by decide +kernel
theorem dX4_wallAround_125 : decode cX4_wallAround 125 = .ok (.iload 5, 2) := by decide +kernel
theorem dX4_wallAround_127 : decode cX4_wallAround 127 = .ok (.ireturn, 1) := by decide +kernel
theorem dX4_wallAround_128 : decode cX4_wallAround 128 = .ok (.iload 7, 2) := by decide +kernel
theorem dX4_wallAround_130 : decode cX4_wallAround 130 = .ok (.ifCond .le 11, 3) := by decide +kernel
theorem dX4_wallAround_133 : decode cX4_wallAround 133 = .ok (.iload 6, 2) := by decide +kernel
theorem dX4_wallAround_135 : decode cX4_wallAround 135 = .ok (.iload 7, 2) := by decide +kernel
theorem dX4_wallAround_137 : decode cX4_wallAround 137 = .ok (.idiv, 1) := by decide +kernel
theorem dX4_wallAround_138 : decode cX4_wallAround 138 = .ok (.goto 4, 3) := by decide +kernel
theorem dX4_wallAround_141 : decode cX4_wallAround 141 = .ok (.iconst 0, 1) := by decide +kernel
theorem dX4_wallAround_142 : decode cX4_wallAround 142 = .ok (.ireturn, 1) := by decide +kernel
theorem dX4_buy_0 : decode cX4_buy 0 = .ok (.iload_n 3, 1) := by decide +kernel
theorem dX4_buy_1 : decode cX4_buy 1 = .ok (.istore 4, 2) := by decide +kernel
theorem dX4_buy_3 : decode cX4_buy 3 = .ok (.sipush 1000, 3) := by decide +kernel
theorem dX4_buy_6 : decode cX4_buy 6 = .ok (.istore 5, 2) := by decide +kernel
theorem dX4_buy_8 : decode cX4_buy 8 = .ok (.iconst 0, 1) := by decide +kernel
theorem dX4_buy_9 : decode cX4_buy 9 = .ok (.istore 6, 2) := by decide +kernel
theorem dX4_buy_11 : decode cX4_buy 11 = .ok (.iload 6, 2) := by decide +kernel
theorem dX4_buy_13 : decode cX4_buy 13 = .ok (.aload_n 1, 1) := by decide +kernel
theorem dX4_buy_14 : decode cX4_buy 14 = .ok (.getfield 30, 3) := by decide +kernel
theorem dX4_buy_17 : decode cX4_buy 17 = .ok (.if_icmp .ge 68, 3) := by decide +kernel
theorem dX4_buy_20 : decode cX4_buy 20 = .ok (.aload_n 1, 1) := by decide +kernel
theorem dX4_buy_21 : decode cX4_buy 21 = .ok (.getfield 67, 3) := by decide +kernel
theorem dX4_buy_24 : decode cX4_buy 24 = .ok (.iload 6, 2) := by decide +kernel
theorem dX4_buy_26 : decode cX4_buy 26 = .ok (.iaload, 1) := by decide +kernel
theorem dX4_buy_27 : decode cX4_buy 27 = .ok (.aload_n 1, 1) := by decide +kernel
theorem dX4_buy_28 : decode cX4_buy 28 = .ok (.getfield 58, 3) := by decide +kernel
theorem dX4_buy_31 : decode cX4_buy 31 = .ok (.iload 6, 2) := by decide +kernel
theorem dX4_buy_33 : decode cX4_buy 33 = .ok (.iaload, 1) := by decide +kernel
theorem dX4_buy_34 : decode cX4_buy 34 = .ok (.iadd, 1) := by decide +kernel
theorem dX4_buy_35 : decode cX4_buy 35 = .ok (.istore 7, 2) := by decide +kernel
theorem dX4_buy_37 : decode cX4_buy 37 = .ok (.aload_n 2, 1) := by decide +kernel
theorem dX4_buy_38 : decode cX4_buy 38 = .ok (.getfield 44, 3) := by decide +kernel
theorem dX4_buy_41 : decode cX4_buy 41 = .ok (.iload 6, 2) := by decide +kernel
theorem dX4_buy_43 : decode cX4_buy 43 = .ok (.iaload, 1) := by decide +kernel
theorem dX4_buy_44 : decode cX4_buy 44 = .ok (.aload_n 2, 1) := by decide +kernel
theorem dX4_buy_45 : decode cX4_buy 45 = .ok (.getfield 44, 3) := by decide +kernel
theorem dX4_buy_48 : decode cX4_buy 48 = .ok (.iload_n 3, 1) := by decide +kernel
theorem dX4_buy_49 : decode cX4_buy 49 = .ok (.iaload, 1) := by decide +kernel
theorem dX4_buy_50 : decode cX4_buy 50 = .ok (.if_icmp .eq 14, 3) := by decide +kernel
theorem dX4_buy_53 : decode cX4_buy 53 = .ok (.iload 7, 2) := by decide +kernel
theorem dX4_buy_55 : decode cX4_buy 55 = .ok (.aload_n 0, 1) := by decide +kernel
theorem dX4_buy_56 : decode cX4_buy 56 = .ok (.getfield 9, 3) := by decide +kernel
theorem dX4_buy_59 : decode cX4_buy 59 = .ok (.iload_n 3, 1) := by decide +kernel
theorem dX4_buy_60 : decode cX4_buy 60 = .ok (.iaload, 1) := by decide +kernel
theorem dX4_buy_61 : decode cX4_buy 61 = .ok (.iadd, 1) := by decide +kernel
theorem dX4_buy_62 : decode cX4_buy 62 = .ok (.istore 7, 2) := by decide +kernel
theorem dX4_buy_64 : decode cX4_buy 64 = .ok (.iload 7, 2) := by decide +kernel
theorem dX4_buy_66 : decode cX4_buy 66 = .ok (.iload 5, 2) := by decide +kernel
theorem dX4_buy_68 : decode cX4_buy 68 = .ok (.if_icmp .ge 11, 3) := by decide +kernel
theorem dX4_buy_71 : decode cX4_buy 71 = .ok (.iload 7, 2) := by decide +kernel
theorem dX4_buy_73 : decode cX4_buy 73 = .ok (.istore 5, 2) := by decide +kernel
theorem dX4_buy_75 : decode cX4_buy 75 = .ok (.iload 6, 2) := by decide +kernel
theorem dX4_buy_77 : decode cX4_buy 77 = .ok (.istore 4, 2) := by decide +kernel
theorem dX4_buy_79 : decode cX4_buy 79 = .ok (.iinc 6 1, 3) := by decide +kernel
theorem dX4_buy_82 : decode cX4_buy 82 = .ok (.goto (-71), 3) := by decide +kernel
theorem dX4_buy_85 : decode cX4_buy 85 = .ok (.aload_n 0, 1) := by decide +kernel
theorem dX4_buy_86 : decode cX4_buy 86 = .ok (.getfield 15, 3) := by decide +kernel
theorem dX4_buy_89 : decode cX4_buy 89 = .ok (.iload_n 3, 1) := by decide +kernel
theorem dX4_buy_90 : decode cX4_buy 90 = .ok (.iload 5, 2) := by decide +kernel
theorem dX4_buy_92 : decode cX4_buy 92 = .ok (.iastore, 1) := by decide +kernel
theorem dX4_buy_93 : decode cX4_buy 93 = .ok (.aload_n 0, 1) := by decide +kernel
theorem dX4_buy_94 : decode cX4_buy 94 = .ok (.getfield 18, 3) := by decide +kernel
theorem dX4_buy_97 : decode cX4_buy 97 = .ok (.iload_n 3, 1) := by decide +kernel
theorem dX4_buy_98 : decode cX4_buy 98 = .ok (.iload 4, 2) := by decide +kernel
theorem dX4_buy_100 : decode cX4_buy 100 = .ok (.iastore, 1) := by decide +kernel
theorem dX4_buy_101 : decode cX4_buy 101 = .ok (.aload_n 0, 1) := by decide +kernel
theorem dX4_buy_102 : decode cX4_buy 102 = .ok (.getfield 21, 3) := by decide +kernel
theorem dX4_buy_105 : decode cX4_buy 105 = .ok (.iload_n 3, 1) := by decide +kernel
theorem dX4_buy_106 : decode cX4_buy 106 = .ok (.aload_n 1, 1) := by decide +kernel
theorem dX4_buy_107 : decode cX4_buy 107 = .ok (.getfield 70, 3) := by decide +kernel
theorem dX4_buy_110 : decode cX4_buy 110 = .ok (.iload_n 3, 1) := by decide +kernel
theorem dX4_buy_111 : decode cX4_buy 111 = .ok (.iaload, 1) := by decide +kernel
theorem dX4_buy_112 : decode cX4_buy 112 = .ok (.iload 5, 2) := by decide +kernel
theorem dX4_buy_114 : decode cX4_buy 114 = .ok (.if_icmp .le 15, 3) := by decide +kernel
theorem dX4_buy_117 : decode cX4_buy 117 = .ok (.aload_n 1, 1) := by decide +kernel
theorem dX4_buy_118 : decode cX4_buy 118 = .ok (.getfield 70, 3) := by decide +kernel
theorem dX4_buy_121 : decode cX4_buy 121 = .ok (.iload_n 3, 1) := by decide +kernel
theorem dX4_buy_122 : decode cX4_buy 122 = .ok (.iaload, 1) := by decide +kernel
theorem dX4_buy_123 : decode cX4_buy 123 = .ok (.iload 5, 2) := by decide +kernel
theorem dX4_buy_125 : decode cX4_buy 125 = .ok (.isub, 1) := by decide +kernel
theorem dX4_buy_126 : decode cX4_buy 126 = .ok (.goto 4, 3) := by decide +kernel
theorem dX4_buy_129 : decode cX4_buy 129 = .ok (.iconst 0, 1) := by decide +kernel
theorem dX4_buy_130 : decode cX4_buy 130 = .ok (.iastore, 1) := by decide +kernel
theorem dX4_buy_131 : decode cX4_buy 131 = .ok (.return_, 1) := by decide +kernel
theorem dX4_shareOut_0 : decode cX4_shareOut 0 = .ok (.aload_n 1, 1) := by decide +kernel
theorem dX4_shareOut_1 : decode cX4_shareOut 1 = .ok (.getfield 49, 3) := by decide +kernel
theorem dX4_shareOut_4 : decode cX4_shareOut 4 = .ok (.iconst 1, 1) := by decide +kernel
theorem dX4_shareOut_5 : decode cX4_shareOut 5 = .ok (.if_icmp .ne 7, 3) := by decide +kernel
theorem dX4_shareOut_8 : decode cX4_shareOut 8 = .ok (.iconst 1, 1) := by decide +kernel
theorem dX4_shareOut_9 : decode cX4_shareOut 9 = .ok (.goto 4, 3) := by decide +kernel
theorem dX4_shareOut_12 : decode cX4_shareOut 12 = .ok (.iconst 0, 1) := by decide +kernel
theorem dX4_shareOut_13 : decode cX4_shareOut 13 = .ok (.istore 4, 2) := by decide +kernel
theorem dX4_shareOut_15 : decode cX4_shareOut 15 = .ok (.iconst 0, 1) := by decide +kernel
theorem dX4_shareOut_16 : decode cX4_shareOut 16 = .ok (.istore 5, 2) := by decide +kernel
theorem dX4_shareOut_18 : decode cX4_shareOut 18 = .ok (.iconst 0, 1) := by decide +kernel
theorem dX4_shareOut_19 : decode cX4_shareOut 19 = .ok (.istore 6, 2) := by decide +kernel
theorem dX4_shareOut_21 : decode cX4_shareOut 21 = .ok (.iconst 0, 1) := by decide +kernel
theorem dX4_shareOut_22 : decode cX4_shareOut 22 = .ok (.istore 7, 2) := by decide +kernel
theorem dX4_shareOut_24 : decode cX4_shareOut 24 = .ok (.iload 7, 2) := by decide +kernel
theorem dX4_shareOut_26 : decode cX4_shareOut 26 = .ok (.aload_n 1, 1) := by decide +kernel
theorem dX4_shareOut_27 : decode cX4_shareOut 27 = .ok (.getfield 30, 3) := by decide +kernel
theorem dX4_shareOut_30 : decode cX4_shareOut 30 = .ok (.if_icmp .ge 53, 3) := by decide +kernel
theorem dX4_shareOut_33 : decode cX4_shareOut 33 = .ok (.aload_n 2, 1) := by decide +kernel
theorem dX4_shareOut_34 : decode cX4_shareOut 34 = .ok (.getfield 44, 3) := by decide +kernel
theorem dX4_shareOut_37 : decode cX4_shareOut 37 = .ok (.iload 7, 2) := by decide +kernel
theorem dX4_shareOut_39 : decode cX4_shareOut 39 = .ok (.iaload, 1) := by decide +kernel
theorem dX4_shareOut_40 : decode cX4_shareOut 40 = .ok (.iload_n 3, 1) := by decide +kernel
theorem dX4_shareOut_41 : decode cX4_shareOut 41 = .ok (.if_icmp .ne 36, 3) := by decide +kernel
theorem dX4_shareOut_44 : decode cX4_shareOut 44 = .ok (.iload 5, 2) := by decide +kernel
theorem dX4_shareOut_46 : decode cX4_shareOut 46 = .ok (.aload_n 0, 1) := by decide +kernel
theorem dX4_shareOut_47 : decode cX4_shareOut 47 = .ok (.getfield 24, 3) := by decide +kernel
theorem dX4_shareOut_50 : decode cX4_shareOut 50 = .ok (.iload 7, 2) := by decide +kernel
theorem dX4_shareOut_52 : decode cX4_shareOut 52 = .ok (.iaload, 1) := by decide +kernel
theorem dX4_shareOut_53 : decode cX4_shareOut 53 = .ok (.iadd, 1) := by decide +kernel
theorem dX4_shareOut_54 : decode cX4_shareOut 54 = .ok (.istore 5, 2) := by decide +kernel
theorem dX4_shareOut_56 : decode cX4_shareOut 56 = .ok (.iload 6, 2) := by decide +kernel
theorem dX4_shareOut_58 : decode cX4_shareOut 58 = .ok (.iload 4, 2) := by decide +kernel
theorem dX4_shareOut_60 : decode cX4_shareOut 60 = .ok (.ifCond .eq 7, 3) := by decide +kernel
theorem dX4_shareOut_63 : decode cX4_shareOut 63 = .ok (.iconst 1, 1) := by decide +kernel
theorem dX4_shareOut_64 : decode cX4_shareOut 64 = .ok (.goto 10, 3) := by decide +kernel
theorem dX4_shareOut_67 : decode cX4_shareOut 67 = .ok (.aload_n 1, 1) := by decide +kernel
theorem dX4_shareOut_68 : decode cX4_shareOut 68 = .ok (.getfield 70, 3) := by decide +kernel
theorem dX4_shareOut_71 : decode cX4_shareOut 71 = .ok (.iload 7, 2) := by decide +kernel
theorem dX4_shareOut_73 : decode cX4_shareOut 73 = .ok (.iaload, 1) := by decide +kernel
theorem dX4_shareOut_74 : decode cX4_shareOut 74 = .ok (.iadd, 1) := by decide +kernel
theorem dX4_shareOut_75 : decode cX4_shareOut 75 = .ok (.istore 6, 2) := by decide +kernel
theorem dX4_shareOut_77 : decode cX4_shareOut 77 = .ok (.iinc 7 1, 3) := by decide +kernel
theorem dX4_shareOut_80 : decode cX4_shareOut 80 = .ok (.goto (-56), 3) := by decide +kernel
theorem dX4_shareOut_83 : decode cX4_shareOut 83 = .ok (.iload 6, 2) := by decide +kernel
theorem dX4_shareOut_85 : decode cX4_shareOut 85 = .ok (.ifCond .gt 4, 3) := by decide +kernel
theorem dX4_shareOut_88 : decode cX4_shareOut 88 = .ok (.return_, 1) := by decide +kernel
theorem dX4_shareOut_89 : decode cX4_shareOut 89 = .ok (.iload 5, 2) := by decide +kernel
theorem dX4_shareOut_91 : decode cX4_shareOut 91 = .ok (.istore 7, 2) := by decide +kernel
theorem dX4_shareOut_93 : decode cX4_shareOut 93 = .ok (.iconst 0, 1) := by decide +kernel
theorem dX4_shareOut_94 : decode cX4_shareOut 94 = .ok (.istore 8, 2) := by decide +kernel
theorem dX4_shareOut_96 : decode cX4_shareOut 96 = .ok (.iload 8, 2) := by decide +kernel
theorem dX4_shareOut_98 : decode cX4_shareOut 98 = .ok (.aload_n 1, 1) := by decide +kernel
theorem dX4_shareOut_99 : decode cX4_shareOut 99 = .ok (.getfield 30, 3) := by decide +kernel
theorem dX4_shareOut_102 : decode cX4_shareOut 102 = .ok (.if_icmp .ge 61, 3) := by decide +kernel
theorem dX4_shareOut_105 : decode cX4_shareOut 105 = .ok (.aload_n 2, 1) := by decide +kernel
theorem dX4_shareOut_106 : decode cX4_shareOut 106 = .ok (.getfield 44, 3) := by decide +kernel
theorem dX4_shareOut_109 : decode cX4_shareOut 109 = .ok (.iload 8, 2) := by decide +kernel
theorem dX4_shareOut_111 : decode cX4_shareOut 111 = .ok (.iaload, 1) := by decide +kernel
theorem dX4_shareOut_112 : decode cX4_shareOut 112 = .ok (.iload_n 3, 1) := by decide +kernel
theorem dX4_shareOut_113 : decode cX4_shareOut 113 = .ok (.if_icmp .ne 44, 3) := by decide +kernel
theorem dX4_shareOut_116 : decode cX4_shareOut 116 = .ok (.aload_n 0, 1) := by decide +kernel
theorem dX4_shareOut_117 : decode cX4_shareOut 117 = .ok (.getfield 24, 3) := by decide +kernel
theorem dX4_shareOut_120 : decode cX4_shareOut 120 = .ok (.iload 8, 2) := by decide +kernel
theorem dX4_shareOut_122 : decode cX4_shareOut 122 = .ok (.iload 5, 2) := by decide +kernel
theorem dX4_shareOut_124 : decode cX4_shareOut 124 = .ok (.iload 4, 2) := by decide +kernel
theorem dX4_shareOut_126 : decode cX4_shareOut 126 = .ok (.ifCond .eq 7, 3) := by decide +kernel
theorem dX4_shareOut_129 : decode cX4_shareOut 129 = .ok (.iconst 1, 1) := by decide +kernel
theorem dX4_shareOut_130 : decode cX4_shareOut 130 = .ok (.goto 10, 3) := by decide +kernel
theorem dX4_shareOut_133 : decode cX4_shareOut 133 = .ok (.aload_n 1, 1) := by decide +kernel
theorem dX4_shareOut_134 : decode cX4_shareOut 134 = .ok (.getfield 70, 3) := by decide +kernel
theorem dX4_shareOut_137 : decode cX4_shareOut 137 = .ok (.iload 8, 2) := by decide +kernel
theorem dX4_shareOut_139 : decode cX4_shareOut 139 = .ok (.iaload, 1) := by decide +kernel
theorem dX4_shareOut_140 : decode cX4_shareOut 140 = .ok (.imul, 1) := by decide +kernel
theorem dX4_shareOut_141 : decode cX4_shareOut 141 = .ok (.iload 6, 2) := by decide +kernel
theorem dX4_shareOut_143 : decode cX4_shareOut 143 = .ok (.idiv, 1) := by decide +kernel
theorem dX4_shareOut_144 : decode cX4_shareOut 144 = .ok (.iastore, 1) := by decide +kernel
theorem dX4_shareOut_145 : decode cX4_shareOut 145 = .ok (.iload 7, 2) := by decide +kernel
theorem dX4_shareOut_147 : decode cX4_shareOut 147 = .ok (.aload_n 0, 1) := by decide +kernel
theorem dX4_shareOut_148 : decode cX4_shareOut 148 = .ok (.getfield 24, 3) := by decide +kernel
theorem dX4_shareOut_151 : decode cX4_shareOut 151 = .ok (.iload 8, 2) := by decide +kernel
theorem dX4_shareOut_153 : decode cX4_shareOut 153 = .ok (.iaload, 1) := by decide +kernel
theorem dX4_shareOut_154 : decode cX4_shareOut 154 = .ok (.isub, 1) := by decide +kernel
theorem dX4_shareOut_155 : decode cX4_shareOut 155 = .ok (.istore 7, 2) := by decide +kernel
theorem dX4_shareOut_157 : decode cX4_shareOut 157 = .ok (.iinc 8 1, 3) := by decide +kernel
theorem dX4_shareOut_160 : decode cX4_shareOut 160 = .ok (.goto (-64), 3) := by decide +kernel
theorem dX4_shareOut_163 : decode cX4_shareOut 163 = .ok (.iconst 0, 1) := by decide +kernel
theorem dX4_shareOut_164 : decode cX4_shareOut 164 = .ok (.istore 8, 2) := by decide +kernel
theorem dX4_shareOut_166 : decode cX4_shareOut 166 = .ok (.iload 8, 2) := by decide +kernel
theorem dX4_shareOut_168 : decode cX4_shareOut 168 = .ok (.aload_n 1, 1) := by decide +kernel
theorem dX4_shareOut_169 : decode cX4_shareOut 169 = .ok (.getfield 30, 3) := by decide +kernel
theorem dX4_shareOut_172 : decode cX4_shareOut 172 = .ok (.if_icmp .ge 39, 3) := by decide +kernel
theorem dX4_shareOut_175 : decode cX4_shareOut 175 = .ok (.iload 7, 2) := by decide +kernel
theorem dX4_shareOut_177 : decode cX4_shareOut 177 = .ok (.ifCond .le 34, 3) := by decide +kernel
theorem dX4_shareOut_180 : decode cX4_shareOut 180 = .ok (.aload_n 2, 1) := by decide +kernel
theorem dX4_shareOut_181 : decode cX4_shareOut 181 = .ok (.getfield 44, 3) := by decide +kernel
theorem dX4_shareOut_184 : decode cX4_shareOut 184 = .ok (.iload 8, 2) := by decide +kernel
theorem dX4_shareOut_186 : decode cX4_shareOut 186 = .ok (.iaload, 1) := by decide +kernel
theorem dX4_shareOut_187 : decode cX4_shareOut 187 = .ok (.iload_n 3, 1) := by decide +kernel
theorem dX4_shareOut_188 : decode cX4_shareOut 188 = .ok (.if_icmp .ne 17, 3) := by decide +kernel
theorem dX4_shareOut_191 : decode cX4_shareOut 191 = .ok (.aload_n 0, 1) := by decide +kernel
theorem dX4_shareOut_192 : decode cX4_shareOut 192 = .ok (.getfield 24, 3) := by decide +kernel
theorem dX4_shareOut_195 : decode cX4_shareOut 195 = .ok (.iload 8, 2) := by decide +kernel
theorem dX4_shareOut_197 : decode cX4_shareOut 197 = .ok (.dup2, 1) := by decide +kernel
theorem dX4_shareOut_198 : decode cX4_shareOut 198 = .ok (.iaload, 1) := by decide +kernel
theorem dX4_shareOut_199 : decode cX4_shareOut 199 = .ok (.iconst 1, 1) := by decide +kernel
theorem dX4_shareOut_200 : decode cX4_shareOut 200 = .ok (.iadd, 1) := by decide +kernel
theorem dX4_shareOut_201 : decode cX4_shareOut 201 = .ok (.iastore, 1) := by decide +kernel
theorem dX4_shareOut_202 : decode cX4_shareOut 202 = .ok (.iinc 7 (-1), 3) := by decide +kernel
theorem dX4_shareOut_205 : decode cX4_shareOut 205 = .ok (.iinc 8 1, 3) := by decide +kernel
theorem dX4_shareOut_208 : decode cX4_shareOut 208 = .ok (.goto (-42), 3) := by decide +kernel
theorem dX4_shareOut_211 : decode cX4_shareOut 211 = .ok (.return_, 1) := by decide +kernel
theorem dX5_init_0 : decode cX5_init 0 = .ok (.aload_n 0, 1) := by decide +kernel
theorem dX5_init_1 : decode cX5_init 1 = .ok (.invokespecial 3, 3) := by decide +kernel
theorem dX5_init_4 : decode cX5_init 4 = .ok (.aload_n 0, 1) := by decide +kernel
theorem dX5_init_5 : decode cX5_init 5 = .ok (.bipush 20, 2) := by decide +kernel
theorem dX5_init_7 : decode cX5_init 7 = .ok (.newarray .int, 2) := by decide +kernel
theorem dX5_init_9 : decode cX5_init 9 = .ok (.putfield 9, 3) := by decide +kernel
theorem dX5_init_12 : decode cX5_init 12 = .ok (.return_, 1) := by decide +kernel
theorem dX5_add_0 : decode cX5_add 0 = .ok (.aload_n 0, 1) := by decide +kernel
theorem dX5_add_1 : decode cX5_add 1 = .ok (.getfield 9, 3) := by decide +kernel
theorem dX5_add_4 : decode cX5_add 4 = .ok (.aload_n 0, 1) := by decide +kernel
theorem dX5_add_5 : decode cX5_add 5 = .ok (.getfield 15, 3) := by decide +kernel
theorem dX5_add_8 : decode cX5_add 8 = .ok (.iload_n 1, 1) := by decide +kernel
theorem dX5_add_9 : decode cX5_add 9 = .ok (.iastore, 1) := by decide +kernel
theorem dX5_add_10 : decode cX5_add 10 = .ok (.aload_n 0, 1) := by decide +kernel
theorem dX5_add_11 : decode cX5_add 11 = .ok (.dup, 1) := by decide +kernel
theorem dX5_add_12 : decode cX5_add 12 = .ok (.getfield 15, 3) := by decide +kernel
theorem dX5_add_15 : decode cX5_add 15 = .ok (.iconst 1, 1) := by decide +kernel
theorem dX5_add_16 : decode cX5_add 16 = .ok (.iadd, 1) := by decide +kernel
theorem dX5_add_17 : decode cX5_add 17 = .ok (.putfield 15, 3) := by decide +kernel
theorem dX5_add_20 : decode cX5_add 20 = .ok (.return_, 1) := by decide +kernel
theorem dX5_firstFault_0 : decode cX5_firstFault 0 = .ok (.iload_n 1, 1) := by decide +kernel
theorem dX5_firstFault_1 : decode cX5_firstFault 1 = .ok (.ifCond .ne 5, 3) := by decide +kernel
theorem dX5_firstFault_4 : decode cX5_firstFault 4 = .ok (.iconst 0, 1) := by decide +kernel
theorem dX5_firstFault_5 : decode cX5_firstFault 5 = .ok (.ireturn, 1) := by decide +kernel
theorem dX5_firstFault_6 : decode cX5_firstFault 6 = .ok (.iconst 1, 1) := by decide +kernel
theorem dX5_firstFault_7 : decode cX5_firstFault 7 = .ok (.iload_n 1, 1) := by decide +kernel
theorem dX5_firstFault_8 : decode cX5_firstFault 8 = .ok (.ishl, 1) := by decide +kernel
theorem dX5_firstFault_9 : decode cX5_firstFault 9 = .ok (.iconst 1, 1) := by decide +kernel
theorem dX5_firstFault_10 : decode cX5_firstFault 10 = .ok (.isub, 1) := by decide +kernel
theorem dX5_firstFault_11 : decode cX5_firstFault 11 = .ok (.istore_n 2, 1) := by decide +kernel
theorem dX5_firstFault_12 : decode cX5_firstFault 12 = .ok (.iconst 0, 1) := by decide +kernel
theorem dX5_firstFault_13 : decode cX5_firstFault 13 = .ok (.istore_n 3, 1) := by decide +kernel
theorem dX5_firstFault_14 : decode cX5_firstFault 14 = .ok (.iconst 0, 1) := by decide +kernel
theorem dX5_firstFault_15 : decode cX5_firstFault 15 = .ok (.istore 4, 2) := by decide +kernel
theorem dX5_firstFault_17 : decode cX5_firstFault 17 = .ok (.iconst 0, 1) := by decide +kernel
theorem dX5_firstFault_18 : decode cX5_firstFault 18 = .ok (.istore 5, 2) := by decide +kernel
theorem dX5_firstFault_20 : decode cX5_firstFault 20 = .ok (.iload 5, 2) := by decide +kernel
theorem dX5_firstFault_22 : decode cX5_firstFault 22 = .ok (.aload_n 0, 1) := by decide +kernel
theorem dX5_firstFault_23 : decode cX5_firstFault 23 = .ok (.getfield 15, 3) := by decide +kernel
theorem dX5_firstFault_26 : decode cX5_firstFault 26 = .ok (.if_icmp .ge 86, 3) := by decide +kernel
theorem dX5_firstFault_29 : decode cX5_firstFault 29 = .ok (.aload_n 0, 1) := by decide +kernel
theorem dX5_firstFault_30 : decode cX5_firstFault 30 = .ok (.getfield 9, 3) := by decide +kernel
theorem dX5_firstFault_33 : decode cX5_firstFault 33 = .ok (.iload 5, 2) := by decide +kernel
theorem dX5_firstFault_35 : decode cX5_firstFault 35 = .ok (.iaload, 1) := by decide +kernel
theorem dX5_firstFault_36 : decode cX5_firstFault 36 = .ok (.bipush 124, 2) := by decide +kernel
theorem dX5_firstFault_38 : decode cX5_firstFault 38 = .ok (.if_icmp .ne 22, 3) := by decide +kernel
theorem dX5_firstFault_41 : decode cX5_firstFault 41 = .ok (.iload 4, 2) := by decide +kernel
theorem dX5_firstFault_43 : decode cX5_firstFault 43 = .ok (.ifCond .eq 8, 3) := by decide +kernel
theorem dX5_firstFault_46 : decode cX5_firstFault 46 = .ok (.iload_n 3, 1) := by decide +kernel
theorem dX5_firstFault_47 : decode cX5_firstFault 47 = .ok (.iload_n 2, 1) := by decide +kernel
theorem dX5_firstFault_48 : decode cX5_firstFault 48 = .ok (.if_icmp .ne 6, 3) := by decide +kernel
theorem dX5_firstFault_51 : decode cX5_firstFault 51 = .ok (.iload 5, 2) := by decide +kernel
theorem dX5_firstFault_53 : decode cX5_firstFault 53 = .ok (.ireturn, 1) := by decide +kernel
theorem dX5_firstFault_54 : decode cX5_firstFault 54 = .ok (.iconst 0, 1) := by decide +kernel
theorem dX5_firstFault_55 : decode cX5_firstFault 55 = .ok (.istore 4, 2) := by decide +kernel
theorem dX5_firstFault_57 : decode cX5_firstFault 57 = .ok (.goto 49, 3) := by decide +kernel
theorem dX5_firstFault_60 : decode cX5_firstFault 60 = .ok (.aload_n 0, 1) := by decide +kernel
theorem dX5_firstFault_61 : decode cX5_firstFault 61 = .ok (.getfield 9, 3) := by decide +kernel
theorem dX5_firstFault_64 : decode cX5_firstFault 64 = .ok (.iload 5, 2) := by decide +kernel
theorem dX5_firstFault_66 : decode cX5_firstFault 66 = .ok (.iaload, 1) := by decide +kernel
theorem dX5_firstFault_67 : decode cX5_firstFault 67 = .ok (.bipush 97, 2) := by decide +kernel
theorem dX5_firstFault_69 : decode cX5_firstFault 69 = .ok (.isub, 1) := by decide +kernel
theorem dX5_firstFault_70 : decode cX5_firstFault 70 = .ok (.istore 6, 2) := by decide +kernel
theorem dX5_firstFault_72 : decode cX5_firstFault 72 = .ok (.iload 6, 2) := by decide +kernel
theorem dX5_firstFault_74 : decode cX5_firstFault 74 = .ok (.ifCond .lt 19, 3) := by decide +kernel
theorem dX5_firstFault_77 : decode cX5_firstFault 77 = .ok (.iload 6, 2) := by decide +kernel
theorem dX5_firstFault_79 : decode cX5_firstFault 79 = .ok (.iload_n 1, 1) := by decide +kernel
theorem dX5_firstFault_80 : decode cX5_firstFault 80 = .ok (.if_icmp .ge 13, 3) := by decide +kernel
theorem dX5_firstFault_83 : decode cX5_firstFault 83 = .ok (.iload_n 3, 1) := by decide +kernel
theorem dX5_firstFault_84 : decode cX5_firstFault 84 = .ok (.iload 6, 2) := by decide +kernel
theorem dX5_firstFault_86 : decode cX5_firstFault 86 = .ok (.ishr, 1) := by decide +kernel
theorem dX5_firstFault_87 : decode cX5_firstFault 87 = .ok (.iconst 1, 1) := by decide +kernel
theorem dX5_firstFault_88 : decode cX5_firstFault 88 = .ok (.iand, 1) := by decide +kernel
theorem dX5_firstFault_89 : decode cX5_firstFault 89 = .ok (.iconst 1, 1) := by decide +kernel
theorem dX5_firstFault_90 : decode cX5_firstFault 90 = .ok (.if_icmp .ne 6, 3) := by decide +kernel
theorem dX5_firstFault_93 : decode cX5_firstFault 93 = .ok (.iload 5, 2) := by decide +kernel
theorem dX5_firstFault_95 : decode cX5_firstFault 95 = .ok (.ireturn, 1) := by decide +kernel
theorem dX5_firstFault_96 : decode cX5_firstFault 96 = .ok (.iload_n 3, 1) := by decide +kernel
theorem dX5_firstFault_97 : decode cX5_firstFault 97 = .ok (.iconst 1, 1) := by decide +kernel
theorem dX5_firstFault_98 : decode cX5_firstFault 98 = .ok (.iload 6, 2) := by decide +kernel
theorem dX5_firstFault_100 : decode cX5_firstFault 100 = .ok (.ishl, 1) := by decide +kernel
theorem dX5_firstFault_101 : decode cX5_firstFault 101 = .ok (.ior, 1) := by decide +kernel
theorem dX5_firstFault_102 : decode cX5_firstFault 102 = .ok (.istore_n 3, 1) := by decide +kernel
theorem dX5_firstFault_103 : decode cX5_firstFault 103 = .ok (.iconst 1, 1) := by decide +kernel
theorem dX5_firstFault_104 : decode cX5_firstFault 104 = .ok (.istore 4, 2) := by decide +kernel
theorem dX5_firstFault_106 : decode cX5_firstFault 106 = .ok (.iinc 5 1, 3) := by decide +kernel
theorem dX5_firstFault_109 : decode cX5_firstFault 109 = .ok (.goto (-89), 3) := by decide +kernel
theorem dX5_firstFault_112 : decode cX5_firstFault 112 = .ok (.iload_n 3, 1) := by decide +kernel
theorem dX5_firstFault_113 : decode cX5_firstFault 113 = .ok (.iload_n 2, 1) := by decide +kernel
theorem dX5_firstFault_114 : decode cX5_firstFault 114 = .ok (.if_icmp .ne 8, 3) := by decide +kernel
theorem dX5_firstFault_117 : decode cX5_firstFault 117 = .ok (.bipush (-6), 2) := by decide +kernel
theorem dX5_firstFault_119 : decode cX5_firstFault 119 = .ok (.goto 7, 3) := by decide +kernel
theorem dX5_firstFault_122 : decode cX5_firstFault 122 = .ok (.aload_n 0, 1) := by decide +kernel
theorem dX5_firstFault_123 : decode cX5_firstFault 123 = .ok (.getfield 15, 3) := by decide +kernel
theorem dX5_firstFault_126 : decode cX5_firstFault 126 = .ok (.ireturn, 1) := by decide +kernel
theorem dX5_putInto_0 : decode cX5_putInto 0 = .ok (.iconst 0, 1) := by decide +kernel
theorem dX5_putInto_1 : decode cX5_putInto 1 = .ok (.istore_n 2, 1) := by decide +kernel
theorem dX5_putInto_2 : decode cX5_putInto 2 = .ok (.iconst 0, 1) := by decide +kernel
theorem dX5_putInto_3 : decode cX5_putInto 3 = .ok (.istore_n 3, 1) := by decide +kernel
theorem dX5_putInto_4 : decode cX5_putInto 4 = .ok (.iload_n 3, 1) := by decide +kernel
theorem dX5_putInto_5 : decode cX5_putInto 5 = .ok (.aload_n 0, 1) := by decide +kernel
theorem dX5_putInto_6 : decode cX5_putInto 6 = .ok (.getfield 15, 3) := by decide +kernel
theorem dX5_putInto_9 : decode cX5_putInto 9 = .ok (.if_icmp .ge 59, 3) := by decide +kernel
theorem dX5_putInto_12 : decode cX5_putInto 12 = .ok (.aload_n 0, 1) := by decide +kernel
theorem dX5_putInto_13 : decode cX5_putInto 13 = .ok (.getfield 9, 3) := by decide +kernel
theorem dX5_putInto_16 : decode cX5_putInto 16 = .ok (.iload_n 3, 1) := by decide +kernel
theorem dX5_putInto_17 : decode cX5_putInto 17 = .ok (.iaload, 1) := by decide +kernel
theorem dX5_putInto_18 : decode cX5_putInto 18 = .ok (.bipush 97, 2) := by decide +kernel
theorem dX5_putInto_20 : decode cX5_putInto 20 = .ok (.isub, 1) := by decide +kernel
theorem dX5_putInto_21 : decode cX5_putInto 21 = .ok (.istore 4, 2) := by decide +kernel
theorem dX5_putInto_23 : decode cX5_putInto 23 = .ok (.aload_n 0, 1) := by decide +kernel
theorem dX5_putInto_24 : decode cX5_putInto 24 = .ok (.getfield 9, 3) := by decide +kernel
theorem dX5_putInto_27 : decode cX5_putInto 27 = .ok (.iload_n 3, 1) := by decide +kernel
theorem dX5_putInto_28 : decode cX5_putInto 28 = .ok (.iaload, 1) := by decide +kernel
theorem dX5_putInto_29 : decode cX5_putInto 29 = .ok (.bipush 124, 2) := by decide +kernel
theorem dX5_putInto_31 : decode cX5_putInto 31 = .ok (.if_icmp .ne 9, 3) := by decide +kernel
theorem dX5_putInto_34 : decode cX5_putInto 34 = .ok (.iinc 2 1, 3) := by decide +kernel
theorem dX5_putInto_37 : decode cX5_putInto 37 = .ok (.goto 25, 3) := by decide +kernel
theorem dX5_putInto_40 : decode cX5_putInto 40 = .ok (.iload 4, 2) := by decide +kernel
theorem dX5_putInto_42 : decode cX5_putInto 42 = .ok (.ifCond .lt 20, 3) := by decide +kernel
theorem dX5_putInto_45 : decode cX5_putInto 45 = .ok (.iload 4, 2) := by decide +kernel
theorem dX5_putInto_47 : decode cX5_putInto 47 = .ok (.aload_n 1, 1) := by decide +kernel
theorem dX5_putInto_48 : decode cX5_putInto 48 = .ok (.getfield 19, 3) := by decide +kernel
theorem dX5_putInto_51 : decode cX5_putInto 51 = .ok (.if_icmp .ge 11, 3) := by decide +kernel
theorem dX5_putInto_54 : decode cX5_putInto 54 = .ok (.aload_n 1, 1) := by decide +kernel
theorem dX5_putInto_55 : decode cX5_putInto 55 = .ok (.getfield 22, 3) := by decide +kernel
theorem dX5_putInto_58 : decode cX5_putInto 58 = .ok (.iload 4, 2) := by decide +kernel
theorem dX5_putInto_60 : decode cX5_putInto 60 = .ok (.iload_n 2, 1) := by decide +kernel
theorem dX5_putInto_61 : decode cX5_putInto 61 = .ok (.iastore, 1) := by decide +kernel
theorem dX5_putInto_62 : decode cX5_putInto 62 = .ok (.iinc 3 1, 3) := by decide +kernel
theorem dX5_putInto_65 : decode cX5_putInto 65 = .ok (.goto (-61), 3) := by decide +kernel
theorem dX5_putInto_68 : decode cX5_putInto 68 = .ok (.aload_n 1, 1) := by decide +kernel
theorem dX5_putInto_69 : decode cX5_putInto 69 = .ok (.invokevirtual 25, 3) := by decide +kernel
theorem dX5_putInto_72 : decode cX5_putInto 72 = .ok (.return_, 1) := by decide +kernel
theorem dX6_init_0 : decode cX6_init 0 = .ok (.aload_n 0, 1) := by decide +kernel
theorem dX6_init_1 : decode cX6_init 1 = .ok (.invokespecial 3, 3) := by decide +kernel
theorem dX6_init_4 : decode cX6_init 4 = .ok (.aload_n 0, 1) := by decide +kernel
theorem dX6_init_5 : decode cX6_init 5 = .ok (.bipush 6, 2) := by decide +kernel
theorem dX6_init_7 : decode cX6_init 7 = .ok (.newarray .int, 2) := by decide +kernel
theorem dX6_init_9 : decode cX6_init 9 = .ok (.putfield 9, 3) := by decide +kernel
theorem dX6_init_12 : decode cX6_init 12 = .ok (.aload_n 0, 1) := by decide +kernel
theorem dX6_init_13 : decode cX6_init 13 = .ok (.bipush 6, 2) := by decide +kernel
theorem dX6_init_15 : decode cX6_init 15 = .ok (.newarray .int, 2) := by decide +kernel
theorem dX6_init_17 : decode cX6_init 17 = .ok (.putfield 15, 3) := by decide +kernel
theorem dX6_init_20 : decode cX6_init 20 = .ok (.return_, 1) := by decide +kernel
theorem dX6_addApart_0 : decode cX6_addApart 0 = .ok (.aload_n 0, 1) := by decide +kernel
theorem dX6_addApart_1 : decode cX6_addApart 1 = .ok (.getfield 9, 3) := by decide +kernel
theorem dX6_addApart_4 : decode cX6_addApart 4 = .ok (.aload_n 0, 1) := by decide +kernel
theorem dX6_addApart_5 : decode cX6_addApart 5 = .ok (.getfield 18, 3) := by decide +kernel
theorem dX6_addApart_8 : decode cX6_addApart 8 = .ok (.aload_n 0, 1) := by decide +kernel
theorem dX6_addApart_9 : decode cX6_addApart 9 = .ok (.getfield 22, 3) := by decide +kernel
theorem dX6_addApart_12 : decode cX6_addApart 12 = .ok (.iastore, 1) := by decide +kernel
theorem dX6_addApart_13 : decode cX6_addApart 13 = .ok (.aload_n 0, 1) := by decide +kernel
theorem dX6_addApart_14 : decode cX6_addApart 14 = .ok (.dup, 1) := by decide +kernel
theorem dX6_addApart_15 : decode cX6_addApart 15 = .ok (.getfield 18, 3) := by decide +kernel
theorem dX6_addApart_18 : decode cX6_addApart 18 = .ok (.iconst 1, 1) := by decide +kernel
theorem dX6_addApart_19 : decode cX6_addApart 19 = .ok (.iadd, 1) := by decide +kernel
theorem dX6_addApart_20 : decode cX6_addApart 20 = .ok (.putfield 18, 3) := by decide +kernel
theorem dX6_addApart_23 : decode cX6_addApart 23 = .ok (.aload_n 0, 1) := by decide +kernel
theorem dX6_addApart_24 : decode cX6_addApart 24 = .ok (.dup, 1) := by decide +kernel
theorem dX6_addApart_25 : decode cX6_addApart 25 = .ok (.getfield 22, 3) := by decide +kernel
theorem dX6_addApart_28 : decode cX6_addApart 28 = .ok (.iconst 1, 1) := by decide +kernel
theorem dX6_addApart_29 : decode cX6_addApart 29 = .ok (.iadd, 1) := by decide +kernel
theorem dX6_addApart_30 : decode cX6_addApart 30 = .ok (.putfield 22, 3) := by decide +kernel
theorem dX6_addApart_33 : decode cX6_addApart 33 = .ok (.return_, 1) := by decide +kernel
theorem dX6_putAllApart_0 : decode cX6_putAllApart 0 = .ok (.aload_n 0, 1) := by decide +kernel
theorem dX6_putAllApart_1 : decode cX6_putAllApart 1 = .ok (.iload_n 1, 1) := by decide +kernel
theorem dX6_putAllApart_2 : decode cX6_putAllApart 2 = .ok (.putfield 18, 3) := by decide +kernel
theorem dX6_putAllApart_5 : decode cX6_putAllApart 5 = .ok (.aload_n 0, 1) := by decide +kernel
theorem dX6_putAllApart_6 : decode cX6_putAllApart 6 = .ok (.iload_n 1, 1) := by decide +kernel
theorem dX6_putAllApart_7 : decode cX6_putAllApart 7 = .ok (.putfield 22, 3) := by decide +kernel
theorem dX6_putAllApart_10 : decode cX6_putAllApart 10 = .ok (.iconst 0, 1) := by decide +kernel
theorem dX6_putAllApart_11 : decode cX6_putAllApart 11 = .ok (.istore_n 2, 1) := by decide +kernel
theorem dX6_putAllApart_12 : decode cX6_putAllApart 12 = .ok (.iload_n 2, 1) := by decide +kernel
theorem dX6_putAllApart_13 : decode cX6_putAllApart 13 = .ok (.iload_n 1, 1) := by decide +kernel
theorem dX6_putAllApart_14 : decode cX6_putAllApart 14 = .ok (.if_icmp .ge 16, 3) := by decide +kernel
theorem dX6_putAllApart_17 : decode cX6_putAllApart 17 = .ok (.aload_n 0, 1) := by decide +kernel
theorem dX6_putAllApart_18 : decode cX6_putAllApart 18 = .ok (.getfield 9, 3) := by decide +kernel
theorem dX6_putAllApart_21 : decode cX6_putAllApart 21 = .ok (.iload_n 2, 1) := by decide +kernel
theorem dX6_putAllApart_22 : decode cX6_putAllApart 22 = .ok (.iload_n 2, 1) := by decide +kernel
theorem dX6_putAllApart_23 : decode cX6_putAllApart 23 = .ok (.iastore, 1) := by decide +kernel
theorem dX6_putAllApart_24 : decode cX6_putAllApart 24 = .ok (.iinc 2 1, 3) := by decide +kernel
theorem dX6_putAllApart_27 : decode cX6_putAllApart 27 = .ok (.goto (-15), 3) := by decide +kernel
theorem dX6_putAllApart_30 : decode cX6_putAllApart 30 = .ok (.return_, 1) := by decide +kernel
theorem dX6_putAllTogether_0 : decode cX6_putAllTogether 0 = .ok (.aload_n 0, 1) := by decide +kernel
theorem dX6_putAllTogether_1 : decode cX6_putAllTogether 1 = .ok (.iload_n 1, 1) := by decide +kernel
theorem dX6_putAllTogether_2 : decode cX6_putAllTogether 2 = .ok (.putfield 18, 3) := by decide +kernel
theorem dX6_putAllTogether_5 : decode cX6_putAllTogether 5 = .ok (.aload_n 0, 1) := by decide +kernel
theorem dX6_putAllTogether_6 : decode cX6_putAllTogether 6 = .ok (.iload_n 1, 1) := by decide +kernel
theorem dX6_putAllTogether_7 : decode cX6_putAllTogether 7 = .ok (.iconst 1, 1) := by decide +kernel
theorem dX6_putAllTogether_8 : decode cX6_putAllTogether 8 = .ok (.invokestatic 25, 3) := by decide +kernel
theorem dX6_putAllTogether_11 : decode cX6_putAllTogether 11 = .ok (.putfield 22, 3) := by decide +kernel
theorem dX6_putAllTogether_14 : decode cX6_putAllTogether 14 = .ok (.iconst 0, 1) := by decide +kernel
theorem dX6_putAllTogether_15 : decode cX6_putAllTogether 15 = .ok (.istore_n 2, 1) := by decide +kernel
theorem dX6_putAllTogether_16 : decode cX6_putAllTogether 16 = .ok (.iload_n 2, 1) := by decide +kernel
theorem dX6_putAllTogether_17 : decode cX6_putAllTogether 17 = .ok (.iload_n 1, 1) := by decide +kernel
theorem dX6_putAllTogether_18 : decode cX6_putAllTogether 18 = .ok (.if_icmp .ge 16, 3) := by decide +kernel
theorem dX6_putAllTogether_21 : decode cX6_putAllTogether 21 = .ok (.aload_n 0, 1) := by decide +kernel
theorem dX6_putAllTogether_22 : decode cX6_putAllTogether 22 = .ok (.getfield 9, 3) := by decide +kernel
theorem dX6_putAllTogether_25 : decode cX6_putAllTogether 25 = .ok (.iload_n 2, 1) := by decide +kernel
theorem dX6_putAllTogether_26 : decode cX6_putAllTogether 26 = .ok (.iconst 0, 1) := by decide +kernel
theorem dX6_putAllTogether_27 : decode cX6_putAllTogether 27 = .ok (.iastore, 1) := by decide +kernel
theorem dX6_putAllTogether_28 : decode cX6_putAllTogether 28 = .ok (.iinc 2 1, 3) := by decide +kernel
theorem dX6_putAllTogether_31 : decode cX6_putAllTogether 31 = .ok (.goto (-15), 3) := by decide +kernel
theorem dX6_putAllTogether_34 : decode cX6_putAllTogether 34 = .ok (.return_, 1) := by decide +kernel
theorem dX6_copy_0 : decode cX6_copy 0 = .ok (.aload_n 0, 1) := by decide +kernel
theorem dX6_copy_1 : decode cX6_copy 1 = .ok (.aload_n 1, 1) := by decide +kernel
theorem dX6_copy_2 : decode cX6_copy 2 = .ok (.getfield 18, 3) := by decide +kernel
theorem dX6_copy_5 : decode cX6_copy 5 = .ok (.putfield 18, 3) := by decide +kernel
theorem dX6_copy_8 : decode cX6_copy 8 = .ok (.aload_n 0, 1) := by decide +kernel
theorem dX6_copy_9 : decode cX6_copy 9 = .ok (.aload_n 1, 1) := by decide +kernel
theorem dX6_copy_10 : decode cX6_copy 10 = .ok (.getfield 22, 3) := by decide +kernel
theorem dX6_copy_13 : decode cX6_copy 13 = .ok (.putfield 22, 3) := by decide +kernel
theorem dX6_copy_16 : decode cX6_copy 16 = .ok (.iconst 0, 1) := by decide +kernel
theorem dX6_copy_17 : decode cX6_copy 17 = .ok (.istore_n 2, 1) := by decide +kernel
theorem dX6_copy_18 : decode cX6_copy 18 = .ok (.iload_n 2, 1) := by decide +kernel
theorem dX6_copy_19 : decode cX6_copy 19 = .ok (.aload_n 0, 1) := by decide +kernel
theorem dX6_copy_20 : decode cX6_copy 20 = .ok (.getfield 18, 3) := by decide +kernel
theorem dX6_copy_23 : decode cX6_copy 23 = .ok (.if_icmp .ge 21, 3) := by decide +kernel
theorem dX6_copy_26 : decode cX6_copy 26 = .ok (.aload_n 0, 1) := by decide +kernel
theorem dX6_copy_27 : decode cX6_copy 27 = .ok (.getfield 9, 3) := by decide +kernel
theorem dX6_copy_30 : decode cX6_copy 30 = .ok (.iload_n 2, 1) := by decide +kernel
theorem dX6_copy_31 : decode cX6_copy 31 = .ok (.aload_n 1, 1) := by decide +kernel
theorem dX6_copy_32 : decode cX6_copy 32 = .ok (.getfield 9, 3) := by decide +kernel
theorem dX6_copy_35 : decode cX6_copy 35 = .ok (.iload_n 2, 1) := by decide +kernel
theorem dX6_copy_36 : decode cX6_copy 36 = .ok (.iaload, 1) := by decide +kernel
theorem dX6_copy_37 : decode cX6_copy 37 = .ok (.iastore, 1) := by decide +kernel
theorem dX6_copy_38 : decode cX6_copy 38 = .ok (.iinc 2 1, 3) := by decide +kernel
theorem dX6_copy_41 : decode cX6_copy 41 = .ok (.goto (-23), 3) := by decide +kernel
theorem dX6_copy_44 : decode cX6_copy 44 = .ok (.return_, 1) := by decide +kernel
theorem dX6_leave_0 : decode cX6_leave 0 = .ok (.aload_n 0, 1) := by decide +kernel
theorem dX6_leave_1 : decode cX6_leave 1 = .ok (.getfield 9, 3) := by decide +kernel
theorem dX6_leave_4 : decode cX6_leave 4 = .ok (.iload_n 1, 1) := by decide +kernel
theorem dX6_leave_5 : decode cX6_leave 5 = .ok (.iconst (-1), 1) := by decide +kernel
theorem dX6_leave_6 : decode cX6_leave 6 = .ok (.iastore, 1) := by decide +kernel
theorem dX6_leave_7 : decode cX6_leave 7 = .ok (.aload_n 0, 1) := by decide +kernel
theorem dX6_leave_8 : decode cX6_leave 8 = .ok (.invokevirtual 31, 3) := by decide +kernel
theorem dX6_leave_11 : decode cX6_leave 11 = .ok (.return_, 1) := by decide +kernel
theorem dX6_move_0 : decode cX6_move 0 = .ok (.aload_n 0, 1) := by decide +kernel
theorem dX6_move_1 : decode cX6_move 1 = .ok (.getfield 9, 3) := by decide +kernel
theorem dX6_move_4 : decode cX6_move 4 = .ok (.iload_n 1, 1) := by decide +kernel
theorem dX6_move_5 : decode cX6_move 5 = .ok (.iload_n 2, 1) := by decide +kernel
theorem dX6_move_6 : decode cX6_move 6 = .ok (.iastore, 1) := by decide +kernel
theorem dX6_move_7 : decode cX6_move 7 = .ok (.aload_n 0, 1) := by decide +kernel
theorem dX6_move_8 : decode cX6_move 8 = .ok (.invokevirtual 31, 3) := by decide +kernel
theorem dX6_move_11 : decode cX6_move 11 = .ok (.return_, 1) := by decide +kernel
theorem dX6_gather_0 : decode cX6_gather 0 = .ok (.iconst 0, 1) := by decide +kernel
theorem dX6_gather_1 : decode cX6_gather 1 = .ok (.istore_n 2, 1) := by decide +kernel
theorem dX6_gather_2 : decode cX6_gather 2 = .ok (.iload_n 2, 1) := by decide +kernel
theorem dX6_gather_3 : decode cX6_gather 3 = .ok (.aload_n 0, 1) := by decide +kernel
theorem dX6_gather_4 : decode cX6_gather 4 = .ok (.getfield 18, 3) := by decide +kernel
theorem dX6_gather_7 : decode cX6_gather 7 = .ok (.if_icmp .ge 25, 3) := by decide +kernel
theorem dX6_gather_10 : decode cX6_gather 10 = .ok (.iload_n 1, 1) := by decide +kernel
theorem dX6_gather_11 : decode cX6_gather 11 = .ok (.iload_n 2, 1) := by decide +kernel
theorem dX6_gather_12 : decode cX6_gather 12 = .ok (.ishr, 1) := by decide +kernel
theorem dX6_gather_13 : decode cX6_gather 13 = .ok (.iconst 1, 1) := by decide +kernel
theorem dX6_gather_14 : decode cX6_gather 14 = .ok (.iand, 1) := by decide +kernel
theorem dX6_gather_15 : decode cX6_gather 15 = .ok (.iconst 1, 1) := by decide +kernel
theorem dX6_gather_16 : decode cX6_gather 16 = .ok (.if_icmp .ne 10, 3) := by decide +kernel
theorem dX6_gather_19 : decode cX6_gather 19 = .ok (.aload_n 0, 1) := by decide +kernel
theorem dX6_gather_20 : decode cX6_gather 20 = .ok (.getfield 9, 3) := by decide +kernel
theorem dX6_gather_23 : decode cX6_gather 23 = .ok (.iload_n 2, 1) := by decide +kernel
theorem dX6_gather_24 : decode cX6_gather 24 = .ok (.iconst (-1), 1) := by decide +kernel
theorem dX6_gather_25 : decode cX6_gather 25 = .ok (.iastore, 1) := by decide +kernel
theorem dX6_gather_26 : decode cX6_gather 26 = .ok (.iinc 2 1, 3) := by decide +kernel
theorem dX6_gather_29 : decode cX6_gather 29 = .ok (.goto (-27), 3) := by decide +kernel
theorem dX6_gather_32 : decode cX6_gather 32 = .ok (.aload_n 0, 1) := by decide +kernel
theorem dX6_gather_33 : decode cX6_gather 33 = .ok (.invokevirtual 31, 3) := by decide +kernel
theorem dX6_gather_36 : decode cX6_gather 36 = .ok (.return_, 1) := by decide +kernel
theorem dX6_scatter_0 : decode cX6_scatter 0 = .ok (.iconst 0, 1) := by decide +kernel
theorem dX6_scatter_1 : decode cX6_scatter 1 = .ok (.istore_n 2, 1) := by decide +kernel
theorem dX6_scatter_2 : decode cX6_scatter 2 = .ok (.iload_n 2, 1) := by decide +kernel
theorem dX6_scatter_3 : decode cX6_scatter 3 = .ok (.aload_n 0, 1) := by decide +kernel
theorem dX6_scatter_4 : decode cX6_scatter 4 = .ok (.getfield 18, 3) := by decide +kernel
theorem dX6_scatter_7 : decode cX6_scatter 7 = .ok (.if_icmp .ge 28, 3) := by decide +kernel
theorem dX6_scatter_10 : decode cX6_scatter 10 = .ok (.aload_n 0, 1) := by decide +kernel
theorem dX6_scatter_11 : decode cX6_scatter 11 = .ok (.getfield 9, 3) := by decide +kernel
theorem dX6_scatter_14 : decode cX6_scatter 14 = .ok (.iload_n 2, 1) := by decide +kernel
theorem dX6_scatter_15 : decode cX6_scatter 15 = .ok (.iaload, 1) := by decide +kernel
theorem dX6_scatter_16 : decode cX6_scatter 16 = .ok (.iload_n 1, 1) := by decide +kernel
theorem dX6_scatter_17 : decode cX6_scatter 17 = .ok (.if_icmp .ne 12, 3) := by decide +kernel
theorem dX6_scatter_20 : decode cX6_scatter 20 = .ok (.aload_n 0, 1) := by decide +kernel
theorem dX6_scatter_21 : decode cX6_scatter 21 = .ok (.getfield 9, 3) := by decide +kernel
theorem dX6_scatter_24 : decode cX6_scatter 24 = .ok (.iload_n 2, 1) := by decide +kernel
theorem dX6_scatter_25 : decode cX6_scatter 25 = .ok (.iconst (-1), 1) := by decide +kernel
theorem dX6_scatter_26 : decode cX6_scatter 26 = .ok (.iload_n 2, 1) := by decide +kernel
theorem dX6_scatter_27 : decode cX6_scatter 27 = .ok (.isub, 1) := by decide +kernel
theorem dX6_scatter_28 : decode cX6_scatter 28 = .ok (.iastore, 1) := by decide +kernel
theorem dX6_scatter_29 : decode cX6_scatter 29 = .ok (.iinc 2 1, 3) := by decide +kernel
theorem dX6_scatter_32 : decode cX6_scatter 32 = .ok (.goto (-30), 3) := by decide +kernel
theorem dX6_scatter_35 : decode cX6_scatter 35 = .ok (.aload_n 0, 1) := by decide +kernel
theorem dX6_scatter_36 : decode cX6_scatter 36 = .ok (.invokevirtual 31, 3) := by decide +kernel
theorem dX6_scatter_39 : decode cX6_scatter 39 = .ok (.return_, 1) := by decide +kernel
theorem dX6_number_0 : decode cX6_number 0 = .ok (.aload_n 0, 1) := by decide +kernel
theorem dX6_number_1 : decode cX6_number 1 = .ok (.iconst 0, 1) := by decide +kernel
theorem dX6_number_2 : decode cX6_number 2 = .ok (.putfield 22, 3) := by decide +kernel
theorem dX6_number_5 : decode cX6_number 5 = .ok (.iconst 0, 1) := by decide +kernel
theorem dX6_number_6 : decode cX6_number 6 = .ok (.istore_n 1, 1) := by decide +kernel
theorem dX6_number_7 : decode cX6_number 7 = .ok (.iload_n 1, 1) := by decide +kernel
theorem dX6_number_8 : decode cX6_number 8 = .ok (.aload_n 0, 1) := by decide +kernel
theorem dX6_number_9 : decode cX6_number 9 = .ok (.getfield 18, 3) := by decide +kernel
theorem dX6_number_12 : decode cX6_number 12 = .ok (.if_icmp .ge 55, 3) := by decide +kernel
theorem dX6_number_15 : decode cX6_number 15 = .ok (.aload_n 0, 1) := by decide +kernel
theorem dX6_number_16 : decode cX6_number 16 = .ok (.iload_n 1, 1) := by decide +kernel
theorem dX6_number_17 : decode cX6_number 17 = .ok (.invokevirtual 34, 3) := by decide +kernel
theorem dX6_number_20 : decode cX6_number 20 = .ok (.istore_n 2, 1) := by decide +kernel
theorem dX6_number_21 : decode cX6_number 21 = .ok (.iload_n 2, 1) := by decide +kernel
theorem dX6_number_22 : decode cX6_number 22 = .ok (.iload_n 1, 1) := by decide +kernel
theorem dX6_number_23 : decode cX6_number 23 = .ok (.if_icmp .ne 26, 3) := by decide +kernel
theorem dX6_number_26 : decode cX6_number 26 = .ok (.aload_n 0, 1) := by decide +kernel
theorem dX6_number_27 : decode cX6_number 27 = .ok (.getfield 15, 3) := by decide +kernel
theorem dX6_number_30 : decode cX6_number 30 = .ok (.iload_n 1, 1) := by decide +kernel
theorem dX6_number_31 : decode cX6_number 31 = .ok (.aload_n 0, 1) := by decide +kernel
theorem dX6_number_32 : decode cX6_number 32 = .ok (.getfield 22, 3) := by decide +kernel
theorem dX6_number_35 : decode cX6_number 35 = .ok (.iastore, 1) := by decide +kernel
theorem dX6_number_36 : decode cX6_number 36 = .ok (.aload_n 0, 1) := by decide +kernel
theorem dX6_number_37 : decode cX6_number 37 = .ok (.dup, 1) := by decide +kernel
theorem dX6_number_38 : decode cX6_number 38 = .ok (.getfield 22, 3) := by decide +kernel
theorem dX6_number_41 : decode cX6_number 41 = .ok (.iconst 1, 1) := by decide +kernel
theorem dX6_number_42 : decode cX6_number 42 = .ok (.iadd, 1) := by decide +kernel
theorem dX6_number_43 : decode cX6_number 43 = .ok (.putfield 22, 3) := by decide +kernel
theorem dX6_number_46 : decode cX6_number 46 = .ok (.goto 15, 3) := by decide +kernel
theorem dX6_number_49 : decode cX6_number 49 = .ok (.aload_n 0, 1) := by decide +kernel
theorem dX6_number_50 : decode cX6_number 50 = .ok (.getfield 15, 3) := by decide +kernel
theorem dX6_number_53 : decode cX6_number 53 = .ok (.iload_n 1, 1) := by decide +kernel
theorem dX6_number_54 : decode cX6_number 54 = .ok (.aload_n 0, 1) := by decide +kernel
theorem dX6_number_55 : decode cX6_number 55 = .ok (.getfield 15, 3) := by decide +kernel
theorem dX6_number_58 : decode cX6_number 58 = .ok (.iload_n 2, 1) := by decide +kernel
theorem dX6_number_59 : decode cX6_number 59 = .ok (.iaload, 1) := by decide +kernel
theorem dX6_number_60 : decode cX6_number 60 = .ok (.iastore, 1) := by decide +kernel
theorem dX6_number_61 : decode cX6_number 61 = .ok (.iinc 1 1, 3) := by decide +kernel
theorem dX6_number_64 : decode cX6_number 64 = .ok (.goto (-57), 3) := by decide +kernel
theorem dX6_number_67 : decode cX6_number 67 = .ok (.iconst 0, 1) := by decide +kernel
theorem dX6_number_68 : decode cX6_number 68 = .ok (.istore_n 1, 1) := by decide +kernel
theorem dX6_number_69 : decode cX6_number 69 = .ok (.iload_n 1, 1) := by decide +kernel
theorem dX6_number_70 : decode cX6_number 70 = .ok (.aload_n 0, 1) := by decide +kernel
theorem dX6_number_71 : decode cX6_number 71 = .ok (.getfield 18, 3) := by decide +kernel
theorem dX6_number_74 : decode cX6_number 74 = .ok (.if_icmp .ge 21, 3) := by decide +kernel
theorem dX6_number_77 : decode cX6_number 77 = .ok (.aload_n 0, 1) := by decide +kernel
theorem dX6_number_78 : decode cX6_number 78 = .ok (.getfield 9, 3) := by decide +kernel
theorem dX6_number_81 : decode cX6_number 81 = .ok (.iload_n 1, 1) := by decide +kernel
theorem dX6_number_82 : decode cX6_number 82 = .ok (.aload_n 0, 1) := by decide +kernel
theorem dX6_number_83 : decode cX6_number 83 = .ok (.getfield 15, 3) := by decide +kernel
theorem dX6_number_86 : decode cX6_number 86 = .ok (.iload_n 1, 1) := by decide +kernel
theorem dX6_number_87 : decode cX6_number 87 = .ok (.iaload, 1) := by decide +kernel
theorem dX6_number_88 : decode cX6_number 88 = .ok (.iastore, 1) := by decide +kernel
theorem dX6_number_89 : decode cX6_number 89 = .ok (.iinc 1 1, 3) := by decide +kernel
theorem dX6_number_92 : decode cX6_number 92 = .ok (.goto (-23), 3) := by decide +kernel
theorem dX6_number_95 : decode cX6_number 95 = .ok (.return_, 1) := by decide +kernel
theorem dX6_firstLike_0 : decode cX6_firstLike 0 = .ok (.iconst 0, 1) := by decide +kernel
theorem dX6_firstLike_1 : decode cX6_firstLike 1 = .ok (.istore_n 2, 1) := by decide +kernel
theorem dX6_firstLike_2 : decode cX6_firstLike 2 = .ok (.iload_n 2, 1) := by decide +kernel
theorem dX6_firstLike_3 : decode cX6_firstLike 3 = .ok (.iload_n 1, 1) := by decide +kernel
theorem dX6_firstLike_4 : decode cX6_firstLike 4 = .ok (.if_icmp .ge 26, 3) := by decide +kernel
theorem dX6_firstLike_7 : decode cX6_firstLike 7 = .ok (.aload_n 0, 1) := by decide +kernel
theorem dX6_firstLike_8 : decode cX6_firstLike 8 = .ok (.getfield 9, 3) := by decide +kernel
theorem dX6_firstLike_11 : decode cX6_firstLike 11 = .ok (.iload_n 2, 1) := by decide +kernel
theorem dX6_firstLike_12 : decode cX6_firstLike 12 = .ok (.iaload, 1) := by decide +kernel
theorem dX6_firstLike_13 : decode cX6_firstLike 13 = .ok (.aload_n 0, 1) := by decide +kernel
theorem dX6_firstLike_14 : decode cX6_firstLike 14 = .ok (.getfield 9, 3) := by decide +kernel
theorem dX6_firstLike_17 : decode cX6_firstLike 17 = .ok (.iload_n 1, 1) := by decide +kernel
theorem dX6_firstLike_18 : decode cX6_firstLike 18 = .ok (.iaload, 1) := by decide +kernel
theorem dX6_firstLike_19 : decode cX6_firstLike 19 = .ok (.if_icmp .ne 5, 3) := by decide +kernel
theorem dX6_firstLike_22 : decode cX6_firstLike 22 = .ok (.iload_n 2, 1) := by decide +kernel
theorem dX6_firstLike_23 : decode cX6_firstLike 23 = .ok (.ireturn, 1) := by decide +kernel
theorem dX6_firstLike_24 : decode cX6_firstLike 24 = .ok (.iinc 2 1, 3) := by decide +kernel
theorem dX6_firstLike_27 : decode cX6_firstLike 27 = .ok (.goto (-25), 3) := by decide +kernel
theorem dX6_firstLike_30 : decode cX6_firstLike 30 = .ok (.iload_n 1, 1) := by decide +kernel
theorem dX6_firstLike_31 : decode cX6_firstLike 31 = .ok (.ireturn, 1) := by decide +kernel
theorem dX6_advance_0 : decode cX6_advance 0 = .ok (.aload_n 0, 1) := by decide +kernel
theorem dX6_advance_1 : decode cX6_advance 1 = .ok (.getfield 18, 3) := by decide +kernel
theorem dX6_advance_4 : decode cX6_advance 4 = .ok (.iconst 1, 1) := by decide +kernel
theorem dX6_advance_5 : decode cX6_advance 5 = .ok (.isub, 1) := by decide +kernel
theorem dX6_advance_6 : decode cX6_advance 6 = .ok (.istore_n 1, 1) := by decide +kernel
theorem dX6_advance_7 : decode cX6_advance 7 = .ok (.iload_n 1, 1) := by decide +kernel
theorem dX6_advance_8 : decode cX6_advance 8 = .ok (.ifCond .le 73, 3) := by decide +kernel
theorem dX6_advance_11 : decode cX6_advance 11 = .ok (.aload_n 0, 1) := by decide +kernel
theorem dX6_advance_12 : decode cX6_advance 12 = .ok (.iload_n 1, 1) := by decide +kernel
theorem dX6_advance_13 : decode cX6_advance 13 = .ok (.invokevirtual 38, 3) := by decide +kernel
theorem dX6_advance_16 : decode cX6_advance 16 = .ok (.istore_n 2, 1) := by decide +kernel
theorem dX6_advance_17 : decode cX6_advance 17 = .ok (.aload_n 0, 1) := by decide +kernel
theorem dX6_advance_18 : decode cX6_advance 18 = .ok (.getfield 9, 3) := by decide +kernel
theorem dX6_advance_21 : decode cX6_advance 21 = .ok (.iload_n 1, 1) := by decide +kernel
theorem dX6_advance_22 : decode cX6_advance 22 = .ok (.iaload, 1) := by decide +kernel
theorem dX6_advance_23 : decode cX6_advance 23 = .ok (.iload_n 2, 1) := by decide +kernel
theorem dX6_advance_24 : decode cX6_advance 24 = .ok (.if_icmp .ge 51, 3) := by decide +kernel
theorem dX6_advance_27 : decode cX6_advance 27 = .ok (.aload_n 0, 1) := by decide +kernel
theorem dX6_advance_28 : decode cX6_advance 28 = .ok (.getfield 9, 3) := by decide +kernel
theorem dX6_advance_31 : decode cX6_advance 31 = .ok (.iload_n 1, 1) := by decide +kernel
theorem dX6_advance_32 : decode cX6_advance 32 = .ok (.dup2, 1) := by decide +kernel
theorem dX6_advance_33 : decode cX6_advance 33 = .ok (.iaload, 1) := by decide +kernel
theorem dX6_advance_34 : decode cX6_advance 34 = .ok (.iconst 1, 1) := by decide +kernel
theorem dX6_advance_35 : decode cX6_advance 35 = .ok (.iadd, 1) := by decide +kernel
theorem dX6_advance_36 : decode cX6_advance 36 = .ok (.iastore, 1) := by decide +kernel
theorem dX6_advance_37 : decode cX6_advance 37 = .ok (.iload_n 1, 1) := by decide +kernel
theorem dX6_advance_38 : decode cX6_advance 38 = .ok (.iconst 1, 1) := by decide +kernel
theorem dX6_advance_39 : decode cX6_advance 39 = .ok (.iadd, 1) := by decide +kernel
theorem dX6_advance_40 : decode cX6_advance 40 = .ok (.istore_n 3, 1) := by decide +kernel
theorem dX6_advance_41 : decode cX6_advance 41 = .ok (.iload_n 3, 1) := by decide +kernel
theorem dX6_advance_42 : decode cX6_advance 42 = .ok (.aload_n 0, 1) := by decide +kernel
theorem dX6_advance_43 : decode cX6_advance 43 = .ok (.getfield 18, 3) := by decide +kernel
theorem dX6_advance_46 : decode cX6_advance 46 = .ok (.if_icmp .ge 16, 3) := by decide +kernel
theorem dX6_advance_49 : decode cX6_advance 49 = .ok (.aload_n 0, 1) := by decide +kernel
theorem dX6_advance_50 : decode cX6_advance 50 = .ok (.getfield 9, 3) := by decide +kernel
theorem dX6_advance_53 : decode cX6_advance 53 = .ok (.iload_n 3, 1) := by decide +kernel
theorem dX6_advance_54 : decode cX6_advance 54 = .ok (.iconst 0, 1) := by decide +kernel
theorem dX6_advance_55 : decode cX6_advance 55 = .ok (.iastore, 1) := by decide +kernel
theorem dX6_advance_56 : decode cX6_advance 56 = .ok (.iinc 3 1, 3) := by decide +kernel
theorem dX6_advance_59 : decode cX6_advance 59 = .ok (.goto (-18), 3) := by decide +kernel
theorem dX6_advance_62 : decode cX6_advance 62 = .ok (.aload_n 0, 1) := by decide +kernel
theorem dX6_advance_63 : decode cX6_advance 63 = .ok (.aload_n 0, 1) := by decide +kernel
theorem dX6_advance_64 : decode cX6_advance 64 = .ok (.aload_n 0, 1) := by decide +kernel
theorem dX6_advance_65 : decode cX6_advance 65 = .ok (.getfield 18, 3) := by decide +kernel
theorem dX6_advance_68 : decode cX6_advance 68 = .ok (.invokevirtual 38, 3) := by decide +kernel
theorem dX6_advance_71 : decode cX6_advance 71 = .ok (.putfield 22, 3) := by decide +kernel
theorem dX6_advance_74 : decode cX6_advance 74 = .ok (.return_, 1) := by decide +kernel
theorem dX6_advance_75 : decode cX6_advance 75 = .ok (.iinc 1 (-1), 3) := by decide +kernel
theorem dX6_advance_78 : decode cX6_advance 78 = .ok (.goto (-71), 3) := by decide +kernel
theorem dX6_advance_81 : decode cX6_advance 81 = .ok (.return_, 1) := by decide +kernel
theorem dX6_unionsAhead_0 : decode cX6_unionsAhead 0 = .ok (.iconst (-1), 1) := by decide +kernel
theorem dX6_unionsAhead_1 : decode cX6_unionsAhead 1 = .ok (.istore_n 2, 1) := by decide +kernel
theorem dX6_unionsAhead_2 : decode cX6_unionsAhead 2 = .ok (.iconst 0, 1) := by decide +kernel
theorem dX6_unionsAhead_3 : decode cX6_unionsAhead 3 = .ok (.istore_n 3, 1) := by decide +kernel
theorem dX6_unionsAhead_4 : decode cX6_unionsAhead 4 = .ok (.iload_n 3, 1) := by decide +kernel
theorem dX6_unionsAhead_5 : decode cX6_unionsAhead 5 = .ok (.iload_n 1, 1) := by decide +kernel
theorem dX6_unionsAhead_6 : decode cX6_unionsAhead 6 = .ok (.if_icmp .ge 20, 3) := by decide +kernel
theorem dX6_unionsAhead_9 : decode cX6_unionsAhead 9 = .ok (.iload_n 2, 1) := by decide +kernel
theorem dX6_unionsAhead_10 : decode cX6_unionsAhead 10 = .ok (.aload_n 0, 1) := by decide +kernel
theorem dX6_unionsAhead_11 : decode cX6_unionsAhead 11 = .ok (.getfield 9, 3) := by decide +kernel
theorem dX6_unionsAhead_14 : decode cX6_unionsAhead 14 = .ok (.iload_n 3, 1) := by decide +kernel
theorem dX6_unionsAhead_15 : decode cX6_unionsAhead 15 = .ok (.iaload, 1) := by decide +kernel
theorem dX6_unionsAhead_16 : decode cX6_unionsAhead 16 = .ok (.invokestatic 41, 3) := by decide +kernel
theorem dX6_unionsAhead_19 : decode cX6_unionsAhead 19 = .ok (.istore_n 2, 1) := by decide +kernel
theorem dX6_unionsAhead_20 : decode cX6_unionsAhead 20 = .ok (.iinc 3 1, 3) := by decide +kernel
theorem dX6_unionsAhead_23 : decode cX6_unionsAhead 23 = .ok (.goto (-19), 3) := by decide +kernel
theorem dX6_unionsAhead_26 : decode cX6_unionsAhead 26 = .ok (.iload_n 2, 1) := by decide +kernel
theorem dX6_unionsAhead_27 : decode cX6_unionsAhead 27 = .ok (.iconst 1, 1) := by decide +kernel
theorem dX6_unionsAhead_28 : decode cX6_unionsAhead 28 = .ok (.iadd, 1) := by decide +kernel
theorem dX6_unionsAhead_29 : decode cX6_unionsAhead 29 = .ok (.ireturn, 1) := by decide +kernel
theorem dX6_place_0 : decode cX6_place 0 = .ok (.iconst 0, 1) := by decide +kernel
theorem dX6_place_1 : decode cX6_place 1 = .ok (.istore_n 1, 1) := by decide +kernel
theorem dX6_place_2 : decode cX6_place 2 = .ok (.iconst 0, 1) := by decide +kernel
theorem dX6_place_3 : decode cX6_place 3 = .ok (.istore_n 2, 1) := by decide +kernel
theorem dX6_place_4 : decode cX6_place 4 = .ok (.iconst 0, 1) := by decide +kernel
theorem dX6_place_5 : decode cX6_place 5 = .ok (.istore_n 3, 1) := by decide +kernel
theorem dX6_place_6 : decode cX6_place 6 = .ok (.iload_n 3, 1) := by decide +kernel
theorem dX6_place_7 : decode cX6_place 7 = .ok (.aload_n 0, 1) := by decide +kernel
theorem dX6_place_8 : decode cX6_place 8 = .ok (.getfield 18, 3) := by decide +kernel
theorem dX6_place_11 : decode cX6_place 11 = .ok (.if_icmp .ge 49, 3) := by decide +kernel
theorem dX6_place_14 : decode cX6_place 14 = .ok (.iload_n 1, 1) := by decide +kernel
theorem dX6_place_15 : decode cX6_place 15 = .ok (.aload_n 0, 1) := by decide +kernel
theorem dX6_place_16 : decode cX6_place 16 = .ok (.getfield 9, 3) := by decide +kernel
theorem dX6_place_19 : decode cX6_place 19 = .ok (.iload_n 3, 1) := by decide +kernel
theorem dX6_place_20 : decode cX6_place 20 = .ok (.iaload, 1) := by decide +kernel
theorem dX6_place_21 : decode cX6_place 21 = .ok (.getstatic 44, 3) := by decide +kernel
theorem dX6_place_24 : decode cX6_place 24 = .ok (.aload_n 0, 1) := by decide +kernel
theorem dX6_place_25 : decode cX6_place 25 = .ok (.getfield 18, 3) := by decide +kernel
theorem dX6_place_28 : decode cX6_place 28 = .ok (.iconst 1, 1) := by decide +kernel
theorem dX6_place_29 : decode cX6_place 29 = .ok (.isub, 1) := by decide +kernel
theorem dX6_place_30 : decode cX6_place 30 = .ok (.iload_n 3, 1) := by decide +kernel
theorem dX6_place_31 : decode cX6_place 31 = .ok (.isub, 1) := by decide +kernel
theorem dX6_place_32 : decode cX6_place 32 = .ok (.bipush 6, 2) := by decide +kernel
theorem dX6_place_34 : decode cX6_place 34 = .ok (.imul, 1) := by decide +kernel
theorem dX6_place_35 : decode cX6_place 35 = .ok (.iload_n 2, 1) := by decide +kernel
theorem dX6_place_36 : decode cX6_place 36 = .ok (.iadd, 1) := by decide +kernel
theorem dX6_place_37 : decode cX6_place 37 = .ok (.iaload, 1) := by decide +kernel
theorem dX6_place_38 : decode cX6_place 38 = .ok (.imul, 1) := by decide +kernel
theorem dX6_place_39 : decode cX6_place 39 = .ok (.iadd, 1) := by decide +kernel
theorem dX6_place_40 : decode cX6_place 40 = .ok (.istore_n 1, 1) := by decide +kernel
theorem dX6_place_41 : decode cX6_place 41 = .ok (.aload_n 0, 1) := by decide +kernel
theorem dX6_place_42 : decode cX6_place 42 = .ok (.getfield 9, 3) := by decide +kernel
theorem dX6_place_45 : decode cX6_place 45 = .ok (.iload_n 3, 1) := by decide +kernel
theorem dX6_place_46 : decode cX6_place 46 = .ok (.iaload, 1) := by decide +kernel
theorem dX6_place_47 : decode cX6_place 47 = .ok (.iload_n 2, 1) := by decide +kernel
theorem dX6_place_48 : decode cX6_place 48 = .ok (.if_icmp .ne 6, 3) := by decide +kernel
theorem dX6_place_51 : decode cX6_place 51 = .ok (.iinc 2 1, 3) := by decide +kernel
theorem dX6_place_54 : decode cX6_place 54 = .ok (.iinc 3 1, 3) := by decide +kernel
theorem dX6_place_57 : decode cX6_place 57 = .ok (.goto (-51), 3) := by decide +kernel
theorem dX6_place_60 : decode cX6_place 60 = .ok (.iload_n 1, 1) := by decide +kernel
theorem dX6_place_61 : decode cX6_place 61 = .ok (.ireturn, 1) := by decide +kernel
theorem dX7_init_0 : decode cX7_init 0 = .ok (.aload_n 0, 1) := by decide +kernel
theorem dX7_init_1 : decode cX7_init 1 = .ok (.invokespecial 3, 3) := by decide +kernel
theorem dX7_init_4 : decode cX7_init 4 = .ok (.aload_n 0, 1) := by decide +kernel
theorem dX7_init_5 : decode cX7_init 5 = .ok (.sipush 609, 3) := by decide +kernel
theorem dX7_init_8 : decode cX7_init 8 = .ok (.newarray .int, 2) := by decide +kernel
theorem dX7_init_10 : decode cX7_init 10 = .ok (.putfield 9, 3) := by decide +kernel
theorem dX7_init_13 : decode cX7_init 13 = .ok (.aload_n 0, 1) := by decide +kernel
theorem dX7_init_14 : decode cX7_init 14 = .ok (.sipush 609, 3) := by decide +kernel
theorem dX7_init_17 : decode cX7_init 17 = .ok (.newarray .int, 2) := by decide +kernel
theorem dX7_init_19 : decode cX7_init 19 = .ok (.putfield 15, 3) := by decide +kernel
theorem dX7_init_22 : decode cX7_init 22 = .ok (.return_, 1) := by decide +kernel
theorem dX7_firstBreaker_0 : decode cX7_firstBreaker 0 = .ok (.iload_n 2, 1) := by decide +kernel
theorem dX7_firstBreaker_1 : decode cX7_firstBreaker 1 = .ok (.sipush 203, 3) := by decide +kernel
theorem dX7_firstBreaker_4 : decode cX7_firstBreaker 4 = .ok (.imul, 1) := by decide +kernel
theorem dX7_firstBreaker_5 : decode cX7_firstBreaker 5 = .ok (.aload_n 3, 1) := by decide +kernel
theorem dX7_firstBreaker_6 : decode cX7_firstBreaker 6 = .ok (.invokevirtual 18, 3) := by decide +kernel
theorem dX7_firstBreaker_9 : decode cX7_firstBreaker 9 = .ok (.iadd, 1) := by decide +kernel
theorem dX7_firstBreaker_10 : decode cX7_firstBreaker 10 = .ok (.istore 4, 2) := by decide +kernel
theorem dX7_firstBreaker_12 : decode cX7_firstBreaker 12 = .ok (.aload_n 0, 1) := by decide +kernel
theorem dX7_firstBreaker_13 : decode cX7_firstBreaker 13 = .ok (.getfield 9, 3) := by decide +kernel
theorem dX7_firstBreaker_16 : decode cX7_firstBreaker 16 = .ok (.iload 4, 2) := by decide +kernel
theorem dX7_firstBreaker_18 : decode cX7_firstBreaker 18 = .ok (.iaload, 1) := by decide +kernel
theorem dX7_firstBreaker_19 : decode cX7_firstBreaker 19 = .ok (.aload_n 1, 1) := by decide +kernel
theorem dX7_firstBreaker_20 : decode cX7_firstBreaker 20 = .ok (.getfield 24, 3) := by decide +kernel
theorem dX7_firstBreaker_23 : decode cX7_firstBreaker 23 = .ok (.getfield 30, 3) := by decide +kernel
theorem dX7_firstBreaker_26 : decode cX7_firstBreaker 26 = .ok (.if_icmp .eq 65, 3) := by decide +kernel
theorem dX7_firstBreaker_29 : decode cX7_firstBreaker 29 = .ok (.iload_n 2, 1) := by decide +kernel
theorem dX7_firstBreaker_30 : decode cX7_firstBreaker 30 = .ok (.iconst 2, 1) := by decide +kernel
theorem dX7_firstBreaker_31 : decode cX7_firstBreaker 31 = .ok (.if_icmp .ne 11, 3) := by decide +kernel
theorem dX7_firstBreaker_34 : decode cX7_firstBreaker 34 = .ok (.aload_n 1, 1) := by decide +kernel
theorem dX7_firstBreaker_35 : decode cX7_firstBreaker 35 = .ok (.aload_n 3, 1) := by decide +kernel
theorem dX7_firstBreaker_36 : decode cX7_firstBreaker 36 = .ok (.invokevirtual 36, 3) := by decide +kernel
theorem dX7_firstBreaker_39 : decode cX7_firstBreaker 39 = .ok (.goto 8, 3) := by decide +kernel
theorem dX7_firstBreaker_42 : decode cX7_firstBreaker 42 = .ok (.aload_n 1, 1) := by decide +kernel
theorem dX7_firstBreaker_43 : decode cX7_firstBreaker 43 = .ok (.aload_n 3, 1) := by decide +kernel
theorem dX7_firstBreaker_44 : decode cX7_firstBreaker 44 = .ok (.invokevirtual 40, 3) := by decide +kernel
theorem dX7_firstBreaker_47 : decode cX7_firstBreaker 47 = .ok (.istore 5, 2) := by decide +kernel
theorem dX7_firstBreaker_49 : decode cX7_firstBreaker 49 = .ok (.iload_n 2, 1) := by decide +kernel
theorem dX7_firstBreaker_50 : decode cX7_firstBreaker 50 = .ok (.iconst 1, 1) := by decide +kernel
theorem dX7_firstBreaker_51 : decode cX7_firstBreaker 51 = .ok (.if_icmp .ne 17, 3) := by decide +kernel
theorem dX7_firstBreaker_54 : decode cX7_firstBreaker 54 = .ok (.iload 5, 2) := by decide +kernel
theorem dX7_firstBreaker_56 : decode cX7_firstBreaker 56 = .ok (.bipush (-6), 2) := by decide +kernel
theorem dX7_firstBreaker_58 : decode cX7_firstBreaker 58 = .ok (.if_icmp .ne 10, 3) := by decide +kernel
theorem dX7_firstBreaker_61 : decode cX7_firstBreaker 61 = .ok (.aload_n 1, 1) := by decide +kernel
theorem dX7_firstBreaker_62 : decode cX7_firstBreaker 62 = .ok (.aload_n 3, 1) := by decide +kernel
theorem dX7_firstBreaker_63 : decode cX7_firstBreaker 63 = .ok (.invokevirtual 43, 3) := by decide +kernel
theorem dX7_firstBreaker_66 : decode cX7_firstBreaker 66 = .ok (.istore 5, 2) := by decide +kernel
theorem dX7_firstBreaker_68 : decode cX7_firstBreaker 68 = .ok (.aload_n 0, 1) := by decide +kernel
theorem dX7_firstBreaker_69 : decode cX7_firstBreaker 69 = .ok (.getfield 15, 3) := by decide +kernel
theorem dX7_firstBreaker_72 : decode cX7_firstBreaker 72 = .ok (.iload 4, 2) := by decide +kernel
theorem dX7_firstBreaker_74 : decode cX7_firstBreaker 74 = .ok (.iload 5, 2) := by decide +kernel
theorem dX7_firstBreaker_76 : decode cX7_firstBreaker 76 = .ok (.iastore, 1) := by decide +kernel
theorem dX7_firstBreaker_77 : decode cX7_firstBreaker 77 = .ok (.aload_n 0, 1) := by decide +kernel
theorem dX7_firstBreaker_78 : decode cX7_firstBreaker 78 = .ok (.getfield 9, 3) := by decide +kernel
theorem dX7_firstBreaker_81 : decode cX7_firstBreaker 81 = .ok (.iload 4, 2) := by decide +kernel
theorem dX7_firstBreaker_83 : decode cX7_firstBreaker 83 = .ok (.aload_n 1, 1) := by decide +kernel
theorem dX7_firstBreaker_84 : decode cX7_firstBreaker 84 = .ok (.getfield 24, 3) := by decide +kernel
theorem dX7_firstBreaker_87 : decode cX7_firstBreaker 87 = .ok (.getfield 30, 3) := by decide +kernel
theorem dX7_firstBreaker_90 : decode cX7_firstBreaker 90 = .ok (.iastore, 1) := by decide +kernel
theorem dX7_firstBreaker_91 : decode cX7_firstBreaker 91 = .ok (.aload_n 0, 1) := by decide +kernel
theorem dX7_firstBreaker_92 : decode cX7_firstBreaker 92 = .ok (.getfield 15, 3) := by decide +kernel
theorem dX7_firstBreaker_95 : decode cX7_firstBreaker 95 = .ok (.iload 4, 2) := by decide +kernel
theorem dX7_firstBreaker_97 : decode cX7_firstBreaker 97 = .ok (.iaload, 1) := by decide +kernel
theorem dX7_firstBreaker_98 : decode cX7_firstBreaker 98 = .ok (.ireturn, 1) := by decide +kernel
