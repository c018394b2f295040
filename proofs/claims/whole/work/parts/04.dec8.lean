theorem dX8_init_0 : decode cX8_init 0 = .ok (.aload_n 0, 1) := by decide +kernel
theorem dX8_init_1 : decode cX8_init 1 = .ok (.invokespecial 1, 3) := by decide +kernel
theorem dX8_init_4 : decode cX8_init 4 = .ok (.aload_n 0, 1) := by decide +kernel
theorem dX8_init_5 : decode cX8_init 5 = .ok (.new 7, 3) := by decide +kernel
theorem dX8_init_8 : decode cX8_init 8 = .ok (.dup, 1) := by decide +kernel
theorem dX8_init_9 : decode cX8_init 9 = .ok (.invokespecial 9, 3) := by decide +kernel
theorem dX8_init_12 : decode cX8_init 12 = .ok (.putfield 10, 3) := by decide +kernel
theorem dX8_init_15 : decode cX8_init 15 = .ok (.aload_n 0, 1) := by decide +kernel
theorem dX8_init_16 : decode cX8_init 16 = .ok (.new 7, 3) := by decide +kernel
theorem dX8_init_19 : decode cX8_init 19 = .ok (.dup, 1) := by decide +kernel
theorem dX8_init_20 : decode cX8_init 20 = .ok (.invokespecial 9, 3) := by decide +kernel
theorem dX8_init_23 : decode cX8_init 23 = .ok (.putfield 16, 3) := by decide +kernel
theorem dX8_init_26 : decode cX8_init 26 = .ok (.aload_n 0, 1) := by decide +kernel
theorem dX8_init_27 : decode cX8_init 27 = .ok (.aload_n 0, 1) := by decide +kernel
theorem dX8_init_28 : decode cX8_init 28 = .ok (.getfield 10, 3) := by decide +kernel
theorem dX8_init_31 : decode cX8_init 31 = .ok (.getfield 19, 3) := by decide +kernel
theorem dX8_init_34 : decode cX8_init 34 = .ok (.putfield 23, 3) := by decide +kernel
theorem dX8_init_37 : decode cX8_init 37 = .ok (.aload_n 0, 1) := by decide +kernel
theorem dX8_init_38 : decode cX8_init 38 = .ok (.aload_n 0, 1) := by decide +kernel
theorem dX8_init_39 : decode cX8_init 39 = .ok (.getfield 10, 3) := by decide +kernel
theorem dX8_init_42 : decode cX8_init 42 = .ok (.getfield 24, 3) := by decide +kernel
theorem dX8_init_45 : decode cX8_init 45 = .ok (.putfield 28, 3) := by decide +kernel
theorem dX8_init_48 : decode cX8_init 48 = .ok (.aload_n 0, 1) := by decide +kernel
theorem dX8_init_49 : decode cX8_init 49 = .ok (.new 29, 3) := by decide +kernel
theorem dX8_init_52 : decode cX8_init 52 = .ok (.dup, 1) := by decide +kernel
theorem dX8_init_53 : decode cX8_init 53 = .ok (.invokespecial 31, 3) := by decide +kernel
theorem dX8_init_56 : decode cX8_init 56 = .ok (.putfield 32, 3) := by decide +kernel
theorem dX8_init_59 : decode cX8_init 59 = .ok (.aload_n 0, 1) := by decide +kernel
theorem dX8_init_60 : decode cX8_init 60 = .ok (.new 36, 3) := by decide +kernel
theorem dX8_init_63 : decode cX8_init 63 = .ok (.dup, 1) := by decide +kernel
theorem dX8_init_64 : decode cX8_init 64 = .ok (.invokespecial 38, 3) := by decide +kernel
theorem dX8_init_67 : decode cX8_init 67 = .ok (.putfield 39, 3) := by decide +kernel
theorem dX8_init_70 : decode cX8_init 70 = .ok (.aload_n 0, 1) := by decide +kernel
theorem dX8_init_71 : decode cX8_init 71 = .ok (.new 43, 3) := by decide +kernel
theorem dX8_init_74 : decode cX8_init 74 = .ok (.dup, 1) := by decide +kernel
theorem dX8_init_75 : decode cX8_init 75 = .ok (.invokespecial 45, 3) := by decide +kernel
theorem dX8_init_78 : decode cX8_init 78 = .ok (.putfield 46, 3) := by decide +kernel
theorem dX8_init_81 : decode cX8_init 81 = .ok (.aload_n 0, 1) := by decide +kernel
theorem dX8_init_82 : decode cX8_init 82 = .ok (.new 50, 3) := by decide +kernel
theorem dX8_init_85 : decode cX8_init 85 = .ok (.dup, 1) := by decide +kernel
theorem dX8_init_86 : decode cX8_init 86 = .ok (.invokespecial 52, 3) := by decide +kernel
theorem dX8_init_89 : decode cX8_init 89 = .ok (.putfield 53, 3) := by decide +kernel
theorem dX8_init_92 : decode cX8_init 92 = .ok (.aload_n 0, 1) := by decide +kernel
theorem dX8_init_93 : decode cX8_init 93 = .ok (.new 57, 3) := by decide +kernel
theorem dX8_init_96 : decode cX8_init 96 = .ok (.dup, 1) := by decide +kernel
theorem dX8_init_97 : decode cX8_init 97 = .ok (.invokespecial 59, 3) := by decide +kernel
theorem dX8_init_100 : decode cX8_init 100 = .ok (.putfield 60, 3) := by decide +kernel
theorem dX8_init_103 : decode cX8_init 103 = .ok (.aload_n 0, 1) := by decide +kernel
theorem dX8_init_104 : decode cX8_init 104 = .ok (.new 57, 3) := by decide +kernel
theorem dX8_init_107 : decode cX8_init 107 = .ok (.dup, 1) := by decide +kernel
theorem dX8_init_108 : decode cX8_init 108 = .ok (.invokespecial 59, 3) := by decide +kernel
theorem dX8_init_111 : decode cX8_init 111 = .ok (.putfield 64, 3) := by decide +kernel
theorem dX8_init_114 : decode cX8_init 114 = .ok (.return_, 1) := by decide +kernel
theorem dX8_land_0 : decode cX8_land 0 = .ok (.iconst 0, 1) := by decide +kernel
theorem dX8_land_1 : decode cX8_land 1 = .ok (.iload_n 1, 1) := by decide +kernel
theorem dX8_land_2 : decode cX8_land 2 = .ok (.invokestatic 67, 3) := by decide +kernel
theorem dX8_land_5 : decode cX8_land 5 = .ok (.ifCond .eq 32, 3) := by decide +kernel
theorem dX8_land_8 : decode cX8_land 8 = .ok (.iconst 1, 1) := by decide +kernel
theorem dX8_land_9 : decode cX8_land 9 = .ok (.iload_n 2, 1) := by decide +kernel
theorem dX8_land_10 : decode cX8_land 10 = .ok (.invokestatic 67, 3) := by decide +kernel
theorem dX8_land_13 : decode cX8_land 13 = .ok (.ifCond .eq 24, 3) := by decide +kernel
theorem dX8_land_16 : decode cX8_land 16 = .ok (.iconst 2, 1) := by decide +kernel
theorem dX8_land_17 : decode cX8_land 17 = .ok (.iload_n 3, 1) := by decide +kernel
theorem dX8_land_18 : decode cX8_land 18 = .ok (.invokestatic 67, 3) := by decide +kernel
theorem dX8_land_21 : decode cX8_land 21 = .ok (.ifCond .eq 16, 3) := by decide +kernel
theorem dX8_land_24 : decode cX8_land 24 = .ok (.iconst 3, 1) := by decide +kernel
theorem dX8_land_25 : decode cX8_land 25 = .ok (.iload 4, 2) := by decide +kernel
theorem dX8_land_27 : decode cX8_land 27 = .ok (.invokestatic 67, 3) := by decide +kernel
theorem dX8_land_30 : decode cX8_land 30 = .ok (.ifCond .eq 7, 3) := by decide +kernel
theorem dX8_land_33 : decode cX8_land 33 = .ok (.iconst 1, 1) := by decide +kernel
theorem dX8_land_34 : decode cX8_land 34 = .ok (.goto 4, 3) := by decide +kernel
theorem dX8_land_37 : decode cX8_land 37 = .ok (.iconst 0, 1) := by decide +kernel
theorem dX8_land_38 : decode cX8_land 38 = .ok (.istore 5, 2) := by decide +kernel
theorem dX8_land_40 : decode cX8_land 40 = .ok (.iload 5, 2) := by decide +kernel
theorem dX8_land_42 : decode cX8_land 42 = .ok (.ifCond .ne 6, 3) := by decide +kernel
theorem dX8_land_45 : decode cX8_land 45 = .ok (.bipush (-2), 2) := by decide +kernel
theorem dX8_land_47 : decode cX8_land 47 = .ok (.ireturn, 1) := by decide +kernel
theorem dX8_land_48 : decode cX8_land 48 = .ok (.aload_n 0, 1) := by decide +kernel
theorem dX8_land_49 : decode cX8_land 49 = .ok (.getfield 23, 3) := by decide +kernel
theorem dX8_land_52 : decode cX8_land 52 = .ok (.getfield 73, 3) := by decide +kernel
theorem dX8_land_55 : decode cX8_land 55 = .ok (.bipush 6, 2) := by decide +kernel
theorem dX8_land_57 : decode cX8_land 57 = .ok (.if_icmp .lt 6, 3) := by decide +kernel
theorem dX8_land_60 : decode cX8_land 60 = .ok (.bipush (-4), 2) := by decide +kernel
theorem dX8_land_62 : decode cX8_land 62 = .ok (.ireturn, 1) := by decide +kernel
theorem dX8_land_63 : decode cX8_land 63 = .ok (.aload_n 0, 1) := by decide +kernel
theorem dX8_land_64 : decode cX8_land 64 = .ok (.getfield 23, 3) := by decide +kernel
theorem dX8_land_67 : decode cX8_land 67 = .ok (.iload_n 1, 1) := by decide +kernel
theorem dX8_land_68 : decode cX8_land 68 = .ok (.iload_n 2, 1) := by decide +kernel
theorem dX8_land_69 : decode cX8_land 69 = .ok (.iload_n 3, 1) := by decide +kernel
theorem dX8_land_70 : decode cX8_land 70 = .ok (.iload 4, 2) := by decide +kernel
theorem dX8_land_72 : decode cX8_land 72 = .ok (.invokevirtual 77, 3) := by decide +kernel
theorem dX8_land_75 : decode cX8_land 75 = .ok (.istore 6, 2) := by decide +kernel
theorem dX8_land_77 : decode cX8_land 77 = .ok (.aload_n 0, 1) := by decide +kernel
theorem dX8_land_78 : decode cX8_land 78 = .ok (.getfield 60, 3) := by decide +kernel
theorem dX8_land_81 : decode cX8_land 81 = .ok (.invokevirtual 81, 3) := by decide +kernel
theorem dX8_land_84 : decode cX8_land 84 = .ok (.iload 6, 2) := by decide +kernel
theorem dX8_land_86 : decode cX8_land 86 = .ok (.ireturn, 1) := by decide +kernel
theorem dX8_change_0 : decode cX8_change 0 = .ok (.aload_n 0, 1) := by decide +kernel
theorem dX8_change_1 : decode cX8_change 1 = .ok (.iload_n 1, 1) := by decide +kernel
theorem dX8_change_2 : decode cX8_change 2 = .ok (.invokevirtual 84, 3) := by decide +kernel
theorem dX8_change_5 : decode cX8_change 5 = .ok (.ifCond .ne 5, 3) := by decide +kernel
theorem dX8_change_8 : decode cX8_change 8 = .ok (.iconst (-1), 1) := by decide +kernel
theorem dX8_change_9 : decode cX8_change 9 = .ok (.ireturn, 1) := by decide +kernel
theorem dX8_change_10 : decode cX8_change 10 = .ok (.iload_n 2, 1) := by decide +kernel
theorem dX8_change_11 : decode cX8_change 11 = .ok (.iload_n 3, 1) := by decide +kernel
theorem dX8_change_12 : decode cX8_change 12 = .ok (.invokestatic 67, 3) := by decide +kernel
theorem dX8_change_15 : decode cX8_change 15 = .ok (.ifCond .ne 6, 3) := by decide +kernel
theorem dX8_change_18 : decode cX8_change 18 = .ok (.bipush (-2), 2) := by decide +kernel
theorem dX8_change_20 : decode cX8_change 20 = .ok (.ireturn, 1) := by decide +kernel
theorem dX8_change_21 : decode cX8_change 21 = .ok (.aload_n 0, 1) := by decide +kernel
theorem dX8_change_22 : decode cX8_change 22 = .ok (.getfield 23, 3) := by decide +kernel
theorem dX8_change_25 : decode cX8_change 25 = .ok (.iload_n 2, 1) := by decide +kernel
theorem dX8_change_26 : decode cX8_change 26 = .ok (.invokevirtual 88, 3) := by decide +kernel
theorem dX8_change_29 : decode cX8_change 29 = .ok (.iload_n 1, 1) := by decide +kernel
theorem dX8_change_30 : decode cX8_change 30 = .ok (.iaload, 1) := by decide +kernel
theorem dX8_change_31 : decode cX8_change 31 = .ok (.istore 4, 2) := by decide +kernel
theorem dX8_change_33 : decode cX8_change 33 = .ok (.aload_n 0, 1) := by decide +kernel
theorem dX8_change_34 : decode cX8_change 34 = .ok (.getfield 23, 3) := by decide +kernel
theorem dX8_change_37 : decode cX8_change 37 = .ok (.iload_n 2, 1) := by decide +kernel
theorem dX8_change_38 : decode cX8_change 38 = .ok (.iload_n 1, 1) := by decide +kernel
theorem dX8_change_39 : decode cX8_change 39 = .ok (.iload_n 3, 1) := by decide +kernel
theorem dX8_change_40 : decode cX8_change 40 = .ok (.invokevirtual 92, 3) := by decide +kernel
theorem dX8_change_43 : decode cX8_change 43 = .ok (.iload 4, 2) := by decide +kernel
theorem dX8_change_45 : decode cX8_change 45 = .ok (.ireturn, 1) := by decide +kernel
theorem dX8_set_0 : decode cX8_set 0 = .ok (.iload_n 1, 1) := by decide +kernel
theorem dX8_set_1 : decode cX8_set 1 = .ok (.ifCond .lt 17, 3) := by decide +kernel
theorem dX8_set_4 : decode cX8_set 4 = .ok (.iload_n 1, 1) := by decide +kernel
theorem dX8_set_5 : decode cX8_set 5 = .ok (.iconst 1, 1) := by decide +kernel
theorem dX8_set_6 : decode cX8_set 6 = .ok (.if_icmp .gt 12, 3) := by decide +kernel
theorem dX8_set_9 : decode cX8_set 9 = .ok (.iload_n 2, 1) := by decide +kernel
theorem dX8_set_10 : decode cX8_set 10 = .ok (.ifCond .lt 8, 3) := by decide +kernel
theorem dX8_set_13 : decode cX8_set 13 = .ok (.iload_n 2, 1) := by decide +kernel
theorem dX8_set_14 : decode cX8_set 14 = .ok (.iconst 2, 1) := by decide +kernel
theorem dX8_set_15 : decode cX8_set 15 = .ok (.if_icmp .le 6, 3) := by decide +kernel
theorem dX8_set_18 : decode cX8_set 18 = .ok (.bipush (-2), 2) := by decide +kernel
theorem dX8_set_20 : decode cX8_set 20 = .ok (.ireturn, 1) := by decide +kernel
theorem dX8_set_21 : decode cX8_set 21 = .ok (.iload_n 1, 1) := by decide +kernel
theorem dX8_set_22 : decode cX8_set 22 = .ok (.ifCond .ne 13, 3) := by decide +kernel
theorem dX8_set_25 : decode cX8_set 25 = .ok (.aload_n 0, 1) := by decide +kernel
theorem dX8_set_26 : decode cX8_set 26 = .ok (.getfield 23, 3) := by decide +kernel
theorem dX8_set_29 : decode cX8_set 29 = .ok (.getfield 96, 3) := by decide +kernel
theorem dX8_set_32 : decode cX8_set 32 = .ok (.goto 10, 3) := by decide +kernel
theorem dX8_set_35 : decode cX8_set 35 = .ok (.aload_n 0, 1) := by decide +kernel
theorem dX8_set_36 : decode cX8_set 36 = .ok (.getfield 23, 3) := by decide +kernel
theorem dX8_set_39 : decode cX8_set 39 = .ok (.getfield 99, 3) := by decide +kernel
theorem dX8_set_42 : decode cX8_set 42 = .ok (.istore_n 3, 1) := by decide +kernel
theorem dX8_set_43 : decode cX8_set 43 = .ok (.iload_n 1, 1) := by decide +kernel
theorem dX8_set_44 : decode cX8_set 44 = .ok (.ifCond .ne 14, 3) := by decide +kernel
theorem dX8_set_47 : decode cX8_set 47 = .ok (.aload_n 0, 1) := by decide +kernel
theorem dX8_set_48 : decode cX8_set 48 = .ok (.getfield 23, 3) := by decide +kernel
theorem dX8_set_51 : decode cX8_set 51 = .ok (.iload_n 2, 1) := by decide +kernel
theorem dX8_set_52 : decode cX8_set 52 = .ok (.invokevirtual 102, 3) := by decide +kernel
theorem dX8_set_55 : decode cX8_set 55 = .ok (.goto 11, 3) := by decide +kernel
theorem dX8_set_58 : decode cX8_set 58 = .ok (.aload_n 0, 1) := by decide +kernel
theorem dX8_set_59 : decode cX8_set 59 = .ok (.getfield 23, 3) := by decide +kernel
theorem dX8_set_62 : decode cX8_set 62 = .ok (.iload_n 2, 1) := by decide +kernel
theorem dX8_set_63 : decode cX8_set 63 = .ok (.invokevirtual 106, 3) := by decide +kernel
theorem dX8_set_66 : decode cX8_set 66 = .ok (.iload_n 3, 1) := by decide +kernel
theorem dX8_set_67 : decode cX8_set 67 = .ok (.ireturn, 1) := by decide +kernel
theorem dX8_say_0 : decode cX8_say 0 = .ok (.iload_n 1, 1) := by decide +kernel
theorem dX8_say_1 : decode cX8_say 1 = .ok (.bipush 33, 2) := by decide +kernel
theorem dX8_say_3 : decode cX8_say 3 = .ok (.if_icmp .lt 9, 3) := by decide +kernel
theorem dX8_say_6 : decode cX8_say 6 = .ok (.iload_n 1, 1) := by decide +kernel
theorem dX8_say_7 : decode cX8_say 7 = .ok (.bipush 126, 2) := by decide +kernel
theorem dX8_say_9 : decode cX8_say 9 = .ok (.if_icmp .le 6, 3) := by decide +kernel
theorem dX8_say_12 : decode cX8_say 12 = .ok (.bipush (-2), 2) := by decide +kernel
theorem dX8_say_14 : decode cX8_say 14 = .ok (.ireturn, 1) := by decide +kernel
theorem dX8_say_15 : decode cX8_say 15 = .ok (.aload_n 0, 1) := by decide +kernel
theorem dX8_say_16 : decode cX8_say 16 = .ok (.getfield 53, 3) := by decide +kernel
theorem dX8_say_19 : decode cX8_say 19 = .ok (.getfield 109, 3) := by decide +kernel
theorem dX8_say_22 : decode cX8_say 22 = .ok (.bipush 20, 2) := by decide +kernel
theorem dX8_say_24 : decode cX8_say 24 = .ok (.if_icmp .lt 6, 3) := by decide +kernel
theorem dX8_say_27 : decode cX8_say 27 = .ok (.bipush (-4), 2) := by decide +kernel
theorem dX8_say_29 : decode cX8_say 29 = .ok (.ireturn, 1) := by decide +kernel
theorem dX8_say_30 : decode cX8_say 30 = .ok (.aload_n 0, 1) := by decide +kernel
theorem dX8_say_31 : decode cX8_say 31 = .ok (.getfield 53, 3) := by decide +kernel
theorem dX8_say_34 : decode cX8_say 34 = .ok (.iload_n 1, 1) := by decide +kernel
theorem dX8_say_35 : decode cX8_say 35 = .ok (.invokevirtual 110, 3) := by decide +kernel
theorem dX8_say_38 : decode cX8_say 38 = .ok (.aload_n 0, 1) := by decide +kernel
theorem dX8_say_39 : decode cX8_say 39 = .ok (.getfield 53, 3) := by decide +kernel
theorem dX8_say_42 : decode cX8_say 42 = .ok (.getfield 109, 3) := by decide +kernel
theorem dX8_say_45 : decode cX8_say 45 = .ok (.ireturn, 1) := by decide +kernel
theorem dX8_wipe_0 : decode cX8_wipe 0 = .ok (.aload_n 0, 1) := by decide +kernel
theorem dX8_wipe_1 : decode cX8_wipe 1 = .ok (.getfield 53, 3) := by decide +kernel
theorem dX8_wipe_4 : decode cX8_wipe 4 = .ok (.getfield 109, 3) := by decide +kernel
theorem dX8_wipe_7 : decode cX8_wipe 7 = .ok (.istore_n 1, 1) := by decide +kernel
theorem dX8_wipe_8 : decode cX8_wipe 8 = .ok (.aload_n 0, 1) := by decide +kernel
theorem dX8_wipe_9 : decode cX8_wipe 9 = .ok (.getfield 53, 3) := by decide +kernel
theorem dX8_wipe_12 : decode cX8_wipe 12 = .ok (.iconst 0, 1) := by decide +kernel
theorem dX8_wipe_13 : decode cX8_wipe 13 = .ok (.putfield 109, 3) := by decide +kernel
theorem dX8_wipe_16 : decode cX8_wipe 16 = .ok (.iload_n 1, 1) := by decide +kernel
theorem dX8_wipe_17 : decode cX8_wipe 17 = .ok (.ireturn, 1) := by decide +kernel
theorem dX8_fault_0 : decode cX8_fault 0 = .ok (.aload_n 0, 1) := by decide +kernel
theorem dX8_fault_1 : decode cX8_fault 1 = .ok (.getfield 53, 3) := by decide +kernel
theorem dX8_fault_4 : decode cX8_fault 4 = .ok (.aload_n 0, 1) := by decide +kernel
theorem dX8_fault_5 : decode cX8_fault 5 = .ok (.getfield 23, 3) := by decide +kernel
theorem dX8_fault_8 : decode cX8_fault 8 = .ok (.getfield 73, 3) := by decide +kernel
theorem dX8_fault_11 : decode cX8_fault 11 = .ok (.invokevirtual 112, 3) := by decide +kernel
theorem dX8_fault_14 : decode cX8_fault 14 = .ok (.ireturn, 1) := by decide +kernel
theorem dX8_part_0 : decode cX8_part 0 = .ok (.aload_n 0, 1) := by decide +kernel
theorem dX8_part_1 : decode cX8_part 1 = .ok (.getfield 53, 3) := by decide +kernel
theorem dX8_part_4 : decode cX8_part 4 = .ok (.aload_n 0, 1) := by decide +kernel
theorem dX8_part_5 : decode cX8_part 5 = .ok (.getfield 23, 3) := by decide +kernel
theorem dX8_part_8 : decode cX8_part 8 = .ok (.getfield 73, 3) := by decide +kernel
theorem dX8_part_11 : decode cX8_part 11 = .ok (.invokevirtual 112, 3) := by decide +kernel
theorem dX8_part_14 : decode cX8_part 14 = .ok (.bipush (-6), 2) := by decide +kernel
theorem dX8_part_16 : decode cX8_part 16 = .ok (.if_icmp .eq 6, 3) := by decide +kernel
theorem dX8_part_19 : decode cX8_part 19 = .ok (.bipush (-5), 2) := by decide +kernel
theorem dX8_part_21 : decode cX8_part 21 = .ok (.ireturn, 1) := by decide +kernel
theorem dX8_part_22 : decode cX8_part 22 = .ok (.aload_n 0, 1) := by decide +kernel
theorem dX8_part_23 : decode cX8_part 23 = .ok (.getfield 53, 3) := by decide +kernel
theorem dX8_part_26 : decode cX8_part 26 = .ok (.aload_n 0, 1) := by decide +kernel
theorem dX8_part_27 : decode cX8_part 27 = .ok (.getfield 60, 3) := by decide +kernel
theorem dX8_part_30 : decode cX8_part 30 = .ok (.invokevirtual 116, 3) := by decide +kernel
theorem dX8_part_33 : decode cX8_part 33 = .ok (.aload_n 0, 1) := by decide +kernel
theorem dX8_part_34 : decode cX8_part 34 = .ok (.getfield 53, 3) := by decide +kernel
theorem dX8_part_37 : decode cX8_part 37 = .ok (.iconst 0, 1) := by decide +kernel
theorem dX8_part_38 : decode cX8_part 38 = .ok (.putfield 109, 3) := by decide +kernel
theorem dX8_part_41 : decode cX8_part 41 = .ok (.aload_n 0, 1) := by decide +kernel
theorem dX8_part_42 : decode cX8_part 42 = .ok (.getfield 60, 3) := by decide +kernel
theorem dX8_part_45 : decode cX8_part 45 = .ok (.getfield 120, 3) := by decide +kernel
theorem dX8_part_48 : decode cX8_part 48 = .ok (.ireturn, 1) := by decide +kernel
theorem dX8_union_0 : decode cX8_union 0 = .ok (.aload_n 0, 1) := by decide +kernel
theorem dX8_union_1 : decode cX8_union 1 = .ok (.iload_n 1, 1) := by decide +kernel
theorem dX8_union_2 : decode cX8_union 2 = .ok (.invokevirtual 84, 3) := by decide +kernel
theorem dX8_union_5 : decode cX8_union 5 = .ok (.ifCond .eq 15, 3) := by decide +kernel
theorem dX8_union_8 : decode cX8_union 8 = .ok (.aload_n 0, 1) := by decide +kernel
theorem dX8_union_9 : decode cX8_union 9 = .ok (.getfield 60, 3) := by decide +kernel
theorem dX8_union_12 : decode cX8_union 12 = .ok (.getfield 123, 3) := by decide +kernel
theorem dX8_union_15 : decode cX8_union 15 = .ok (.iload_n 1, 1) := by decide +kernel
theorem dX8_union_16 : decode cX8_union 16 = .ok (.iaload, 1) := by decide +kernel
theorem dX8_union_17 : decode cX8_union 17 = .ok (.goto 4, 3) := by decide +kernel
theorem dX8_union_20 : decode cX8_union 20 = .ok (.iconst (-1), 1) := by decide +kernel
theorem dX8_union_21 : decode cX8_union 21 = .ok (.ireturn, 1) := by decide +kernel
theorem dX8_of_0 : decode cX8_of 0 = .ok (.aload_n 0, 1) := by decide +kernel
theorem dX8_of_1 : decode cX8_of 1 = .ok (.iload_n 1, 1) := by decide +kernel
theorem dX8_of_2 : decode cX8_of 2 = .ok (.invokevirtual 84, 3) := by decide +kernel
theorem dX8_of_5 : decode cX8_of 5 = .ok (.ifCond .ne 5, 3) := by decide +kernel
theorem dX8_of_8 : decode cX8_of 8 = .ok (.iconst (-1), 1) := by decide +kernel
theorem dX8_of_9 : decode cX8_of 9 = .ok (.ireturn, 1) := by decide +kernel
theorem dX8_of_10 : decode cX8_of 10 = .ok (.iload_n 2, 1) := by decide +kernel
theorem dX8_of_11 : decode cX8_of 11 = .ok (.ifCond .lt 8, 3) := by decide +kernel
theorem dX8_of_14 : decode cX8_of 14 = .ok (.iload_n 2, 1) := by decide +kernel
theorem dX8_of_15 : decode cX8_of 15 = .ok (.iconst 5, 1) := by decide +kernel
theorem dX8_of_16 : decode cX8_of 16 = .ok (.if_icmp .le 6, 3) := by decide +kernel
theorem dX8_of_19 : decode cX8_of 19 = .ok (.bipush (-2), 2) := by decide +kernel
theorem dX8_of_21 : decode cX8_of 21 = .ok (.ireturn, 1) := by decide +kernel
theorem dX8_of_22 : decode cX8_of 22 = .ok (.aload_n 0, 1) := by decide +kernel
theorem dX8_of_23 : decode cX8_of 23 = .ok (.getfield 46, 3) := by decide +kernel
theorem dX8_of_26 : decode cX8_of 26 = .ok (.aload_n 0, 1) := by decide +kernel
theorem dX8_of_27 : decode cX8_of 27 = .ok (.getfield 23, 3) := by decide +kernel
theorem dX8_of_30 : decode cX8_of 30 = .ok (.aload_n 0, 1) := by decide +kernel
theorem dX8_of_31 : decode cX8_of 31 = .ok (.getfield 60, 3) := by decide +kernel
theorem dX8_of_34 : decode cX8_of 34 = .ok (.invokevirtual 127, 3) := by decide +kernel
theorem dX8_of_37 : decode cX8_of 37 = .ok (.iload_n 2, 1) := by decide +kernel
theorem dX8_of_38 : decode cX8_of 38 = .ok (.tableswitch 101 0 4 #[34, 44, 54, 64, 91], 34) := by decide +kernel
theorem dX8_of_72 : decode cX8_of 72 = .ok (.aload_n 0, 1) := by decide +kernel
theorem dX8_of_73 : decode cX8_of 73 = .ok (.getfield 46, 3) := by decide +kernel
theorem dX8_of_76 : decode cX8_of 76 = .ok (.getfield 131, 3) := by decide +kernel
theorem dX8_of_79 : decode cX8_of 79 = .ok (.iload_n 1, 1) := by decide +kernel
theorem dX8_of_80 : decode cX8_of 80 = .ok (.iaload, 1) := by decide +kernel
theorem dX8_of_81 : decode cX8_of 81 = .ok (.ireturn, 1) := by decide +kernel
theorem dX8_of_82 : decode cX8_of 82 = .ok (.aload_n 0, 1) := by decide +kernel
theorem dX8_of_83 : decode cX8_of 83 = .ok (.getfield 46, 3) := by decide +kernel
theorem dX8_of_86 : decode cX8_of 86 = .ok (.getfield 134, 3) := by decide +kernel
theorem dX8_of_89 : decode cX8_of 89 = .ok (.iload_n 1, 1) := by decide +kernel
theorem dX8_of_90 : decode cX8_of 90 = .ok (.iaload, 1) := by decide +kernel
theorem dX8_of_91 : decode cX8_of 91 = .ok (.ireturn, 1) := by decide +kernel
theorem dX8_of_92 : decode cX8_of 92 = .ok (.aload_n 0, 1) := by decide +kernel
theorem dX8_of_93 : decode cX8_of 93 = .ok (.getfield 46, 3) := by decide +kernel
theorem dX8_of_96 : decode cX8_of 96 = .ok (.getfield 137, 3) := by decide +kernel
theorem dX8_of_99 : decode cX8_of 99 = .ok (.iload_n 1, 1) := by decide +kernel
theorem dX8_of_100 : decode cX8_of 100 = .ok (.iaload, 1) := by decide +kernel
theorem dX8_of_101 : decode cX8_of 101 = .ok (.ireturn, 1) := by decide +kernel
theorem dX8_of_102 : decode cX8_of 102 = .ok (.aload_n 0, 1) := by decide +kernel
theorem dX8_of_103 : decode cX8_of 103 = .ok (.getfield 46, 3) := by decide +kernel
theorem dX8_of_106 : decode cX8_of 106 = .ok (.getfield 137, 3) := by decide +kernel
theorem dX8_of_109 : decode cX8_of 109 = .ok (.iload_n 1, 1) := by decide +kernel
theorem dX8_of_110 : decode cX8_of 110 = .ok (.iaload, 1) := by decide +kernel
theorem dX8_of_111 : decode cX8_of 111 = .ok (.ifCond .le 15, 3) := by decide +kernel
theorem dX8_of_114 : decode cX8_of 114 = .ok (.aload_n 0, 1) := by decide +kernel
theorem dX8_of_115 : decode cX8_of 115 = .ok (.getfield 46, 3) := by decide +kernel
theorem dX8_of_118 : decode cX8_of 118 = .ok (.getfield 140, 3) := by decide +kernel
theorem dX8_of_121 : decode cX8_of 121 = .ok (.iload_n 1, 1) := by decide +kernel
theorem dX8_of_122 : decode cX8_of 122 = .ok (.iaload, 1) := by decide +kernel
theorem dX8_of_123 : decode cX8_of 123 = .ok (.goto 5, 3) := by decide +kernel
theorem dX8_of_126 : decode cX8_of 126 = .ok (.bipush (-6), 2) := by decide +kernel
theorem dX8_of_128 : decode cX8_of 128 = .ok (.ireturn, 1) := by decide +kernel
theorem dX8_of_129 : decode cX8_of 129 = .ok (.aload_n 0, 1) := by decide +kernel
theorem dX8_of_130 : decode cX8_of 130 = .ok (.getfield 46, 3) := by decide +kernel
theorem dX8_of_133 : decode cX8_of 133 = .ok (.getfield 143, 3) := by decide +kernel
theorem dX8_of_136 : decode cX8_of 136 = .ok (.iload_n 1, 1) := by decide +kernel
theorem dX8_of_137 : decode cX8_of 137 = .ok (.iaload, 1) := by decide +kernel
theorem dX8_of_138 : decode cX8_of 138 = .ok (.ireturn, 1) := by decide +kernel
theorem dX8_of_139 : decode cX8_of 139 = .ok (.aload_n 0, 1) := by decide +kernel
theorem dX8_of_140 : decode cX8_of 140 = .ok (.getfield 46, 3) := by decide +kernel
theorem dX8_of_143 : decode cX8_of 143 = .ok (.getfield 146, 3) := by decide +kernel
theorem dX8_of_146 : decode cX8_of 146 = .ok (.iload_n 1, 1) := by decide +kernel
theorem dX8_of_147 : decode cX8_of 147 = .ok (.iaload, 1) := by decide +kernel
theorem dX8_of_148 : decode cX8_of 148 = .ok (.ireturn, 1) := by decide +kernel
theorem dX8_all_0 : decode cX8_all 0 = .ok (.iload_n 1, 1) := by decide +kernel
theorem dX8_all_1 : decode cX8_all 1 = .ok (.tableswitch 53 0 2 #[27, 36, 41], 27) := by decide +kernel
theorem dX8_all_28 : decode cX8_all 28 = .ok (.aload_n 0, 1) := by decide +kernel
theorem dX8_all_29 : decode cX8_all 29 = .ok (.aload_n 0, 1) := by decide +kernel
theorem dX8_all_30 : decode cX8_all 30 = .ok (.getfield 60, 3) := by decide +kernel
theorem dX8_all_33 : decode cX8_all 33 = .ok (.invokevirtual 149, 3) := by decide +kernel
theorem dX8_all_36 : decode cX8_all 36 = .ok (.ireturn, 1) := by decide +kernel
theorem dX8_all_37 : decode cX8_all 37 = .ok (.aload_n 0, 1) := by decide +kernel
theorem dX8_all_38 : decode cX8_all 38 = .ok (.invokevirtual 153, 3) := by decide +kernel
theorem dX8_all_41 : decode cX8_all 41 = .ok (.ireturn, 1) := by decide +kernel
theorem dX8_all_42 : decode cX8_all 42 = .ok (.getstatic 157, 3) := by decide +kernel
theorem dX8_all_45 : decode cX8_all 45 = .ok (.aload_n 0, 1) := by decide +kernel
theorem dX8_all_46 : decode cX8_all 46 = .ok (.getfield 23, 3) := by decide +kernel
theorem dX8_all_49 : decode cX8_all 49 = .ok (.getfield 73, 3) := by decide +kernel
theorem dX8_all_52 : decode cX8_all 52 = .ok (.iaload, 1) := by decide +kernel
theorem dX8_all_53 : decode cX8_all 53 = .ok (.ireturn, 1) := by decide +kernel
theorem dX8_all_54 : decode cX8_all 54 = .ok (.bipush (-2), 2) := by decide +kernel
theorem dX8_all_56 : decode cX8_all 56 = .ok (.ireturn, 1) := by decide +kernel
theorem dX8_goodsTogether_0 : decode cX8_goodsTogether 0 = .ok (.aload_n 0, 1) := by decide +kernel
theorem dX8_goodsTogether_1 : decode cX8_goodsTogether 1 = .ok (.getfield 28, 3) := by decide +kernel
theorem dX8_goodsTogether_4 : decode cX8_goodsTogether 4 = .ok (.aload_n 1, 1) := by decide +kernel
theorem dX8_goodsTogether_5 : decode cX8_goodsTogether 5 = .ok (.invokevirtual 160, 3) := by decide +kernel
theorem dX8_goodsTogether_8 : decode cX8_goodsTogether 8 = .ok (.istore_n 2, 1) := by decide +kernel
theorem dX8_goodsTogether_9 : decode cX8_goodsTogether 9 = .ok (.iconst 0, 1) := by decide +kernel
theorem dX8_goodsTogether_10 : decode cX8_goodsTogether 10 = .ok (.istore_n 3, 1) := by decide +kernel
theorem dX8_goodsTogether_11 : decode cX8_goodsTogether 11 = .ok (.iconst 0, 1) := by decide +kernel
theorem dX8_goodsTogether_12 : decode cX8_goodsTogether 12 = .ok (.istore 4, 2) := by decide +kernel
theorem dX8_goodsTogether_14 : decode cX8_goodsTogether 14 = .ok (.iload 4, 2) := by decide +kernel
theorem dX8_goodsTogether_16 : decode cX8_goodsTogether 16 = .ok (.aload_n 0, 1) := by decide +kernel
theorem dX8_goodsTogether_17 : decode cX8_goodsTogether 17 = .ok (.getfield 23, 3) := by decide +kernel
theorem dX8_goodsTogether_20 : decode cX8_goodsTogether 20 = .ok (.getfield 73, 3) := by decide +kernel
theorem dX8_goodsTogether_23 : decode cX8_goodsTogether 23 = .ok (.if_icmp .ge 22, 3) := by decide +kernel
theorem dX8_goodsTogether_26 : decode cX8_goodsTogether 26 = .ok (.iload_n 3, 1) := by decide +kernel
theorem dX8_goodsTogether_27 : decode cX8_goodsTogether 27 = .ok (.aload_n 0, 1) := by decide +kernel
theorem dX8_goodsTogether_28 : decode cX8_goodsTogether 28 = .ok (.getfield 28, 3) := by decide +kernel
theorem dX8_goodsTogether_31 : decode cX8_goodsTogether 31 = .ok (.iload_n 2, 1) := by decide +kernel
theorem dX8_goodsTogether_32 : decode cX8_goodsTogether 32 = .ok (.iload 4, 2) := by decide +kernel
theorem dX8_goodsTogether_34 : decode cX8_goodsTogether 34 = .ok (.invokevirtual 164, 3) := by decide +kernel
theorem dX8_goodsTogether_37 : decode cX8_goodsTogether 37 = .ok (.iadd, 1) := by decide +kernel
theorem dX8_goodsTogether_38 : decode cX8_goodsTogether 38 = .ok (.istore_n 3, 1) := by decide +kernel
theorem dX8_goodsTogether_39 : decode cX8_goodsTogether 39 = .ok (.iinc 4 1, 3) := by decide +kernel
theorem dX8_goodsTogether_42 : decode cX8_goodsTogether 42 = .ok (.goto (-28), 3) := by decide +kernel
theorem dX8_goodsTogether_45 : decode cX8_goodsTogether 45 = .ok (.iload_n 3, 1) := by decide +kernel
theorem dX8_goodsTogether_46 : decode cX8_goodsTogether 46 = .ok (.ireturn, 1) := by decide +kernel
theorem dX8_bestPlaced_0 : decode cX8_bestPlaced 0 = .ok (.iconst 0, 1) := by decide +kernel
theorem dX8_bestPlaced_1 : decode cX8_bestPlaced 1 = .ok (.istore_n 1, 1) := by decide +kernel
theorem dX8_bestPlaced_2 : decode cX8_bestPlaced 2 = .ok (.aload_n 0, 1) := by decide +kernel
theorem dX8_bestPlaced_3 : decode cX8_bestPlaced 3 = .ok (.getfield 64, 3) := by decide +kernel
theorem dX8_bestPlaced_6 : decode cX8_bestPlaced 6 = .ok (.aload_n 0, 1) := by decide +kernel
theorem dX8_bestPlaced_7 : decode cX8_bestPlaced 7 = .ok (.getfield 23, 3) := by decide +kernel
theorem dX8_bestPlaced_10 : decode cX8_bestPlaced 10 = .ok (.getfield 73, 3) := by decide +kernel
theorem dX8_bestPlaced_13 : decode cX8_bestPlaced 13 = .ok (.invokevirtual 168, 3) := by decide +kernel
theorem dX8_bestPlaced_16 : decode cX8_bestPlaced 16 = .ok (.iconst 0, 1) := by decide +kernel
theorem dX8_bestPlaced_17 : decode cX8_bestPlaced 17 = .ok (.istore_n 2, 1) := by decide +kernel
theorem dX8_bestPlaced_18 : decode cX8_bestPlaced 18 = .ok (.iload_n 2, 1) := by decide +kernel
theorem dX8_bestPlaced_19 : decode cX8_bestPlaced 19 = .ok (.getstatic 157, 3) := by decide +kernel
theorem dX8_bestPlaced_22 : decode cX8_bestPlaced 22 = .ok (.aload_n 0, 1) := by decide +kernel
theorem dX8_bestPlaced_23 : decode cX8_bestPlaced 23 = .ok (.getfield 23, 3) := by decide +kernel
theorem dX8_bestPlaced_26 : decode cX8_bestPlaced 26 = .ok (.getfield 73, 3) := by decide +kernel
theorem dX8_bestPlaced_29 : decode cX8_bestPlaced 29 = .ok (.iaload, 1) := by decide +kernel
theorem dX8_bestPlaced_30 : decode cX8_bestPlaced 30 = .ok (.if_icmp .ge 29, 3) := by decide +kernel
theorem dX8_bestPlaced_33 : decode cX8_bestPlaced 33 = .ok (.iload_n 1, 1) := by decide +kernel
theorem dX8_bestPlaced_34 : decode cX8_bestPlaced 34 = .ok (.aload_n 0, 1) := by decide +kernel
theorem dX8_bestPlaced_35 : decode cX8_bestPlaced 35 = .ok (.aload_n 0, 1) := by decide +kernel
theorem dX8_bestPlaced_36 : decode cX8_bestPlaced 36 = .ok (.getfield 64, 3) := by decide +kernel
theorem dX8_bestPlaced_39 : decode cX8_bestPlaced 39 = .ok (.invokevirtual 149, 3) := by decide +kernel
theorem dX8_bestPlaced_42 : decode cX8_bestPlaced 42 = .ok (.invokestatic 171, 3) := by decide +kernel
theorem dX8_bestPlaced_45 : decode cX8_bestPlaced 45 = .ok (.istore_n 1, 1) := by decide +kernel
theorem dX8_bestPlaced_46 : decode cX8_bestPlaced 46 = .ok (.aload_n 0, 1) := by decide +kernel
theorem dX8_bestPlaced_47 : decode cX8_bestPlaced 47 = .ok (.getfield 64, 3) := by decide +kernel
theorem dX8_bestPlaced_50 : decode cX8_bestPlaced 50 = .ok (.invokevirtual 176, 3) := by decide +kernel
theorem dX8_bestPlaced_53 : decode cX8_bestPlaced 53 = .ok (.iinc 2 1, 3) := by decide +kernel
theorem dX8_bestPlaced_56 : decode cX8_bestPlaced 56 = .ok (.goto (-38), 3) := by decide +kernel
theorem dX8_bestPlaced_59 : decode cX8_bestPlaced 59 = .ok (.iload_n 1, 1) := by decide +kernel
theorem dX8_bestPlaced_60 : decode cX8_bestPlaced 60 = .ok (.ireturn, 1) := by decide +kernel
theorem dX8_breaks_0 : decode cX8_breaks 0 = .ok (.iload_n 1, 1) := by decide +kernel
theorem dX8_breaks_1 : decode cX8_breaks 1 = .ok (.invokestatic 179, 3) := by decide +kernel
theorem dX8_breaks_4 : decode cX8_breaks 4 = .ok (.ifCond .eq 22, 3) := by decide +kernel
theorem dX8_breaks_7 : decode cX8_breaks 7 = .ok (.aload_n 0, 1) := by decide +kernel
theorem dX8_breaks_8 : decode cX8_breaks 8 = .ok (.getfield 32, 3) := by decide +kernel
theorem dX8_breaks_11 : decode cX8_breaks 11 = .ok (.aload_n 0, 1) := by decide +kernel
theorem dX8_breaks_12 : decode cX8_breaks 12 = .ok (.getfield 10, 3) := by decide +kernel
theorem dX8_breaks_15 : decode cX8_breaks 15 = .ok (.iload_n 1, 1) := by decide +kernel
theorem dX8_breaks_16 : decode cX8_breaks 16 = .ok (.aload_n 0, 1) := by decide +kernel
theorem dX8_breaks_17 : decode cX8_breaks 17 = .ok (.getfield 60, 3) := by decide +kernel
theorem dX8_breaks_20 : decode cX8_breaks 20 = .ok (.invokevirtual 182, 3) := by decide +kernel
theorem dX8_breaks_23 : decode cX8_breaks 23 = .ok (.goto 5, 3) := by decide +kernel
theorem dX8_breaks_26 : decode cX8_breaks 26 = .ok (.bipush (-2), 2) := by decide +kernel
theorem dX8_breaks_28 : decode cX8_breaks 28 = .ok (.ireturn, 1) := by decide +kernel
theorem dX8_rests_0 : decode cX8_rests 0 = .ok (.iload_n 2, 1) := by decide +kernel
theorem dX8_rests_1 : decode cX8_rests 1 = .ok (.iconst (-1), 1) := by decide +kernel
theorem dX8_rests_2 : decode cX8_rests 2 = .ok (.if_icmp .eq 13, 3) := by decide +kernel
theorem dX8_rests_5 : decode cX8_rests 5 = .ok (.aload_n 0, 1) := by decide +kernel
theorem dX8_rests_6 : decode cX8_rests 6 = .ok (.iload_n 3, 1) := by decide +kernel
theorem dX8_rests_7 : decode cX8_rests 7 = .ok (.invokevirtual 84, 3) := by decide +kernel
theorem dX8_rests_10 : decode cX8_rests 10 = .ok (.ifCond .ne 5, 3) := by decide +kernel
theorem dX8_rests_13 : decode cX8_rests 13 = .ok (.iconst (-1), 1) := by decide +kernel
theorem dX8_rests_14 : decode cX8_rests 14 = .ok (.ireturn, 1) := by decide +kernel
theorem dX8_rests_15 : decode cX8_rests 15 = .ok (.iload_n 1, 1) := by decide +kernel
theorem dX8_rests_16 : decode cX8_rests 16 = .ok (.invokestatic 179, 3) := by decide +kernel
theorem dX8_rests_19 : decode cX8_rests 19 = .ok (.ifCond .ne 6, 3) := by decide +kernel
theorem dX8_rests_22 : decode cX8_rests 22 = .ok (.bipush (-2), 2) := by decide +kernel
theorem dX8_rests_24 : decode cX8_rests 24 = .ok (.ireturn, 1) := by decide +kernel
theorem dX8_rests_25 : decode cX8_rests 25 = .ok (.iconst 0, 1) := by decide +kernel
theorem dX8_rests_26 : decode cX8_rests 26 = .ok (.istore 4, 2) := by decide +kernel
theorem dX8_rests_28 : decode cX8_rests 28 = .ok (.aload_n 0, 1) := by decide +kernel
theorem dX8_rests_29 : decode cX8_rests 29 = .ok (.getfield 64, 3) := by decide +kernel
theorem dX8_rests_32 : decode cX8_rests 32 = .ok (.aload_n 0, 1) := by decide +kernel
theorem dX8_rests_33 : decode cX8_rests 33 = .ok (.getfield 23, 3) := by decide +kernel
theorem dX8_rests_36 : decode cX8_rests 36 = .ok (.getfield 73, 3) := by decide +kernel
theorem dX8_rests_39 : decode cX8_rests 39 = .ok (.invokevirtual 168, 3) := by decide +kernel
theorem dX8_rests_42 : decode cX8_rests 42 = .ok (.iconst 0, 1) := by decide +kernel
theorem dX8_rests_43 : decode cX8_rests 43 = .ok (.istore 5, 2) := by decide +kernel
theorem dX8_rests_45 : decode cX8_rests 45 = .ok (.iload 5, 2) := by decide +kernel
theorem dX8_rests_47 : decode cX8_rests 47 = .ok (.getstatic 157, 3) := by decide +kernel
theorem dX8_rests_50 : decode cX8_rests 50 = .ok (.aload_n 0, 1) := by decide +kernel
theorem dX8_rests_51 : decode cX8_rests 51 = .ok (.getfield 23, 3) := by decide +kernel
theorem dX8_rests_54 : decode cX8_rests 54 = .ok (.getfield 73, 3) := by decide +kernel
theorem dX8_rests_57 : decode cX8_rests 57 = .ok (.iaload, 1) := by decide +kernel
theorem dX8_rests_58 : decode cX8_rests 58 = .ok (.if_icmp .ge 56, 3) := by decide +kernel
theorem dX8_rests_61 : decode cX8_rests 61 = .ok (.aload_n 0, 1) := by decide +kernel
theorem dX8_rests_62 : decode cX8_rests 62 = .ok (.getfield 32, 3) := by decide +kernel
theorem dX8_rests_65 : decode cX8_rests 65 = .ok (.aload_n 0, 1) := by decide +kernel
theorem dX8_rests_66 : decode cX8_rests 66 = .ok (.getfield 10, 3) := by decide +kernel
theorem dX8_rests_69 : decode cX8_rests 69 = .ok (.iload_n 1, 1) := by decide +kernel
theorem dX8_rests_70 : decode cX8_rests 70 = .ok (.aload_n 0, 1) := by decide +kernel
theorem dX8_rests_71 : decode cX8_rests 71 = .ok (.getfield 64, 3) := by decide +kernel
theorem dX8_rests_74 : decode cX8_rests 74 = .ok (.invokevirtual 182, 3) := by decide +kernel
theorem dX8_rests_77 : decode cX8_rests 77 = .ok (.bipush (-6), 2) := by decide +kernel
theorem dX8_rests_79 : decode cX8_rests 79 = .ok (.if_icmp .ne 22, 3) := by decide +kernel
theorem dX8_rests_82 : decode cX8_rests 82 = .ok (.iload 4, 2) := by decide +kernel
theorem dX8_rests_84 : decode cX8_rests 84 = .ok (.iload_n 2, 1) := by decide +kernel
theorem dX8_rests_85 : decode cX8_rests 85 = .ok (.if_icmp .ne 13, 3) := by decide +kernel
theorem dX8_rests_88 : decode cX8_rests 88 = .ok (.aload_n 0, 1) := by decide +kernel
theorem dX8_rests_89 : decode cX8_rests 89 = .ok (.getfield 64, 3) := by decide +kernel
theorem dX8_rests_92 : decode cX8_rests 92 = .ok (.getfield 123, 3) := by decide +kernel
theorem dX8_rests_95 : decode cX8_rests 95 = .ok (.iload_n 3, 1) := by decide +kernel
theorem dX8_rests_96 : decode cX8_rests 96 = .ok (.iaload, 1) := by decide +kernel
theorem dX8_rests_97 : decode cX8_rests 97 = .ok (.ireturn, 1) := by decide +kernel
theorem dX8_rests_98 : decode cX8_rests 98 = .ok (.iinc 4 1, 3) := by decide +kernel
theorem dX8_rests_101 : decode cX8_rests 101 = .ok (.aload_n 0, 1) := by decide +kernel
theorem dX8_rests_102 : decode cX8_rests 102 = .ok (.getfield 64, 3) := by decide +kernel
theorem dX8_rests_105 : decode cX8_rests 105 = .ok (.invokevirtual 176, 3) := by decide +kernel
theorem dX8_rests_108 : decode cX8_rests 108 = .ok (.iinc 5 1, 3) := by decide +kernel
theorem dX8_rests_111 : decode cX8_rests 111 = .ok (.goto (-66), 3) := by decide +kernel
theorem dX8_rests_114 : decode cX8_rests 114 = .ok (.iload_n 2, 1) := by decide +kernel
theorem dX8_rests_115 : decode cX8_rests 115 = .ok (.iconst (-1), 1) := by decide +kernel
theorem dX8_rests_116 : decode cX8_rests 116 = .ok (.if_icmp .ne 8, 3) := by decide +kernel
theorem dX8_rests_119 : decode cX8_rests 119 = .ok (.iload 4, 2) := by decide +kernel
theorem dX8_rests_121 : decode cX8_rests 121 = .ok (.goto 5, 3) := by decide +kernel
theorem dX8_rests_124 : decode cX8_rests 124 = .ok (.bipush (-6), 2) := by decide +kernel
theorem dX8_rests_126 : decode cX8_rests 126 = .ok (.ireturn, 1) := by decide +kernel
theorem dX8_go_0 : decode cX8_go 0 = .ok (.aload_n 0, 1) := by decide +kernel
theorem dX8_go_1 : decode cX8_go 1 = .ok (.iload_n 1, 1) := by decide +kernel
theorem dX8_go_2 : decode cX8_go 2 = .ok (.invokevirtual 84, 3) := by decide +kernel
theorem dX8_go_5 : decode cX8_go 5 = .ok (.ifCond .ne 5, 3) := by decide +kernel
theorem dX8_go_8 : decode cX8_go 8 = .ok (.iconst (-1), 1) := by decide +kernel
theorem dX8_go_9 : decode cX8_go 9 = .ok (.ireturn, 1) := by decide +kernel
theorem dX8_go_10 : decode cX8_go 10 = .ok (.iload_n 2, 1) := by decide +kernel
theorem dX8_go_11 : decode cX8_go 11 = .ok (.bipush 10, 2) := by decide +kernel
theorem dX8_go_13 : decode cX8_go 13 = .ok (.if_icmp .lt 13, 3) := by decide +kernel
theorem dX8_go_16 : decode cX8_go 16 = .ok (.iload_n 2, 1) := by decide +kernel
theorem dX8_go_17 : decode cX8_go 17 = .ok (.bipush 15, 2) := by decide +kernel
theorem dX8_go_19 : decode cX8_go 19 = .ok (.if_icmp .gt 7, 3) := by decide +kernel
theorem dX8_go_22 : decode cX8_go 22 = .ok (.iconst 1, 1) := by decide +kernel
theorem dX8_go_23 : decode cX8_go 23 = .ok (.goto 4, 3) := by decide +kernel
theorem dX8_go_26 : decode cX8_go 26 = .ok (.iconst 0, 1) := by decide +kernel
theorem dX8_go_27 : decode cX8_go 27 = .ok (.istore_n 3, 1) := by decide +kernel
theorem dX8_go_28 : decode cX8_go 28 = .ok (.iload_n 2, 1) := by decide +kernel
theorem dX8_go_29 : decode cX8_go 29 = .ok (.ifCond .eq 15, 3) := by decide +kernel
theorem dX8_go_32 : decode cX8_go 32 = .ok (.iload_n 2, 1) := by decide +kernel
theorem dX8_go_33 : decode cX8_go 33 = .ok (.iconst 1, 1) := by decide +kernel
theorem dX8_go_34 : decode cX8_go 34 = .ok (.if_icmp .eq 10, 3) := by decide +kernel
theorem dX8_go_37 : decode cX8_go 37 = .ok (.iload_n 3, 1) := by decide +kernel
theorem dX8_go_38 : decode cX8_go 38 = .ok (.ifCond .ne 6, 3) := by decide +kernel
theorem dX8_go_41 : decode cX8_go 41 = .ok (.bipush (-2), 2) := by decide +kernel
theorem dX8_go_43 : decode cX8_go 43 = .ok (.ireturn, 1) := by decide +kernel
theorem dX8_go_44 : decode cX8_go 44 = .ok (.iload_n 3, 1) := by decide +kernel
theorem dX8_go_45 : decode cX8_go 45 = .ok (.ifCond .eq 17, 3) := by decide +kernel
theorem dX8_go_48 : decode cX8_go 48 = .ok (.aload_n 0, 1) := by decide +kernel
theorem dX8_go_49 : decode cX8_go 49 = .ok (.iload_n 2, 1) := by decide +kernel
theorem dX8_go_50 : decode cX8_go 50 = .ok (.bipush 10, 2) := by decide +kernel
theorem dX8_go_52 : decode cX8_go 52 = .ok (.isub, 1) := by decide +kernel
theorem dX8_go_53 : decode cX8_go 53 = .ok (.invokevirtual 84, 3) := by decide +kernel
theorem dX8_go_56 : decode cX8_go 56 = .ok (.ifCond .ne 6, 3) := by decide +kernel
theorem dX8_go_59 : decode cX8_go 59 = .ok (.bipush (-6), 2) := by decide +kernel
theorem dX8_go_61 : decode cX8_go 61 = .ok (.ireturn, 1) := by decide +kernel
theorem dX8_go_62 : decode cX8_go 62 = .ok (.aload_n 0, 1) := by decide +kernel
theorem dX8_go_63 : decode cX8_go 63 = .ok (.getfield 39, 3) := by decide +kernel
theorem dX8_go_66 : decode cX8_go 66 = .ok (.aload_n 0, 1) := by decide +kernel
theorem dX8_go_67 : decode cX8_go 67 = .ok (.getfield 10, 3) := by decide +kernel
theorem dX8_go_70 : decode cX8_go 70 = .ok (.aload_n 0, 1) := by decide +kernel
theorem dX8_go_71 : decode cX8_go 71 = .ok (.getfield 60, 3) := by decide +kernel
theorem dX8_go_74 : decode cX8_go 74 = .ok (.iload_n 1, 1) := by decide +kernel
theorem dX8_go_75 : decode cX8_go 75 = .ok (.invokevirtual 186, 3) := by decide +kernel
theorem dX8_go_78 : decode cX8_go 78 = .ok (.iload_n 3, 1) := by decide +kernel
theorem dX8_go_79 : decode cX8_go 79 = .ok (.ifCond .eq 19, 3) := by decide +kernel
theorem dX8_go_82 : decode cX8_go 82 = .ok (.aload_n 0, 1) := by decide +kernel
theorem dX8_go_83 : decode cX8_go 83 = .ok (.getfield 39, 3) := by decide +kernel
theorem dX8_go_86 : decode cX8_go 86 = .ok (.getfield 190, 3) := by decide +kernel
theorem dX8_go_89 : decode cX8_go 89 = .ok (.getfield 123, 3) := by decide +kernel
theorem dX8_go_92 : decode cX8_go 92 = .ok (.iload_n 2, 1) := by decide +kernel
theorem dX8_go_93 : decode cX8_go 93 = .ok (.bipush 10, 2) := by decide +kernel
theorem dX8_go_95 : decode cX8_go 95 = .ok (.isub, 1) := by decide +kernel
theorem dX8_go_96 : decode cX8_go 96 = .ok (.iaload, 1) := by decide +kernel
theorem dX8_go_97 : decode cX8_go 97 = .ok (.ireturn, 1) := by decide +kernel
theorem dX8_go_98 : decode cX8_go 98 = .ok (.iload_n 2, 1) := by decide +kernel
theorem dX8_go_99 : decode cX8_go 99 = .ok (.ifCond .ne 13, 3) := by decide +kernel
theorem dX8_go_102 : decode cX8_go 102 = .ok (.aload_n 0, 1) := by decide +kernel
theorem dX8_go_103 : decode cX8_go 103 = .ok (.getfield 39, 3) := by decide +kernel
theorem dX8_go_106 : decode cX8_go 106 = .ok (.getfield 192, 3) := by decide +kernel
theorem dX8_go_109 : decode cX8_go 109 = .ok (.goto 10, 3) := by decide +kernel
theorem dX8_go_112 : decode cX8_go 112 = .ok (.aload_n 0, 1) := by decide +kernel
theorem dX8_go_113 : decode cX8_go 113 = .ok (.getfield 39, 3) := by decide +kernel
theorem dX8_go_116 : decode cX8_go 116 = .ok (.getfield 195, 3) := by decide +kernel
theorem dX8_go_119 : decode cX8_go 119 = .ok (.ireturn, 1) := by decide +kernel
theorem dX8_whole_0 : decode cX8_whole 0 = .ok (.iload_n 1, 1) := by decide +kernel
theorem dX8_whole_1 : decode cX8_whole 1 = .ok (.ifCond .lt 8, 3) := by decide +kernel
theorem dX8_whole_4 : decode cX8_whole 4 = .ok (.iload_n 1, 1) := by decide +kernel
theorem dX8_whole_5 : decode cX8_whole 5 = .ok (.iconst 2, 1) := by decide +kernel
theorem dX8_whole_6 : decode cX8_whole 6 = .ok (.if_icmp .le 6, 3) := by decide +kernel
theorem dX8_whole_9 : decode cX8_whole 9 = .ok (.bipush (-2), 2) := by decide +kernel
theorem dX8_whole_11 : decode cX8_whole 11 = .ok (.ireturn, 1) := by decide +kernel
theorem dX8_whole_12 : decode cX8_whole 12 = .ok (.aload_n 0, 1) := by decide +kernel
theorem dX8_whole_13 : decode cX8_whole 13 = .ok (.getfield 64, 3) := by decide +kernel
theorem dX8_whole_16 : decode cX8_whole 16 = .ok (.aload_n 0, 1) := by decide +kernel
theorem dX8_whole_17 : decode cX8_whole 17 = .ok (.getfield 23, 3) := by decide +kernel
theorem dX8_whole_20 : decode cX8_whole 20 = .ok (.getfield 73, 3) := by decide +kernel
theorem dX8_whole_23 : decode cX8_whole 23 = .ok (.invokevirtual 198, 3) := by decide +kernel
theorem dX8_whole_26 : decode cX8_whole 26 = .ok (.aload_n 0, 1) := by decide +kernel
theorem dX8_whole_27 : decode cX8_whole 27 = .ok (.getfield 28, 3) := by decide +kernel
theorem dX8_whole_30 : decode cX8_whole 30 = .ok (.aload_n 0, 1) := by decide +kernel
theorem dX8_whole_31 : decode cX8_whole 31 = .ok (.getfield 64, 3) := by decide +kernel
theorem dX8_whole_34 : decode cX8_whole 34 = .ok (.invokevirtual 160, 3) := by decide +kernel
theorem dX8_whole_37 : decode cX8_whole 37 = .ok (.istore_n 2, 1) := by decide +kernel
theorem dX8_whole_38 : decode cX8_whole 38 = .ok (.aload_n 0, 1) := by decide +kernel
theorem dX8_whole_39 : decode cX8_whole 39 = .ok (.getfield 64, 3) := by decide +kernel
theorem dX8_whole_42 : decode cX8_whole 42 = .ok (.aload_n 0, 1) := by decide +kernel
theorem dX8_whole_43 : decode cX8_whole 43 = .ok (.getfield 23, 3) := by decide +kernel
theorem dX8_whole_46 : decode cX8_whole 46 = .ok (.getfield 73, 3) := by decide +kernel
theorem dX8_whole_49 : decode cX8_whole 49 = .ok (.invokevirtual 168, 3) := by decide +kernel
theorem dX8_whole_52 : decode cX8_whole 52 = .ok (.aload_n 0, 1) := by decide +kernel
theorem dX8_whole_53 : decode cX8_whole 53 = .ok (.getfield 28, 3) := by decide +kernel
theorem dX8_whole_56 : decode cX8_whole 56 = .ok (.aload_n 0, 1) := by decide +kernel
theorem dX8_whole_57 : decode cX8_whole 57 = .ok (.getfield 64, 3) := by decide +kernel
theorem dX8_whole_60 : decode cX8_whole 60 = .ok (.invokevirtual 160, 3) := by decide +kernel
theorem dX8_whole_63 : decode cX8_whole 63 = .ok (.istore_n 3, 1) := by decide +kernel
theorem dX8_whole_64 : decode cX8_whole 64 = .ok (.iconst 0, 1) := by decide +kernel
theorem dX8_whole_65 : decode cX8_whole 65 = .ok (.istore 4, 2) := by decide +kernel
theorem dX8_whole_67 : decode cX8_whole 67 = .ok (.iconst 0, 1) := by decide +kernel
theorem dX8_whole_68 : decode cX8_whole 68 = .ok (.istore 5, 2) := by decide +kernel
theorem dX8_whole_70 : decode cX8_whole 70 = .ok (.iconst 0, 1) := by decide +kernel
theorem dX8_whole_71 : decode cX8_whole 71 = .ok (.istore 6, 2) := by decide +kernel
theorem dX8_whole_73 : decode cX8_whole 73 = .ok (.iload 6, 2) := by decide +kernel
theorem dX8_whole_75 : decode cX8_whole 75 = .ok (.aload_n 0, 1) := by decide +kernel
theorem dX8_whole_76 : decode cX8_whole 76 = .ok (.getfield 23, 3) := by decide +kernel
theorem dX8_whole_79 : decode cX8_whole 79 = .ok (.getfield 73, 3) := by decide +kernel
theorem dX8_whole_82 : decode cX8_whole 82 = .ok (.if_icmp .ge 55, 3) := by decide +kernel
theorem dX8_whole_85 : decode cX8_whole 85 = .ok (.aload_n 0, 1) := by decide +kernel
theorem dX8_whole_86 : decode cX8_whole 86 = .ok (.getfield 28, 3) := by decide +kernel
theorem dX8_whole_89 : decode cX8_whole 89 = .ok (.iload_n 3, 1) := by decide +kernel
theorem dX8_whole_90 : decode cX8_whole 90 = .ok (.iload 6, 2) := by decide +kernel
theorem dX8_whole_92 : decode cX8_whole 92 = .ok (.invokevirtual 164, 3) := by decide +kernel
theorem dX8_whole_95 : decode cX8_whole 95 = .ok (.aload_n 0, 1) := by decide +kernel
theorem dX8_whole_96 : decode cX8_whole 96 = .ok (.getfield 28, 3) := by decide +kernel
theorem dX8_whole_99 : decode cX8_whole 99 = .ok (.iload_n 2, 1) := by decide +kernel
theorem dX8_whole_100 : decode cX8_whole 100 = .ok (.iload 6, 2) := by decide +kernel
theorem dX8_whole_102 : decode cX8_whole 102 = .ok (.invokevirtual 164, 3) := by decide +kernel
theorem dX8_whole_105 : decode cX8_whole 105 = .ok (.isub, 1) := by decide +kernel
theorem dX8_whole_106 : decode cX8_whole 106 = .ok (.istore 7, 2) := by decide +kernel
theorem dX8_whole_108 : decode cX8_whole 108 = .ok (.iload 4, 2) := by decide +kernel
theorem dX8_whole_110 : decode cX8_whole 110 = .ok (.iconst 0, 1) := by decide +kernel
theorem dX8_whole_111 : decode cX8_whole 111 = .ok (.iload 7, 2) := by decide +kernel
theorem dX8_whole_113 : decode cX8_whole 113 = .ok (.ineg, 1) := by decide +kernel
theorem dX8_whole_114 : decode cX8_whole 114 = .ok (.invokestatic 171, 3) := by decide +kernel
theorem dX8_whole_117 : decode cX8_whole 117 = .ok (.iadd, 1) := by decide +kernel
theorem dX8_whole_118 : decode cX8_whole 118 = .ok (.istore 4, 2) := by decide +kernel
theorem dX8_whole_120 : decode cX8_whole 120 = .ok (.iload 5, 2) := by decide +kernel
theorem dX8_whole_122 : decode cX8_whole 122 = .ok (.iconst 0, 1) := by decide +kernel
theorem dX8_whole_123 : decode cX8_whole 123 = .ok (.iload 7, 2) := by decide +kernel
theorem dX8_whole_125 : decode cX8_whole 125 = .ok (.invokestatic 171, 3) := by decide +kernel
theorem dX8_whole_128 : decode cX8_whole 128 = .ok (.iadd, 1) := by decide +kernel
theorem dX8_whole_129 : decode cX8_whole 129 = .ok (.istore 5, 2) := by decide +kernel
theorem dX8_whole_131 : decode cX8_whole 131 = .ok (.iinc 6 1, 3) := by decide +kernel
theorem dX8_whole_134 : decode cX8_whole 134 = .ok (.goto (-61), 3) := by decide +kernel
theorem dX8_whole_137 : decode cX8_whole 137 = .ok (.iload_n 1, 1) := by decide +kernel
theorem dX8_whole_138 : decode cX8_whole 138 = .ok (.iconst 2, 1) := by decide +kernel
theorem dX8_whole_139 : decode cX8_whole 139 = .ok (.if_icmp .ne 16, 3) := by decide +kernel
theorem dX8_whole_142 : decode cX8_whole 142 = .ok (.iload 4, 2) := by decide +kernel
theorem dX8_whole_144 : decode cX8_whole 144 = .ok (.iload 5, 2) := by decide +kernel
theorem dX8_whole_146 : decode cX8_whole 146 = .ok (.if_icmp .gt 7, 3) := by decide +kernel
theorem dX8_whole_149 : decode cX8_whole 149 = .ok (.iconst 1, 1) := by decide +kernel
theorem dX8_whole_150 : decode cX8_whole 150 = .ok (.goto 4, 3) := by decide +kernel
theorem dX8_whole_153 : decode cX8_whole 153 = .ok (.iconst 0, 1) := by decide +kernel
theorem dX8_whole_154 : decode cX8_whole 154 = .ok (.ireturn, 1) := by decide +kernel
theorem dX8_whole_155 : decode cX8_whole 155 = .ok (.iload_n 1, 1) := by decide +kernel
theorem dX8_whole_156 : decode cX8_whole 156 = .ok (.ifCond .ne 8, 3) := by decide +kernel
theorem dX8_whole_159 : decode cX8_whole 159 = .ok (.iload 4, 2) := by decide +kernel
theorem dX8_whole_161 : decode cX8_whole 161 = .ok (.goto 5, 3) := by decide +kernel
theorem dX8_whole_164 : decode cX8_whole 164 = .ok (.iload 5, 2) := by decide +kernel
theorem dX8_whole_166 : decode cX8_whole 166 = .ok (.ireturn, 1) := by decide +kernel
theorem dX8_rules_0 : decode cX8_rules 0 = .ok (.iconst 0, 1) := by decide +kernel
theorem dX8_rules_1 : decode cX8_rules 1 = .ok (.istore_n 1, 1) := by decide +kernel
theorem dX8_rules_2 : decode cX8_rules 2 = .ok (.aload_n 0, 1) := by decide +kernel
theorem dX8_rules_3 : decode cX8_rules 3 = .ok (.getfield 16, 3) := by decide +kernel
theorem dX8_rules_6 : decode cX8_rules 6 = .ok (.getfield 19, 3) := by decide +kernel
theorem dX8_rules_9 : decode cX8_rules 9 = .ok (.aload_n 0, 1) := by decide +kernel
theorem dX8_rules_10 : decode cX8_rules 10 = .ok (.getfield 23, 3) := by decide +kernel
theorem dX8_rules_13 : decode cX8_rules 13 = .ok (.invokevirtual 201, 3) := by decide +kernel
theorem dX8_rules_16 : decode cX8_rules 16 = .ok (.iconst 0, 1) := by decide +kernel
theorem dX8_rules_17 : decode cX8_rules 17 = .ok (.istore_n 2, 1) := by decide +kernel
theorem dX8_rules_18 : decode cX8_rules 18 = .ok (.iload_n 2, 1) := by decide +kernel
theorem dX8_rules_19 : decode cX8_rules 19 = .ok (.iconst 2, 1) := by decide +kernel
theorem dX8_rules_20 : decode cX8_rules 20 = .ok (.if_icmp .gt 42, 3) := by decide +kernel
theorem dX8_rules_23 : decode cX8_rules 23 = .ok (.aload_n 0, 1) := by decide +kernel
theorem dX8_rules_24 : decode cX8_rules 24 = .ok (.getfield 16, 3) := by decide +kernel
theorem dX8_rules_27 : decode cX8_rules 27 = .ok (.getfield 19, 3) := by decide +kernel
theorem dX8_rules_30 : decode cX8_rules 30 = .ok (.iload_n 2, 1) := by decide +kernel
theorem dX8_rules_31 : decode cX8_rules 31 = .ok (.invokevirtual 106, 3) := by decide +kernel
theorem dX8_rules_34 : decode cX8_rules 34 = .ok (.aload_n 0, 1) := by decide +kernel
theorem dX8_rules_35 : decode cX8_rules 35 = .ok (.getfield 16, 3) := by decide +kernel
theorem dX8_rules_38 : decode cX8_rules 38 = .ok (.aload_n 0, 1) := by decide +kernel
theorem dX8_rules_39 : decode cX8_rules 39 = .ok (.getfield 60, 3) := by decide +kernel
theorem dX8_rules_42 : decode cX8_rules 42 = .ok (.invokevirtual 205, 3) := by decide +kernel
theorem dX8_rules_45 : decode cX8_rules 45 = .ok (.bipush (-6), 2) := by decide +kernel
theorem dX8_rules_47 : decode cX8_rules 47 = .ok (.if_icmp .ne 9, 3) := by decide +kernel
theorem dX8_rules_50 : decode cX8_rules 50 = .ok (.iload_n 1, 1) := by decide +kernel
theorem dX8_rules_51 : decode cX8_rules 51 = .ok (.iconst 1, 1) := by decide +kernel
theorem dX8_rules_52 : decode cX8_rules 52 = .ok (.iload_n 2, 1) := by decide +kernel
theorem dX8_rules_53 : decode cX8_rules 53 = .ok (.ishl, 1) := by decide +kernel
theorem dX8_rules_54 : decode cX8_rules 54 = .ok (.ior, 1) := by decide +kernel
theorem dX8_rules_55 : decode cX8_rules 55 = .ok (.istore_n 1, 1) := by decide +kernel
theorem dX8_rules_56 : decode cX8_rules 56 = .ok (.iinc 2 1, 3) := by decide +kernel
theorem dX8_rules_59 : decode cX8_rules 59 = .ok (.goto (-41), 3) := by decide +kernel
theorem dX8_rules_62 : decode cX8_rules 62 = .ok (.iload_n 1, 1) := by decide +kernel
theorem dX8_rules_63 : decode cX8_rules 63 = .ok (.ireturn, 1) := by decide +kernel
theorem dX8_propose_0 : decode cX8_propose 0 = .ok (.aload_n 0, 1) := by decide +kernel
theorem dX8_propose_1 : decode cX8_propose 1 = .ok (.iload_n 1, 1) := by decide +kernel
theorem dX8_propose_2 : decode cX8_propose 2 = .ok (.invokevirtual 84, 3) := by decide +kernel
theorem dX8_propose_5 : decode cX8_propose 5 = .ok (.ifCond .ne 5, 3) := by decide +kernel
theorem dX8_propose_8 : decode cX8_propose 8 = .ok (.iconst (-1), 1) := by decide +kernel
theorem dX8_propose_9 : decode cX8_propose 9 = .ok (.ireturn, 1) := by decide +kernel
theorem dX8_propose_10 : decode cX8_propose 10 = .ok (.iload_n 2, 1) := by decide +kernel
theorem dX8_propose_11 : decode cX8_propose 11 = .ok (.ifCond .lt 8, 3) := by decide +kernel
theorem dX8_propose_14 : decode cX8_propose 14 = .ok (.iload_n 2, 1) := by decide +kernel
theorem dX8_propose_15 : decode cX8_propose 15 = .ok (.iconst 1, 1) := by decide +kernel
theorem dX8_propose_16 : decode cX8_propose 16 = .ok (.if_icmp .le 6, 3) := by decide +kernel
theorem dX8_propose_19 : decode cX8_propose 19 = .ok (.bipush (-2), 2) := by decide +kernel
theorem dX8_propose_21 : decode cX8_propose 21 = .ok (.ireturn, 1) := by decide +kernel
theorem dX8_propose_22 : decode cX8_propose 22 = .ok (.bipush (-6), 2) := by decide +kernel
theorem dX8_propose_24 : decode cX8_propose 24 = .ok (.istore_n 3, 1) := by decide +kernel
theorem dX8_propose_25 : decode cX8_propose 25 = .ok (.bipush (-6), 2) := by decide +kernel
theorem dX8_propose_27 : decode cX8_propose 27 = .ok (.istore 4, 2) := by decide +kernel
theorem dX8_propose_29 : decode cX8_propose 29 = .ok (.iconst 1, 1) := by decide +kernel
theorem dX8_propose_30 : decode cX8_propose 30 = .ok (.istore 5, 2) := by decide +kernel
theorem dX8_propose_32 : decode cX8_propose 32 = .ok (.iload 5, 2) := by decide +kernel
theorem dX8_propose_34 : decode cX8_propose 34 = .ok (.iconst 1, 1) := by decide +kernel
theorem dX8_propose_35 : decode cX8_propose 35 = .ok (.aload_n 0, 1) := by decide +kernel
theorem dX8_propose_36 : decode cX8_propose 36 = .ok (.getfield 23, 3) := by decide +kernel
theorem dX8_propose_39 : decode cX8_propose 39 = .ok (.getfield 73, 3) := by decide +kernel
theorem dX8_propose_42 : decode cX8_propose 42 = .ok (.ishl, 1) := by decide +kernel
theorem dX8_propose_43 : decode cX8_propose 43 = .ok (.if_icmp .ge 65, 3) := by decide +kernel
theorem dX8_propose_46 : decode cX8_propose 46 = .ok (.iload 5, 2) := by decide +kernel
theorem dX8_propose_48 : decode cX8_propose 48 = .ok (.iload_n 1, 1) := by decide +kernel
theorem dX8_propose_49 : decode cX8_propose 49 = .ok (.ishr, 1) := by decide +kernel
theorem dX8_propose_50 : decode cX8_propose 50 = .ok (.iconst 1, 1) := by decide +kernel
theorem dX8_propose_51 : decode cX8_propose 51 = .ok (.iand, 1) := by decide +kernel
theorem dX8_propose_52 : decode cX8_propose 52 = .ok (.iconst 1, 1) := by decide +kernel
theorem dX8_propose_53 : decode cX8_propose 53 = .ok (.if_icmp .ne 49, 3) := by decide +kernel
theorem dX8_propose_56 : decode cX8_propose 56 = .ok (.aload_n 0, 1) := by decide +kernel
theorem dX8_propose_57 : decode cX8_propose 57 = .ok (.getfield 10, 3) := by decide +kernel
theorem dX8_propose_60 : decode cX8_propose 60 = .ok (.aload_n 0, 1) := by decide +kernel
theorem dX8_propose_61 : decode cX8_propose 61 = .ok (.getfield 60, 3) := by decide +kernel
theorem dX8_propose_64 : decode cX8_propose 64 = .ok (.iload 5, 2) := by decide +kernel
theorem dX8_propose_66 : decode cX8_propose 66 = .ok (.invokevirtual 208, 3) := by decide +kernel
theorem dX8_propose_69 : decode cX8_propose 69 = .ok (.ifCond .eq 33, 3) := by decide +kernel
theorem dX8_propose_72 : decode cX8_propose 72 = .ok (.aload_n 0, 1) := by decide +kernel
theorem dX8_propose_73 : decode cX8_propose 73 = .ok (.getfield 10, 3) := by decide +kernel
theorem dX8_propose_76 : decode cX8_propose 76 = .ok (.aload_n 0, 1) := by decide +kernel
theorem dX8_propose_77 : decode cX8_propose 77 = .ok (.getfield 60, 3) := by decide +kernel
theorem dX8_propose_80 : decode cX8_propose 80 = .ok (.iload 5, 2) := by decide +kernel
theorem dX8_propose_82 : decode cX8_propose 82 = .ok (.iload_n 1, 1) := by decide +kernel
theorem dX8_propose_83 : decode cX8_propose 83 = .ok (.invokevirtual 212, 3) := by decide +kernel
theorem dX8_propose_86 : decode cX8_propose 86 = .ok (.istore 6, 2) := by decide +kernel
theorem dX8_propose_88 : decode cX8_propose 88 = .ok (.iload 6, 2) := by decide +kernel
theorem dX8_propose_90 : decode cX8_propose 90 = .ok (.iload 4, 2) := by decide +kernel
theorem dX8_propose_92 : decode cX8_propose 92 = .ok (.if_icmp .le 10, 3) := by decide +kernel
theorem dX8_propose_95 : decode cX8_propose 95 = .ok (.iload 5, 2) := by decide +kernel
theorem dX8_propose_97 : decode cX8_propose 97 = .ok (.istore_n 3, 1) := by decide +kernel
theorem dX8_propose_98 : decode cX8_propose 98 = .ok (.iload 6, 2) := by decide +kernel
theorem dX8_propose_100 : decode cX8_propose 100 = .ok (.istore 4, 2) := by decide +kernel
theorem dX8_propose_102 : decode cX8_propose 102 = .ok (.iinc 5 1, 3) := by decide +kernel
theorem dX8_propose_105 : decode cX8_propose 105 = .ok (.goto (-73), 3) := by decide +kernel
theorem dX8_propose_108 : decode cX8_propose 108 = .ok (.iload_n 2, 1) := by decide +kernel
theorem dX8_propose_109 : decode cX8_propose 109 = .ok (.ifCond .ne 7, 3) := by decide +kernel
theorem dX8_propose_112 : decode cX8_propose 112 = .ok (.iload_n 3, 1) := by decide +kernel
theorem dX8_propose_113 : decode cX8_propose 113 = .ok (.goto 5, 3) := by decide +kernel
theorem dX8_propose_116 : decode cX8_propose 116 = .ok (.iload 4, 2) := by decide +kernel
theorem dX8_propose_118 : decode cX8_propose 118 = .ok (.ireturn, 1) := by decide +kernel
theorem dX8_enter_0 : decode cX8_enter 0 = .ok (.aload_n 0, 1) := by decide +kernel
theorem dX8_enter_1 : decode cX8_enter 1 = .ok (.iload_n 1, 1) := by decide +kernel
theorem dX8_enter_2 : decode cX8_enter 2 = .ok (.invokevirtual 84, 3) := by decide +kernel
theorem dX8_enter_5 : decode cX8_enter 5 = .ok (.ifCond .ne 6, 3) := by decide +kernel
theorem dX8_enter_8 : decode cX8_enter 8 = .ok (.ldc 216, 2) := by decide +kernel
theorem dX8_enter_10 : decode cX8_enter 10 = .ok (.ireturn, 1) := by decide +kernel
theorem dX8_enter_11 : decode cX8_enter 11 = .ok (.aload_n 0, 1) := by decide +kernel
theorem dX8_enter_12 : decode cX8_enter 12 = .ok (.iload_n 2, 1) := by decide +kernel
theorem dX8_enter_13 : decode cX8_enter 13 = .ok (.invokevirtual 217, 3) := by decide +kernel
theorem dX8_enter_16 : decode cX8_enter 16 = .ok (.ifCond .eq 25, 3) := by decide +kernel
theorem dX8_enter_19 : decode cX8_enter 19 = .ok (.aload_n 0, 1) := by decide +kernel
theorem dX8_enter_20 : decode cX8_enter 20 = .ok (.getfield 60, 3) := by decide +kernel
theorem dX8_enter_23 : decode cX8_enter 23 = .ok (.getfield 123, 3) := by decide +kernel
theorem dX8_enter_26 : decode cX8_enter 26 = .ok (.iload_n 1, 1) := by decide +kernel
theorem dX8_enter_27 : decode cX8_enter 27 = .ok (.iaload, 1) := by decide +kernel
theorem dX8_enter_28 : decode cX8_enter 28 = .ok (.iload_n 2, 1) := by decide +kernel
theorem dX8_enter_29 : decode cX8_enter 29 = .ok (.if_icmp .eq 12, 3) := by decide +kernel
theorem dX8_enter_32 : decode cX8_enter 32 = .ok (.iload_n 3, 1) := by decide +kernel
theorem dX8_enter_33 : decode cX8_enter 33 = .ok (.ifCond .lt 8, 3) := by decide +kernel
theorem dX8_enter_36 : decode cX8_enter 36 = .ok (.iload_n 3, 1) := by decide +kernel
theorem dX8_enter_37 : decode cX8_enter 37 = .ok (.iconst 1, 1) := by decide +kernel
theorem dX8_enter_38 : decode cX8_enter 38 = .ok (.if_icmp .le 6, 3) := by decide +kernel
theorem dX8_enter_41 : decode cX8_enter 41 = .ok (.ldc 220, 2) := by decide +kernel
theorem dX8_enter_43 : decode cX8_enter 43 = .ok (.ireturn, 1) := by decide +kernel
theorem dX8_enter_44 : decode cX8_enter 44 = .ok (.aload_n 0, 1) := by decide +kernel
theorem dX8_enter_45 : decode cX8_enter 45 = .ok (.getfield 64, 3) := by decide +kernel
theorem dX8_enter_48 : decode cX8_enter 48 = .ok (.aload_n 0, 1) := by decide +kernel
theorem dX8_enter_49 : decode cX8_enter 49 = .ok (.getfield 60, 3) := by decide +kernel
theorem dX8_enter_52 : decode cX8_enter 52 = .ok (.invokevirtual 221, 3) := by decide +kernel
theorem dX8_enter_55 : decode cX8_enter 55 = .ok (.aload_n 0, 1) := by decide +kernel
theorem dX8_enter_56 : decode cX8_enter 56 = .ok (.getfield 64, 3) := by decide +kernel
theorem dX8_enter_59 : decode cX8_enter 59 = .ok (.iload_n 1, 1) := by decide +kernel
theorem dX8_enter_60 : decode cX8_enter 60 = .ok (.iload_n 2, 1) := by decide +kernel
theorem dX8_enter_61 : decode cX8_enter 61 = .ok (.invokevirtual 223, 3) := by decide +kernel
theorem dX8_enter_64 : decode cX8_enter 64 = .ok (.aload_n 0, 1) := by decide +kernel
theorem dX8_enter_65 : decode cX8_enter 65 = .ok (.getfield 28, 3) := by decide +kernel
theorem dX8_enter_68 : decode cX8_enter 68 = .ok (.aload_n 0, 1) := by decide +kernel
theorem dX8_enter_69 : decode cX8_enter 69 = .ok (.getfield 60, 3) := by decide +kernel
theorem dX8_enter_72 : decode cX8_enter 72 = .ok (.invokevirtual 160, 3) := by decide +kernel
theorem dX8_enter_75 : decode cX8_enter 75 = .ok (.istore 4, 2) := by decide +kernel
theorem dX8_enter_77 : decode cX8_enter 77 = .ok (.aload_n 0, 1) := by decide +kernel
theorem dX8_enter_78 : decode cX8_enter 78 = .ok (.getfield 28, 3) := by decide +kernel
theorem dX8_enter_81 : decode cX8_enter 81 = .ok (.aload_n 0, 1) := by decide +kernel
theorem dX8_enter_82 : decode cX8_enter 82 = .ok (.getfield 64, 3) := by decide +kernel
theorem dX8_enter_85 : decode cX8_enter 85 = .ok (.invokevirtual 160, 3) := by decide +kernel
theorem dX8_enter_88 : decode cX8_enter 88 = .ok (.istore 5, 2) := by decide +kernel
theorem dX8_enter_90 : decode cX8_enter 90 = .ok (.iload_n 3, 1) := by decide +kernel
theorem dX8_enter_91 : decode cX8_enter 91 = .ok (.ifCond .ne 25, 3) := by decide +kernel
theorem dX8_enter_94 : decode cX8_enter 94 = .ok (.aload_n 0, 1) := by decide +kernel
theorem dX8_enter_95 : decode cX8_enter 95 = .ok (.getfield 28, 3) := by decide +kernel
theorem dX8_enter_98 : decode cX8_enter 98 = .ok (.iload 5, 2) := by decide +kernel
theorem dX8_enter_100 : decode cX8_enter 100 = .ok (.iload_n 1, 1) := by decide +kernel
theorem dX8_enter_101 : decode cX8_enter 101 = .ok (.invokevirtual 164, 3) := by decide +kernel
theorem dX8_enter_104 : decode cX8_enter 104 = .ok (.aload_n 0, 1) := by decide +kernel
theorem dX8_enter_105 : decode cX8_enter 105 = .ok (.getfield 28, 3) := by decide +kernel
theorem dX8_enter_108 : decode cX8_enter 108 = .ok (.iload 4, 2) := by decide +kernel
theorem dX8_enter_110 : decode cX8_enter 110 = .ok (.iload_n 1, 1) := by decide +kernel
theorem dX8_enter_111 : decode cX8_enter 111 = .ok (.invokevirtual 164, 3) := by decide +kernel
theorem dX8_enter_114 : decode cX8_enter 114 = .ok (.isub, 1) := by decide +kernel
theorem dX8_enter_115 : decode cX8_enter 115 = .ok (.ireturn, 1) := by decide +kernel
theorem dX8_enter_116 : decode cX8_enter 116 = .ok (.iconst 0, 1) := by decide +kernel
theorem dX8_enter_117 : decode cX8_enter 117 = .ok (.istore 6, 2) := by decide +kernel
theorem dX8_enter_119 : decode cX8_enter 119 = .ok (.iconst 0, 1) := by decide +kernel
theorem dX8_enter_120 : decode cX8_enter 120 = .ok (.istore 7, 2) := by decide +kernel
theorem dX8_enter_122 : decode cX8_enter 122 = .ok (.iload 7, 2) := by decide +kernel
theorem dX8_enter_124 : decode cX8_enter 124 = .ok (.aload_n 0, 1) := by decide +kernel
theorem dX8_enter_125 : decode cX8_enter 125 = .ok (.getfield 23, 3) := by decide +kernel
theorem dX8_enter_128 : decode cX8_enter 128 = .ok (.getfield 73, 3) := by decide +kernel
theorem dX8_enter_131 : decode cX8_enter 131 = .ok (.if_icmp .ge 51, 3) := by decide +kernel
theorem dX8_enter_134 : decode cX8_enter 134 = .ok (.aload_n 0, 1) := by decide +kernel
theorem dX8_enter_135 : decode cX8_enter 135 = .ok (.getfield 60, 3) := by decide +kernel
theorem dX8_enter_138 : decode cX8_enter 138 = .ok (.getfield 123, 3) := by decide +kernel
theorem dX8_enter_141 : decode cX8_enter 141 = .ok (.iload 7, 2) := by decide +kernel
theorem dX8_enter_143 : decode cX8_enter 143 = .ok (.iaload, 1) := by decide +kernel
theorem dX8_enter_144 : decode cX8_enter 144 = .ok (.iload_n 2, 1) := by decide +kernel
theorem dX8_enter_145 : decode cX8_enter 145 = .ok (.if_icmp .ne 31, 3) := by decide +kernel
theorem dX8_enter_148 : decode cX8_enter 148 = .ok (.iload 6, 2) := by decide +kernel
theorem dX8_enter_150 : decode cX8_enter 150 = .ok (.aload_n 0, 1) := by decide +kernel
theorem dX8_enter_151 : decode cX8_enter 151 = .ok (.getfield 28, 3) := by decide +kernel
theorem dX8_enter_154 : decode cX8_enter 154 = .ok (.iload 5, 2) := by decide +kernel
theorem dX8_enter_156 : decode cX8_enter 156 = .ok (.iload 7, 2) := by decide +kernel
theorem dX8_enter_158 : decode cX8_enter 158 = .ok (.invokevirtual 164, 3) := by decide +kernel
theorem dX8_enter_161 : decode cX8_enter 161 = .ok (.aload_n 0, 1) := by decide +kernel
theorem dX8_enter_162 : decode cX8_enter 162 = .ok (.getfield 28, 3) := by decide +kernel
theorem dX8_enter_165 : decode cX8_enter 165 = .ok (.iload 4, 2) := by decide +kernel
theorem dX8_enter_167 : decode cX8_enter 167 = .ok (.iload 7, 2) := by decide +kernel
theorem dX8_enter_169 : decode cX8_enter 169 = .ok (.invokevirtual 164, 3) := by decide +kernel
theorem dX8_enter_172 : decode cX8_enter 172 = .ok (.isub, 1) := by decide +kernel
theorem dX8_enter_173 : decode cX8_enter 173 = .ok (.iadd, 1) := by decide +kernel
theorem dX8_enter_174 : decode cX8_enter 174 = .ok (.istore 6, 2) := by decide +kernel
theorem dX8_enter_176 : decode cX8_enter 176 = .ok (.iinc 7 1, 3) := by decide +kernel
theorem dX8_enter_179 : decode cX8_enter 179 = .ok (.goto (-57), 3) := by decide +kernel
theorem dX8_enter_182 : decode cX8_enter 182 = .ok (.iload 6, 2) := by decide +kernel
theorem dX8_enter_184 : decode cX8_enter 184 = .ok (.ireturn, 1) := by decide +kernel
theorem dX8_holds_0 : decode cX8_holds 0 = .ok (.iconst 0, 1) := by decide +kernel
theorem dX8_holds_1 : decode cX8_holds 1 = .ok (.istore_n 1, 1) := by decide +kernel
theorem dX8_holds_2 : decode cX8_holds 2 = .ok (.iconst 0, 1) := by decide +kernel
theorem dX8_holds_3 : decode cX8_holds 3 = .ok (.istore_n 2, 1) := by decide +kernel
theorem dX8_holds_4 : decode cX8_holds 4 = .ok (.iload_n 2, 1) := by decide +kernel
theorem dX8_holds_5 : decode cX8_holds 5 = .ok (.aload_n 0, 1) := by decide +kernel
theorem dX8_holds_6 : decode cX8_holds 6 = .ok (.getfield 23, 3) := by decide +kernel
theorem dX8_holds_9 : decode cX8_holds 9 = .ok (.getfield 73, 3) := by decide +kernel
theorem dX8_holds_12 : decode cX8_holds 12 = .ok (.if_icmp .ge 26, 3) := by decide +kernel
theorem dX8_holds_15 : decode cX8_holds 15 = .ok (.iload_n 1, 1) := by decide +kernel
theorem dX8_holds_16 : decode cX8_holds 16 = .ok (.aload_n 0, 1) := by decide +kernel
theorem dX8_holds_17 : decode cX8_holds 17 = .ok (.getfield 10, 3) := by decide +kernel
theorem dX8_holds_20 : decode cX8_holds 20 = .ok (.aload_n 0, 1) := by decide +kernel
theorem dX8_holds_21 : decode cX8_holds 21 = .ok (.getfield 60, 3) := by decide +kernel
theorem dX8_holds_24 : decode cX8_holds 24 = .ok (.iload_n 2, 1) := by decide +kernel
theorem dX8_holds_25 : decode cX8_holds 25 = .ok (.invokevirtual 227, 3) := by decide +kernel
theorem dX8_holds_28 : decode cX8_holds 28 = .ok (.invokestatic 171, 3) := by decide +kernel
theorem dX8_holds_31 : decode cX8_holds 31 = .ok (.istore_n 1, 1) := by decide +kernel
theorem dX8_holds_32 : decode cX8_holds 32 = .ok (.iinc 2 1, 3) := by decide +kernel
theorem dX8_holds_35 : decode cX8_holds 35 = .ok (.goto (-31), 3) := by decide +kernel
theorem dX8_holds_38 : decode cX8_holds 38 = .ok (.iload_n 1, 1) := by decide +kernel
theorem dX8_holds_39 : decode cX8_holds 39 = .ok (.ireturn, 1) := by decide +kernel
theorem dX8_hurt_0 : decode cX8_hurt 0 = .ok (.aload_n 0, 1) := by decide +kernel
theorem dX8_hurt_1 : decode cX8_hurt 1 = .ok (.iload_n 1, 1) := by decide +kernel
theorem dX8_hurt_2 : decode cX8_hurt 2 = .ok (.invokevirtual 217, 3) := by decide +kernel
theorem dX8_hurt_5 : decode cX8_hurt 5 = .ok (.ifCond .ne 6, 3) := by decide +kernel
theorem dX8_hurt_8 : decode cX8_hurt 8 = .ok (.bipush (-2), 2) := by decide +kernel
theorem dX8_hurt_10 : decode cX8_hurt 10 = .ok (.ireturn, 1) := by decide +kernel
theorem dX8_hurt_11 : decode cX8_hurt 11 = .ok (.aload_n 0, 1) := by decide +kernel
theorem dX8_hurt_12 : decode cX8_hurt 12 = .ok (.getfield 64, 3) := by decide +kernel
theorem dX8_hurt_15 : decode cX8_hurt 15 = .ok (.aload_n 0, 1) := by decide +kernel
theorem dX8_hurt_16 : decode cX8_hurt 16 = .ok (.getfield 60, 3) := by decide +kernel
theorem dX8_hurt_19 : decode cX8_hurt 19 = .ok (.invokevirtual 221, 3) := by decide +kernel
theorem dX8_hurt_22 : decode cX8_hurt 22 = .ok (.aload_n 0, 1) := by decide +kernel
theorem dX8_hurt_23 : decode cX8_hurt 23 = .ok (.getfield 64, 3) := by decide +kernel
theorem dX8_hurt_26 : decode cX8_hurt 26 = .ok (.iload_n 1, 1) := by decide +kernel
theorem dX8_hurt_27 : decode cX8_hurt 27 = .ok (.invokevirtual 231, 3) := by decide +kernel
theorem dX8_hurt_30 : decode cX8_hurt 30 = .ok (.aload_n 0, 1) := by decide +kernel
theorem dX8_hurt_31 : decode cX8_hurt 31 = .ok (.getfield 28, 3) := by decide +kernel
theorem dX8_hurt_34 : decode cX8_hurt 34 = .ok (.aload_n 0, 1) := by decide +kernel
theorem dX8_hurt_35 : decode cX8_hurt 35 = .ok (.getfield 60, 3) := by decide +kernel
theorem dX8_hurt_38 : decode cX8_hurt 38 = .ok (.invokevirtual 160, 3) := by decide +kernel
theorem dX8_hurt_41 : decode cX8_hurt 41 = .ok (.istore_n 2, 1) := by decide +kernel
theorem dX8_hurt_42 : decode cX8_hurt 42 = .ok (.aload_n 0, 1) := by decide +kernel
theorem dX8_hurt_43 : decode cX8_hurt 43 = .ok (.getfield 28, 3) := by decide +kernel
theorem dX8_hurt_46 : decode cX8_hurt 46 = .ok (.aload_n 0, 1) := by decide +kernel
theorem dX8_hurt_47 : decode cX8_hurt 47 = .ok (.getfield 64, 3) := by decide +kernel
theorem dX8_hurt_50 : decode cX8_hurt 50 = .ok (.invokevirtual 160, 3) := by decide +kernel
theorem dX8_hurt_53 : decode cX8_hurt 53 = .ok (.istore_n 3, 1) := by decide +kernel
theorem dX8_hurt_54 : decode cX8_hurt 54 = .ok (.iconst 0, 1) := by decide +kernel
theorem dX8_hurt_55 : decode cX8_hurt 55 = .ok (.istore 4, 2) := by decide +kernel
theorem dX8_hurt_57 : decode cX8_hurt 57 = .ok (.iconst 0, 1) := by decide +kernel
theorem dX8_hurt_58 : decode cX8_hurt 58 = .ok (.istore 5, 2) := by decide +kernel
theorem dX8_hurt_60 : decode cX8_hurt 60 = .ok (.iload 5, 2) := by decide +kernel
theorem dX8_hurt_62 : decode cX8_hurt 62 = .ok (.aload_n 0, 1) := by decide +kernel
theorem dX8_hurt_63 : decode cX8_hurt 63 = .ok (.getfield 23, 3) := by decide +kernel
theorem dX8_hurt_66 : decode cX8_hurt 66 = .ok (.getfield 73, 3) := by decide +kernel
theorem dX8_hurt_69 : decode cX8_hurt 69 = .ok (.if_icmp .ge 55, 3) := by decide +kernel
theorem dX8_hurt_72 : decode cX8_hurt 72 = .ok (.aload_n 0, 1) := by decide +kernel
theorem dX8_hurt_73 : decode cX8_hurt 73 = .ok (.getfield 60, 3) := by decide +kernel
theorem dX8_hurt_76 : decode cX8_hurt 76 = .ok (.getfield 123, 3) := by decide +kernel
theorem dX8_hurt_79 : decode cX8_hurt 79 = .ok (.iload 5, 2) := by decide +kernel
theorem dX8_hurt_81 : decode cX8_hurt 81 = .ok (.iaload, 1) := by decide +kernel
theorem dX8_hurt_82 : decode cX8_hurt 82 = .ok (.iload_n 1, 1) := by decide +kernel
theorem dX8_hurt_83 : decode cX8_hurt 83 = .ok (.if_icmp .eq 35, 3) := by decide +kernel
theorem dX8_hurt_86 : decode cX8_hurt 86 = .ok (.aload_n 0, 1) := by decide +kernel
theorem dX8_hurt_87 : decode cX8_hurt 87 = .ok (.getfield 28, 3) := by decide +kernel
theorem dX8_hurt_90 : decode cX8_hurt 90 = .ok (.iload_n 2, 1) := by decide +kernel
theorem dX8_hurt_91 : decode cX8_hurt 91 = .ok (.iload 5, 2) := by decide +kernel
theorem dX8_hurt_93 : decode cX8_hurt 93 = .ok (.invokevirtual 164, 3) := by decide +kernel
theorem dX8_hurt_96 : decode cX8_hurt 96 = .ok (.aload_n 0, 1) := by decide +kernel
theorem dX8_hurt_97 : decode cX8_hurt 97 = .ok (.getfield 28, 3) := by decide +kernel
theorem dX8_hurt_100 : decode cX8_hurt 100 = .ok (.iload_n 3, 1) := by decide +kernel
theorem dX8_hurt_101 : decode cX8_hurt 101 = .ok (.iload 5, 2) := by decide +kernel
theorem dX8_hurt_103 : decode cX8_hurt 103 = .ok (.invokevirtual 164, 3) := by decide +kernel
theorem dX8_hurt_106 : decode cX8_hurt 106 = .ok (.if_icmp .ge 12, 3) := by decide +kernel
theorem dX8_hurt_109 : decode cX8_hurt 109 = .ok (.iload 4, 2) := by decide +kernel
theorem dX8_hurt_111 : decode cX8_hurt 111 = .ok (.iconst 1, 1) := by decide +kernel
theorem dX8_hurt_112 : decode cX8_hurt 112 = .ok (.iload 5, 2) := by decide +kernel
theorem dX8_hurt_114 : decode cX8_hurt 114 = .ok (.ishl, 1) := by decide +kernel
theorem dX8_hurt_115 : decode cX8_hurt 115 = .ok (.ior, 1) := by decide +kernel
theorem dX8_hurt_116 : decode cX8_hurt 116 = .ok (.istore 4, 2) := by decide +kernel
theorem dX8_hurt_118 : decode cX8_hurt 118 = .ok (.iinc 5 1, 3) := by decide +kernel
theorem dX8_hurt_121 : decode cX8_hurt 121 = .ok (.goto (-61), 3) := by decide +kernel
theorem dX8_hurt_124 : decode cX8_hurt 124 = .ok (.iload 4, 2) := by decide +kernel
theorem dX8_hurt_126 : decode cX8_hurt 126 = .ok (.ireturn, 1) := by decide +kernel
theorem dX8_edge_0 : decode cX8_edge 0 = .ok (.aload_n 0, 1) := by decide +kernel
theorem dX8_edge_1 : decode cX8_edge 1 = .ok (.iload_n 1, 1) := by decide +kernel
theorem dX8_edge_2 : decode cX8_edge 2 = .ok (.invokevirtual 84, 3) := by decide +kernel
theorem dX8_edge_5 : decode cX8_edge 5 = .ok (.ifCond .ne 5, 3) := by decide +kernel
theorem dX8_edge_8 : decode cX8_edge 8 = .ok (.iconst (-1), 1) := by decide +kernel
theorem dX8_edge_9 : decode cX8_edge 9 = .ok (.ireturn, 1) := by decide +kernel
theorem dX8_edge_10 : decode cX8_edge 10 = .ok (.aload_n 0, 1) := by decide +kernel
theorem dX8_edge_11 : decode cX8_edge 11 = .ok (.getfield 10, 3) := by decide +kernel
theorem dX8_edge_14 : decode cX8_edge 14 = .ok (.aload_n 0, 1) := by decide +kernel
theorem dX8_edge_15 : decode cX8_edge 15 = .ok (.getfield 60, 3) := by decide +kernel
theorem dX8_edge_18 : decode cX8_edge 18 = .ok (.invokevirtual 205, 3) := by decide +kernel
theorem dX8_edge_21 : decode cX8_edge 21 = .ok (.bipush (-6), 2) := by decide +kernel
theorem dX8_edge_23 : decode cX8_edge 23 = .ok (.if_icmp .ne 7, 3) := by decide +kernel
theorem dX8_edge_26 : decode cX8_edge 26 = .ok (.iconst 1, 1) := by decide +kernel
theorem dX8_edge_27 : decode cX8_edge 27 = .ok (.goto 4, 3) := by decide +kernel
theorem dX8_edge_30 : decode cX8_edge 30 = .ok (.iconst 0, 1) := by decide +kernel
theorem dX8_edge_31 : decode cX8_edge 31 = .ok (.istore_n 2, 1) := by decide +kernel
theorem dX8_edge_32 : decode cX8_edge 32 = .ok (.aload_n 0, 1) := by decide +kernel
theorem dX8_edge_33 : decode cX8_edge 33 = .ok (.getfield 23, 3) := by decide +kernel
theorem dX8_edge_36 : decode cX8_edge 36 = .ok (.getfield 234, 3) := by decide +kernel
theorem dX8_edge_39 : decode cX8_edge 39 = .ok (.iload_n 1, 1) := by decide +kernel
theorem dX8_edge_40 : decode cX8_edge 40 = .ok (.iaload, 1) := by decide +kernel
theorem dX8_edge_41 : decode cX8_edge 41 = .ok (.istore_n 3, 1) := by decide +kernel
theorem dX8_edge_42 : decode cX8_edge 42 = .ok (.aload_n 0, 1) := by decide +kernel
theorem dX8_edge_43 : decode cX8_edge 43 = .ok (.getfield 16, 3) := by decide +kernel
theorem dX8_edge_46 : decode cX8_edge 46 = .ok (.getfield 19, 3) := by decide +kernel
theorem dX8_edge_49 : decode cX8_edge 49 = .ok (.aload_n 0, 1) := by decide +kernel
theorem dX8_edge_50 : decode cX8_edge 50 = .ok (.getfield 23, 3) := by decide +kernel
theorem dX8_edge_53 : decode cX8_edge 53 = .ok (.invokevirtual 201, 3) := by decide +kernel
theorem dX8_edge_56 : decode cX8_edge 56 = .ok (.iconst 1, 1) := by decide +kernel
theorem dX8_edge_57 : decode cX8_edge 57 = .ok (.istore 4, 2) := by decide +kernel
theorem dX8_edge_59 : decode cX8_edge 59 = .ok (.iload 4, 2) := by decide +kernel
theorem dX8_edge_61 : decode cX8_edge 61 = .ok (.bipush 98, 2) := by decide +kernel
theorem dX8_edge_63 : decode cX8_edge 63 = .ok (.if_icmp .gt 45, 3) := by decide +kernel
theorem dX8_edge_66 : decode cX8_edge 66 = .ok (.aload_n 0, 1) := by decide +kernel
theorem dX8_edge_67 : decode cX8_edge 67 = .ok (.iload_n 1, 1) := by decide +kernel
theorem dX8_edge_68 : decode cX8_edge 68 = .ok (.iload_n 3, 1) := by decide +kernel
theorem dX8_edge_69 : decode cX8_edge 69 = .ok (.iload 4, 2) := by decide +kernel
theorem dX8_edge_71 : decode cX8_edge 71 = .ok (.isub, 1) := by decide +kernel
theorem dX8_edge_72 : decode cX8_edge 72 = .ok (.iload_n 2, 1) := by decide +kernel
theorem dX8_edge_73 : decode cX8_edge 73 = .ok (.invokevirtual 237, 3) := by decide +kernel
theorem dX8_edge_76 : decode cX8_edge 76 = .ok (.ifCond .eq 8, 3) := by decide +kernel
theorem dX8_edge_79 : decode cX8_edge 79 = .ok (.iload_n 3, 1) := by decide +kernel
theorem dX8_edge_80 : decode cX8_edge 80 = .ok (.iload 4, 2) := by decide +kernel
theorem dX8_edge_82 : decode cX8_edge 82 = .ok (.isub, 1) := by decide +kernel
theorem dX8_edge_83 : decode cX8_edge 83 = .ok (.ireturn, 1) := by decide +kernel
theorem dX8_edge_84 : decode cX8_edge 84 = .ok (.aload_n 0, 1) := by decide +kernel
theorem dX8_edge_85 : decode cX8_edge 85 = .ok (.iload_n 1, 1) := by decide +kernel
theorem dX8_edge_86 : decode cX8_edge 86 = .ok (.iload_n 3, 1) := by decide +kernel
theorem dX8_edge_87 : decode cX8_edge 87 = .ok (.iload 4, 2) := by decide +kernel
theorem dX8_edge_89 : decode cX8_edge 89 = .ok (.iadd, 1) := by decide +kernel
theorem dX8_edge_90 : decode cX8_edge 90 = .ok (.iload_n 2, 1) := by decide +kernel
theorem dX8_edge_91 : decode cX8_edge 91 = .ok (.invokevirtual 237, 3) := by decide +kernel
theorem dX8_edge_94 : decode cX8_edge 94 = .ok (.ifCond .eq 8, 3) := by decide +kernel
theorem dX8_edge_97 : decode cX8_edge 97 = .ok (.iload_n 3, 1) := by decide +kernel
theorem dX8_edge_98 : decode cX8_edge 98 = .ok (.iload 4, 2) := by decide +kernel
theorem dX8_edge_100 : decode cX8_edge 100 = .ok (.iadd, 1) := by decide +kernel
theorem dX8_edge_101 : decode cX8_edge 101 = .ok (.ireturn, 1) := by decide +kernel
theorem dX8_edge_102 : decode cX8_edge 102 = .ok (.iinc 4 1, 3) := by decide +kernel
theorem dX8_edge_105 : decode cX8_edge 105 = .ok (.goto (-46), 3) := by decide +kernel
theorem dX8_edge_108 : decode cX8_edge 108 = .ok (.bipush (-6), 2) := by decide +kernel
theorem dX8_edge_110 : decode cX8_edge 110 = .ok (.ireturn, 1) := by decide +kernel
theorem dX8_turnsStay_0 : decode cX8_turnsStay 0 = .ok (.iconst 1, 1) := by decide +kernel
theorem dX8_turnsStay_1 : decode cX8_turnsStay 1 = .ok (.iload_n 2, 1) := by decide +kernel
theorem dX8_turnsStay_2 : decode cX8_turnsStay 2 = .ok (.invokestatic 67, 3) := by decide +kernel
theorem dX8_turnsStay_5 : decode cX8_turnsStay 5 = .ok (.ifCond .ne 5, 3) := by decide +kernel
theorem dX8_turnsStay_8 : decode cX8_turnsStay 8 = .ok (.iconst 0, 1) := by decide +kernel
theorem dX8_turnsStay_9 : decode cX8_turnsStay 9 = .ok (.ireturn, 1) := by decide +kernel
theorem dX8_turnsStay_10 : decode cX8_turnsStay 10 = .ok (.aload_n 0, 1) := by decide +kernel
theorem dX8_turnsStay_11 : decode cX8_turnsStay 11 = .ok (.getfield 16, 3) := by decide +kernel
theorem dX8_turnsStay_14 : decode cX8_turnsStay 14 = .ok (.getfield 19, 3) := by decide +kernel
theorem dX8_turnsStay_17 : decode cX8_turnsStay 17 = .ok (.iconst 1, 1) := by decide +kernel
theorem dX8_turnsStay_18 : decode cX8_turnsStay 18 = .ok (.iload_n 1, 1) := by decide +kernel
theorem dX8_turnsStay_19 : decode cX8_turnsStay 19 = .ok (.iload_n 2, 1) := by decide +kernel
theorem dX8_turnsStay_20 : decode cX8_turnsStay 20 = .ok (.invokevirtual 92, 3) := by decide +kernel
theorem dX8_turnsStay_23 : decode cX8_turnsStay 23 = .ok (.aload_n 0, 1) := by decide +kernel
theorem dX8_turnsStay_24 : decode cX8_turnsStay 24 = .ok (.getfield 16, 3) := by decide +kernel
theorem dX8_turnsStay_27 : decode cX8_turnsStay 27 = .ok (.aload_n 0, 1) := by decide +kernel
theorem dX8_turnsStay_28 : decode cX8_turnsStay 28 = .ok (.getfield 60, 3) := by decide +kernel
theorem dX8_turnsStay_31 : decode cX8_turnsStay 31 = .ok (.invokevirtual 205, 3) := by decide +kernel
theorem dX8_turnsStay_34 : decode cX8_turnsStay 34 = .ok (.bipush (-6), 2) := by decide +kernel
theorem dX8_turnsStay_36 : decode cX8_turnsStay 36 = .ok (.if_icmp .ne 7, 3) := by decide +kernel
theorem dX8_turnsStay_39 : decode cX8_turnsStay 39 = .ok (.iconst 1, 1) := by decide +kernel
theorem dX8_turnsStay_40 : decode cX8_turnsStay 40 = .ok (.goto 4, 3) := by decide +kernel
theorem dX8_turnsStay_43 : decode cX8_turnsStay 43 = .ok (.iconst 0, 1) := by decide +kernel
theorem dX8_turnsStay_44 : decode cX8_turnsStay 44 = .ok (.iload_n 3, 1) := by decide +kernel
theorem dX8_turnsStay_45 : decode cX8_turnsStay 45 = .ok (.if_icmp .eq 7, 3) := by decide +kernel
theorem dX8_turnsStay_48 : decode cX8_turnsStay 48 = .ok (.iconst 1, 1) := by decide +kernel
theorem dX8_turnsStay_49 : decode cX8_turnsStay 49 = .ok (.goto 4, 3) := by decide +kernel
theorem dX8_turnsStay_52 : decode cX8_turnsStay 52 = .ok (.iconst 0, 1) := by decide +kernel
theorem dX8_turnsStay_53 : decode cX8_turnsStay 53 = .ok (.ireturn, 1) := by decide +kernel
theorem dX8_told_0 : decode cX8_told 0 = .ok (.iload_n 1, 1) := by decide +kernel
theorem dX8_told_1 : decode cX8_told 1 = .ok (.bipush 10, 2) := by decide +kernel
theorem dX8_told_3 : decode cX8_told 3 = .ok (.if_icmp .lt 38, 3) := by decide +kernel
theorem dX8_told_6 : decode cX8_told 6 = .ok (.iload_n 1, 1) := by decide +kernel
theorem dX8_told_7 : decode cX8_told 7 = .ok (.bipush 15, 2) := by decide +kernel
theorem dX8_told_9 : decode cX8_told 9 = .ok (.if_icmp .gt 32, 3) := by decide +kernel
theorem dX8_told_12 : decode cX8_told 12 = .ok (.aload_n 0, 1) := by decide +kernel
theorem dX8_told_13 : decode cX8_told 13 = .ok (.iload_n 1, 1) := by decide +kernel
theorem dX8_told_14 : decode cX8_told 14 = .ok (.bipush 10, 2) := by decide +kernel
theorem dX8_told_16 : decode cX8_told 16 = .ok (.isub, 1) := by decide +kernel
theorem dX8_told_17 : decode cX8_told 17 = .ok (.invokevirtual 84, 3) := by decide +kernel
theorem dX8_told_20 : decode cX8_told 20 = .ok (.ifCond .eq 18, 3) := by decide +kernel
theorem dX8_told_23 : decode cX8_told 23 = .ok (.aload_n 0, 1) := by decide +kernel
theorem dX8_told_24 : decode cX8_told 24 = .ok (.getfield 23, 3) := by decide +kernel
theorem dX8_told_27 : decode cX8_told 27 = .ok (.getfield 234, 3) := by decide +kernel
theorem dX8_told_30 : decode cX8_told 30 = .ok (.iload_n 1, 1) := by decide +kernel
theorem dX8_told_31 : decode cX8_told 31 = .ok (.bipush 10, 2) := by decide +kernel
theorem dX8_told_33 : decode cX8_told 33 = .ok (.isub, 1) := by decide +kernel
theorem dX8_told_34 : decode cX8_told 34 = .ok (.iaload, 1) := by decide +kernel
theorem dX8_told_35 : decode cX8_told 35 = .ok (.goto 5, 3) := by decide +kernel
theorem dX8_told_38 : decode cX8_told 38 = .ok (.bipush (-6), 2) := by decide +kernel
theorem dX8_told_40 : decode cX8_told 40 = .ok (.ireturn, 1) := by decide +kernel
theorem dX8_told_41 : decode cX8_told 41 = .ok (.iload_n 1, 1) := by decide +kernel
theorem dX8_told_42 : decode cX8_told 42 = .ok (.tableswitch 74 0 4 #[34, 42, 50, 58, 66], 34) := by decide +kernel
theorem dX8_told_76 : decode cX8_told 76 = .ok (.aload_n 0, 1) := by decide +kernel
theorem dX8_told_77 : decode cX8_told 77 = .ok (.getfield 23, 3) := by decide +kernel
theorem dX8_told_80 : decode cX8_told 80 = .ok (.getfield 73, 3) := by decide +kernel
theorem dX8_told_83 : decode cX8_told 83 = .ok (.ireturn, 1) := by decide +kernel
theorem dX8_told_84 : decode cX8_told 84 = .ok (.aload_n 0, 1) := by decide +kernel
theorem dX8_told_85 : decode cX8_told 85 = .ok (.getfield 53, 3) := by decide +kernel
theorem dX8_told_88 : decode cX8_told 88 = .ok (.getfield 109, 3) := by decide +kernel
theorem dX8_told_91 : decode cX8_told 91 = .ok (.ireturn, 1) := by decide +kernel
theorem dX8_told_92 : decode cX8_told 92 = .ok (.aload_n 0, 1) := by decide +kernel
theorem dX8_told_93 : decode cX8_told 93 = .ok (.getfield 23, 3) := by decide +kernel
theorem dX8_told_96 : decode cX8_told 96 = .ok (.getfield 96, 3) := by decide +kernel
theorem dX8_told_99 : decode cX8_told 99 = .ok (.ireturn, 1) := by decide +kernel
theorem dX8_told_100 : decode cX8_told 100 = .ok (.aload_n 0, 1) := by decide +kernel
theorem dX8_told_101 : decode cX8_told 101 = .ok (.getfield 23, 3) := by decide +kernel
theorem dX8_told_104 : decode cX8_told 104 = .ok (.getfield 99, 3) := by decide +kernel
theorem dX8_told_107 : decode cX8_told 107 = .ok (.ireturn, 1) := by decide +kernel
theorem dX8_told_108 : decode cX8_told 108 = .ok (.aload_n 0, 1) := by decide +kernel
theorem dX8_told_109 : decode cX8_told 109 = .ok (.getfield 60, 3) := by decide +kernel
theorem dX8_told_112 : decode cX8_told 112 = .ok (.getfield 120, 3) := by decide +kernel
theorem dX8_told_115 : decode cX8_told 115 = .ok (.ireturn, 1) := by decide +kernel
theorem dX8_told_116 : decode cX8_told 116 = .ok (.bipush (-2), 2) := by decide +kernel
theorem dX8_told_118 : decode cX8_told 118 = .ok (.ireturn, 1) := by decide +kernel
theorem dX8_isLand_0 : decode cX8_isLand 0 = .ok (.iload_n 1, 1) := by decide +kernel
theorem dX8_isLand_1 : decode cX8_isLand 1 = .ok (.ifCond .lt 18, 3) := by decide +kernel
theorem dX8_isLand_4 : decode cX8_isLand 4 = .ok (.iload_n 1, 1) := by decide +kernel
theorem dX8_isLand_5 : decode cX8_isLand 5 = .ok (.aload_n 0, 1) := by decide +kernel
theorem dX8_isLand_6 : decode cX8_isLand 6 = .ok (.getfield 23, 3) := by decide +kernel
theorem dX8_isLand_9 : decode cX8_isLand 9 = .ok (.getfield 73, 3) := by decide +kernel
theorem dX8_isLand_12 : decode cX8_isLand 12 = .ok (.if_icmp .ge 7, 3) := by decide +kernel
theorem dX8_isLand_15 : decode cX8_isLand 15 = .ok (.iconst 1, 1) := by decide +kernel
theorem dX8_isLand_16 : decode cX8_isLand 16 = .ok (.goto 4, 3) := by decide +kernel
theorem dX8_isLand_19 : decode cX8_isLand 19 = .ok (.iconst 0, 1) := by decide +kernel
theorem dX8_isLand_20 : decode cX8_isLand 20 = .ok (.ireturn, 1) := by decide +kernel
theorem dX8_isUnion_0 : decode cX8_isUnion 0 = .ok (.iload_n 1, 1) := by decide +kernel
theorem dX8_isUnion_1 : decode cX8_isUnion 1 = .ok (.ifCond .lt 18, 3) := by decide +kernel
theorem dX8_isUnion_4 : decode cX8_isUnion 4 = .ok (.iload_n 1, 1) := by decide +kernel
theorem dX8_isUnion_5 : decode cX8_isUnion 5 = .ok (.aload_n 0, 1) := by decide +kernel
theorem dX8_isUnion_6 : decode cX8_isUnion 6 = .ok (.getfield 60, 3) := by decide +kernel
theorem dX8_isUnion_9 : decode cX8_isUnion 9 = .ok (.getfield 120, 3) := by decide +kernel
theorem dX8_isUnion_12 : decode cX8_isUnion 12 = .ok (.if_icmp .ge 7, 3) := by decide +kernel
theorem dX8_isUnion_15 : decode cX8_isUnion 15 = .ok (.iconst 1, 1) := by decide +kernel
theorem dX8_isUnion_16 : decode cX8_isUnion 16 = .ok (.goto 4, 3) := by decide +kernel
theorem dX8_isUnion_19 : decode cX8_isUnion 19 = .ok (.iconst 0, 1) := by decide +kernel
theorem dX8_isUnion_20 : decode cX8_isUnion 20 = .ok (.ireturn, 1) := by decide +kernel
theorem dX8_isRest_0 : decode cX8_isRest 0 = .ok (.iload_n 0, 1) := by decide +kernel
theorem dX8_isRest_1 : decode cX8_isRest 1 = .ok (.ifCond .lt 12, 3) := by decide +kernel
theorem dX8_isRest_4 : decode cX8_isRest 4 = .ok (.iload_n 0, 1) := by decide +kernel
theorem dX8_isRest_5 : decode cX8_isRest 5 = .ok (.iconst 3, 1) := by decide +kernel
theorem dX8_isRest_6 : decode cX8_isRest 6 = .ok (.if_icmp .ge 7, 3) := by decide +kernel
theorem dX8_isRest_9 : decode cX8_isRest 9 = .ok (.iconst 1, 1) := by decide +kernel
theorem dX8_isRest_10 : decode cX8_isRest 10 = .ok (.goto 4, 3) := by decide +kernel
theorem dX8_isRest_13 : decode cX8_isRest 13 = .ok (.iconst 0, 1) := by decide +kernel
theorem dX8_isRest_14 : decode cX8_isRest 14 = .ok (.ireturn, 1) := by decide +kernel
