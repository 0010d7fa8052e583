theorem dX10_explore_41 : decode cX10_explore 41 = .ok (.getfield 32, 3) := by decide +kernel
theorem dX10_explore_44 : decode cX10_explore 44 = .ok (.getfield 64, 3) := by decide +kernel
theorem dX10_explore_47 : decode cX10_explore 47 = .ok (.iconst 4, 1) := by decide +kernel
theorem dX10_explore_48 : decode cX10_explore 48 = .ok (.iaload, 1) := by decide +kernel
theorem dX10_explore_49 : decode cX10_explore 49 = .ok (.if_icmp .ge 60, 3) := by decide +kernel
theorem dX10_explore_52 : decode cX10_explore 52 = .ok (.aload_n 0, 1) := by decide +kernel
theorem dX10_explore_53 : decode cX10_explore 53 = .ok (.getfield 32, 3) := by decide +kernel
theorem dX10_explore_56 : decode cX10_explore 56 = .ok (.getfield 69, 3) := by decide +kernel
theorem dX10_explore_59 : decode cX10_explore 59 = .ok (.iload_n 2, 1) := by decide +kernel
theorem dX10_explore_60 : decode cX10_explore 60 = .ok (.aaload, 1) := by decide +kernel
theorem dX10_explore_61 : decode cX10_explore 61 = .ok (.iload 6, 2) := by decide +kernel
theorem dX10_explore_63 : decode cX10_explore 63 = .ok (.iaload, 1) := by decide +kernel
theorem dX10_explore_64 : decode cX10_explore 64 = .ok (.istore 7, 2) := by decide +kernel
theorem dX10_explore_66 : decode cX10_explore 66 = .ok (.iload 7, 2) := by decide +kernel
theorem dX10_explore_68 : decode cX10_explore 68 = .ok (.ifCond .le 35, 3) := by decide +kernel
theorem dX10_explore_71 : decode cX10_explore 71 = .ok (.iload 5, 2) := by decide +kernel
theorem dX10_explore_73 : decode cX10_explore 73 = .ok (.iload 6, 2) := by decide +kernel
theorem dX10_explore_75 : decode cX10_explore 75 = .ok (.ishr, 1) := by decide +kernel
theorem dX10_explore_76 : decode cX10_explore 76 = .ok (.iconst 1, 1) := by decide +kernel
theorem dX10_explore_77 : decode cX10_explore 77 = .ok (.iand, 1) := by decide +kernel
theorem dX10_explore_78 : decode cX10_explore 78 = .ok (.ifCond .ne 25, 3) := by decide +kernel
theorem dX10_explore_81 : decode cX10_explore 81 = .ok (.aload_n 0, 1) := by decide +kernel
theorem dX10_explore_82 : decode cX10_explore 82 = .ok (.iload_n 1, 1) := by decide +kernel
theorem dX10_explore_83 : decode cX10_explore 83 = .ok (.iconst 1, 1) := by decide +kernel
theorem dX10_explore_84 : decode cX10_explore 84 = .ok (.iadd, 1) := by decide +kernel
theorem dX10_explore_85 : decode cX10_explore 85 = .ok (.iload 6, 2) := by decide +kernel
theorem dX10_explore_87 : decode cX10_explore 87 = .ok (.iload_n 3, 1) := by decide +kernel
theorem dX10_explore_88 : decode cX10_explore 88 = .ok (.iload 7, 2) := by decide +kernel
theorem dX10_explore_90 : decode cX10_explore 90 = .ok (.iadd, 1) := by decide +kernel
theorem dX10_explore_91 : decode cX10_explore 91 = .ok (.iload 4, 2) := by decide +kernel
theorem dX10_explore_93 : decode cX10_explore 93 = .ok (.iload 5, 2) := by decide +kernel
theorem dX10_explore_95 : decode cX10_explore 95 = .ok (.iconst 1, 1) := by decide +kernel
theorem dX10_explore_96 : decode cX10_explore 96 = .ok (.iload 6, 2) := by decide +kernel
theorem dX10_explore_98 : decode cX10_explore 98 = .ok (.ishl, 1) := by decide +kernel
theorem dX10_explore_99 : decode cX10_explore 99 = .ok (.ior, 1) := by decide +kernel
theorem dX10_explore_100 : decode cX10_explore 100 = .ok (.invokevirtual 49, 3) := by decide +kernel
theorem dX10_explore_103 : decode cX10_explore 103 = .ok (.iinc 6 1, 3) := by decide +kernel
theorem dX10_explore_106 : decode cX10_explore 106 = .ok (.goto (-68), 3) := by decide +kernel
theorem dX10_explore_109 : decode cX10_explore 109 = .ok (.return_, 1) := by decide +kernel
theorem dX10_add_0 : decode cX10_add 0 = .ok (.aload_n 0, 1) := by decide +kernel
theorem dX10_add_1 : decode cX10_add 1 = .ok (.getfield 40, 3) := by decide +kernel
theorem dX10_add_4 : decode cX10_add 4 = .ok (.bipush 65, 2) := by decide +kernel
theorem dX10_add_6 : decode cX10_add 6 = .ok (.if_icmp .ge 61, 3) := by decide +kernel
theorem dX10_add_9 : decode cX10_add 9 = .ok (.aload_n 0, 1) := by decide +kernel
theorem dX10_add_10 : decode cX10_add 10 = .ok (.getfield 11, 3) := by decide +kernel
theorem dX10_add_13 : decode cX10_add 13 = .ok (.aload_n 0, 1) := by decide +kernel
theorem dX10_add_14 : decode cX10_add 14 = .ok (.getfield 40, 3) := by decide +kernel
theorem dX10_add_17 : decode cX10_add 17 = .ok (.iload_n 1, 1) := by decide +kernel
theorem dX10_add_18 : decode cX10_add 18 = .ok (.iastore, 1) := by decide +kernel
theorem dX10_add_19 : decode cX10_add 19 = .ok (.aload_n 0, 1) := by decide +kernel
theorem dX10_add_20 : decode cX10_add 20 = .ok (.getfield 26, 3) := by decide +kernel
theorem dX10_add_23 : decode cX10_add 23 = .ok (.iconst 0, 1) := by decide +kernel
theorem dX10_add_24 : decode cX10_add 24 = .ok (.aload_n 0, 1) := by decide +kernel
theorem dX10_add_25 : decode cX10_add 25 = .ok (.getfield 17, 3) := by decide +kernel
theorem dX10_add_28 : decode cX10_add 28 = .ok (.aload_n 0, 1) := by decide +kernel
theorem dX10_add_29 : decode cX10_add 29 = .ok (.getfield 40, 3) := by decide +kernel
theorem dX10_add_32 : decode cX10_add 32 = .ok (.aaload, 1) := by decide +kernel
theorem dX10_add_33 : decode cX10_add 33 = .ok (.iconst 0, 1) := by decide +kernel
theorem dX10_add_34 : decode cX10_add 34 = .ok (.iload_n 1, 1) := by decide +kernel
theorem dX10_add_35 : decode cX10_add 35 = .ok (.invokestatic 72, 3) := by decide +kernel
theorem dX10_add_38 : decode cX10_add 38 = .ok (.aload_n 0, 1) := by decide +kernel
theorem dX10_add_39 : decode cX10_add 39 = .ok (.getfield 29, 3) := by decide +kernel
theorem dX10_add_42 : decode cX10_add 42 = .ok (.iconst 0, 1) := by decide +kernel
theorem dX10_add_43 : decode cX10_add 43 = .ok (.aload_n 0, 1) := by decide +kernel
theorem dX10_add_44 : decode cX10_add 44 = .ok (.getfield 20, 3) := by decide +kernel
theorem dX10_add_47 : decode cX10_add 47 = .ok (.aload_n 0, 1) := by decide +kernel
theorem dX10_add_48 : decode cX10_add 48 = .ok (.getfield 40, 3) := by decide +kernel
theorem dX10_add_51 : decode cX10_add 51 = .ok (.aaload, 1) := by decide +kernel
theorem dX10_add_52 : decode cX10_add 52 = .ok (.iconst 0, 1) := by decide +kernel
theorem dX10_add_53 : decode cX10_add 53 = .ok (.iload_n 1, 1) := by decide +kernel
theorem dX10_add_54 : decode cX10_add 54 = .ok (.invokestatic 72, 3) := by decide +kernel
theorem dX10_add_57 : decode cX10_add 57 = .ok (.aload_n 0, 1) := by decide +kernel
theorem dX10_add_58 : decode cX10_add 58 = .ok (.dup, 1) := by decide +kernel
theorem dX10_add_59 : decode cX10_add 59 = .ok (.getfield 40, 3) := by decide +kernel
theorem dX10_add_62 : decode cX10_add 62 = .ok (.iconst 1, 1) := by decide +kernel
theorem dX10_add_63 : decode cX10_add 63 = .ok (.iadd, 1) := by decide +kernel
theorem dX10_add_64 : decode cX10_add 64 = .ok (.putfield 40, 3) := by decide +kernel
theorem dX10_add_67 : decode cX10_add 67 = .ok (.return_, 1) := by decide +kernel
theorem dX10_dutyAlong_0 : decode cX10_dutyAlong 0 = .ok (.iconst 0, 1) := by decide +kernel
theorem dX10_dutyAlong_1 : decode cX10_dutyAlong 1 = .ok (.istore 4, 2) := by decide +kernel
theorem dX10_dutyAlong_3 : decode cX10_dutyAlong 3 = .ok (.iconst 1, 1) := by decide +kernel
theorem dX10_dutyAlong_4 : decode cX10_dutyAlong 4 = .ok (.istore 5, 2) := by decide +kernel
theorem dX10_dutyAlong_6 : decode cX10_dutyAlong 6 = .ok (.iload 5, 2) := by decide +kernel
theorem dX10_dutyAlong_8 : decode cX10_dutyAlong 8 = .ok (.aload_n 0, 1) := by decide +kernel
theorem dX10_dutyAlong_9 : decode cX10_dutyAlong 9 = .ok (.getfield 11, 3) := by decide +kernel
theorem dX10_dutyAlong_12 : decode cX10_dutyAlong 12 = .ok (.iload_n 1, 1) := by decide +kernel
theorem dX10_dutyAlong_13 : decode cX10_dutyAlong 13 = .ok (.iaload, 1) := by decide +kernel
theorem dX10_dutyAlong_14 : decode cX10_dutyAlong 14 = .ok (.if_icmp .ge 69, 3) := by decide +kernel
theorem dX10_dutyAlong_17 : decode cX10_dutyAlong 17 = .ok (.aload_n 0, 1) := by decide +kernel
theorem dX10_dutyAlong_18 : decode cX10_dutyAlong 18 = .ok (.getfield 17, 3) := by decide +kernel
theorem dX10_dutyAlong_21 : decode cX10_dutyAlong 21 = .ok (.iload_n 1, 1) := by decide +kernel
theorem dX10_dutyAlong_22 : decode cX10_dutyAlong 22 = .ok (.aaload, 1) := by decide +kernel
theorem dX10_dutyAlong_23 : decode cX10_dutyAlong 23 = .ok (.iload 5, 2) := by decide +kernel
theorem dX10_dutyAlong_25 : decode cX10_dutyAlong 25 = .ok (.iaload, 1) := by decide +kernel
theorem dX10_dutyAlong_26 : decode cX10_dutyAlong 26 = .ok (.istore 6, 2) := by decide +kernel
theorem dX10_dutyAlong_28 : decode cX10_dutyAlong 28 = .ok (.aload_n 0, 1) := by decide +kernel
theorem dX10_dutyAlong_29 : decode cX10_dutyAlong 29 = .ok (.getfield 36, 3) := by decide +kernel
theorem dX10_dutyAlong_32 : decode cX10_dutyAlong 32 = .ok (.aload_n 2, 1) := by decide +kernel
theorem dX10_dutyAlong_33 : decode cX10_dutyAlong 33 = .ok (.aload_n 0, 1) := by decide +kernel
theorem dX10_dutyAlong_34 : decode cX10_dutyAlong 34 = .ok (.getfield 20, 3) := by decide +kernel
theorem dX10_dutyAlong_37 : decode cX10_dutyAlong 37 = .ok (.iload_n 1, 1) := by decide +kernel
theorem dX10_dutyAlong_38 : decode cX10_dutyAlong 38 = .ok (.aaload, 1) := by decide +kernel
theorem dX10_dutyAlong_39 : decode cX10_dutyAlong 39 = .ok (.iload 5, 2) := by decide +kernel
theorem dX10_dutyAlong_41 : decode cX10_dutyAlong 41 = .ok (.iaload, 1) := by decide +kernel
theorem dX10_dutyAlong_42 : decode cX10_dutyAlong 42 = .ok (.iconst 0, 1) := by decide +kernel
theorem dX10_dutyAlong_43 : decode cX10_dutyAlong 43 = .ok (.invokevirtual 78, 3) := by decide +kernel
theorem dX10_dutyAlong_46 : decode cX10_dutyAlong 46 = .ok (.iload 4, 2) := by decide +kernel
theorem dX10_dutyAlong_48 : decode cX10_dutyAlong 48 = .ok (.aload_n 0, 1) := by decide +kernel
theorem dX10_dutyAlong_49 : decode cX10_dutyAlong 49 = .ok (.getfield 36, 3) := by decide +kernel
theorem dX10_dutyAlong_52 : decode cX10_dutyAlong 52 = .ok (.iload_n 3, 1) := by decide +kernel
theorem dX10_dutyAlong_53 : decode cX10_dutyAlong 53 = .ok (.iload 6, 2) := by decide +kernel
theorem dX10_dutyAlong_55 : decode cX10_dutyAlong 55 = .ok (.aload_n 0, 1) := by decide +kernel
theorem dX10_dutyAlong_56 : decode cX10_dutyAlong 56 = .ok (.getfield 32, 3) := by decide +kernel
theorem dX10_dutyAlong_59 : decode cX10_dutyAlong 59 = .ok (.iload 6, 2) := by decide +kernel
theorem dX10_dutyAlong_61 : decode cX10_dutyAlong 61 = .ok (.aload_n 0, 1) := by decide +kernel
theorem dX10_dutyAlong_62 : decode cX10_dutyAlong 62 = .ok (.getfield 32, 3) := by decide +kernel
theorem dX10_dutyAlong_65 : decode cX10_dutyAlong 65 = .ok (.getfield 84, 3) := by decide +kernel
theorem dX10_dutyAlong_68 : decode cX10_dutyAlong 68 = .ok (.invokevirtual 87, 3) := by decide +kernel
theorem dX10_dutyAlong_71 : decode cX10_dutyAlong 71 = .ok (.invokevirtual 91, 3) := by decide +kernel
theorem dX10_dutyAlong_74 : decode cX10_dutyAlong 74 = .ok (.iadd, 1) := by decide +kernel
theorem dX10_dutyAlong_75 : decode cX10_dutyAlong 75 = .ok (.istore 4, 2) := by decide +kernel
theorem dX10_dutyAlong_77 : decode cX10_dutyAlong 77 = .ok (.iinc 5 1, 3) := by decide +kernel
theorem dX10_dutyAlong_80 : decode cX10_dutyAlong 80 = .ok (.goto (-74), 3) := by decide +kernel
theorem dX10_dutyAlong_83 : decode cX10_dutyAlong 83 = .ok (.iload 4, 2) := by decide +kernel
theorem dX10_dutyAlong_85 : decode cX10_dutyAlong 85 = .ok (.ireturn, 1) := by decide +kernel
theorem dX10_hoursOf_0 : decode cX10_hoursOf 0 = .ok (.aload_n 0, 1) := by decide +kernel
theorem dX10_hoursOf_1 : decode cX10_hoursOf 1 = .ok (.getfield 11, 3) := by decide +kernel
theorem dX10_hoursOf_4 : decode cX10_hoursOf 4 = .ok (.iload_n 1, 1) := by decide +kernel
theorem dX10_hoursOf_5 : decode cX10_hoursOf 5 = .ok (.iaload, 1) := by decide +kernel
theorem dX10_hoursOf_6 : decode cX10_hoursOf 6 = .ok (.iconst 1, 1) := by decide +kernel
theorem dX10_hoursOf_7 : decode cX10_hoursOf 7 = .ok (.isub, 1) := by decide +kernel
theorem dX10_hoursOf_8 : decode cX10_hoursOf 8 = .ok (.istore_n 2, 1) := by decide +kernel
theorem dX10_hoursOf_9 : decode cX10_hoursOf 9 = .ok (.iload_n 2, 1) := by decide +kernel
theorem dX10_hoursOf_10 : decode cX10_hoursOf 10 = .ok (.ifCond .ge 7, 3) := by decide +kernel
theorem dX10_hoursOf_13 : decode cX10_hoursOf 13 = .ok (.iconst 0, 1) := by decide +kernel
theorem dX10_hoursOf_14 : decode cX10_hoursOf 14 = .ok (.goto 11, 3) := by decide +kernel
theorem dX10_hoursOf_17 : decode cX10_hoursOf 17 = .ok (.aload_n 0, 1) := by decide +kernel
theorem dX10_hoursOf_18 : decode cX10_hoursOf 18 = .ok (.getfield 20, 3) := by decide +kernel
theorem dX10_hoursOf_21 : decode cX10_hoursOf 21 = .ok (.iload_n 1, 1) := by decide +kernel
theorem dX10_hoursOf_22 : decode cX10_hoursOf 22 = .ok (.aaload, 1) := by decide +kernel
theorem dX10_hoursOf_23 : decode cX10_hoursOf 23 = .ok (.iload_n 2, 1) := by decide +kernel
theorem dX10_hoursOf_24 : decode cX10_hoursOf 24 = .ok (.iaload, 1) := by decide +kernel
theorem dX10_hoursOf_25 : decode cX10_hoursOf 25 = .ok (.ireturn, 1) := by decide +kernel
theorem dX10_pick_0 : decode cX10_pick 0 = .ok (.iconst (-1), 1) := by decide +kernel
theorem dX10_pick_1 : decode cX10_pick 1 = .ok (.istore_n 2, 1) := by decide +kernel
theorem dX10_pick_2 : decode cX10_pick 2 = .ok (.iconst 0, 1) := by decide +kernel
theorem dX10_pick_3 : decode cX10_pick 3 = .ok (.istore_n 3, 1) := by decide +kernel
theorem dX10_pick_4 : decode cX10_pick 4 = .ok (.iload_n 3, 1) := by decide +kernel
theorem dX10_pick_5 : decode cX10_pick 5 = .ok (.aload_n 0, 1) := by decide +kernel
theorem dX10_pick_6 : decode cX10_pick 6 = .ok (.getfield 40, 3) := by decide +kernel
theorem dX10_pick_9 : decode cX10_pick 9 = .ok (.if_icmp .ge 52, 3) := by decide +kernel
theorem dX10_pick_12 : decode cX10_pick 12 = .ok (.iload_n 1, 1) := by decide +kernel
theorem dX10_pick_13 : decode cX10_pick 13 = .ok (.iconst 2, 1) := by decide +kernel
theorem dX10_pick_14 : decode cX10_pick 14 = .ok (.if_icmp .ne 12, 3) := by decide +kernel
theorem dX10_pick_17 : decode cX10_pick 17 = .ok (.aload_n 0, 1) := by decide +kernel
theorem dX10_pick_18 : decode cX10_pick 18 = .ok (.getfield 23, 3) := by decide +kernel
theorem dX10_pick_21 : decode cX10_pick 21 = .ok (.iload_n 3, 1) := by decide +kernel
theorem dX10_pick_22 : decode cX10_pick 22 = .ok (.iaload, 1) := by decide +kernel
theorem dX10_pick_23 : decode cX10_pick 23 = .ok (.ifCond .ne 7, 3) := by decide +kernel
theorem dX10_pick_26 : decode cX10_pick 26 = .ok (.iconst 1, 1) := by decide +kernel
theorem dX10_pick_27 : decode cX10_pick 27 = .ok (.goto 4, 3) := by decide +kernel
theorem dX10_pick_30 : decode cX10_pick 30 = .ok (.iconst 0, 1) := by decide +kernel
theorem dX10_pick_31 : decode cX10_pick 31 = .ok (.istore 4, 2) := by decide +kernel
theorem dX10_pick_33 : decode cX10_pick 33 = .ok (.iload 4, 2) := by decide +kernel
theorem dX10_pick_35 : decode cX10_pick 35 = .ok (.ifCond .eq 20, 3) := by decide +kernel
theorem dX10_pick_38 : decode cX10_pick 38 = .ok (.iload_n 2, 1) := by decide +kernel
theorem dX10_pick_39 : decode cX10_pick 39 = .ok (.iconst (-1), 1) := by decide +kernel
theorem dX10_pick_40 : decode cX10_pick 40 = .ok (.if_icmp .eq 13, 3) := by decide +kernel
theorem dX10_pick_43 : decode cX10_pick 43 = .ok (.aload_n 0, 1) := by decide +kernel
theorem dX10_pick_44 : decode cX10_pick 44 = .ok (.iload_n 1, 1) := by decide +kernel
theorem dX10_pick_45 : decode cX10_pick 45 = .ok (.iload_n 3, 1) := by decide +kernel
theorem dX10_pick_46 : decode cX10_pick 46 = .ok (.iload_n 2, 1) := by decide +kernel
theorem dX10_pick_47 : decode cX10_pick 47 = .ok (.invokevirtual 95, 3) := by decide +kernel
theorem dX10_pick_50 : decode cX10_pick 50 = .ok (.ifCond .eq 5, 3) := by decide +kernel
theorem dX10_pick_53 : decode cX10_pick 53 = .ok (.iload_n 3, 1) := by decide +kernel
theorem dX10_pick_54 : decode cX10_pick 54 = .ok (.istore_n 2, 1) := by decide +kernel
theorem dX10_pick_55 : decode cX10_pick 55 = .ok (.iinc 3 1, 3) := by decide +kernel
theorem dX10_pick_58 : decode cX10_pick 58 = .ok (.goto (-54), 3) := by decide +kernel
theorem dX10_pick_61 : decode cX10_pick 61 = .ok (.iload_n 2, 1) := by decide +kernel
theorem dX10_pick_62 : decode cX10_pick 62 = .ok (.ireturn, 1) := by decide +kernel
theorem dX10_isBetter_0 : decode cX10_isBetter 0 = .ok (.iload_n 1, 1) := by decide +kernel
theorem dX10_isBetter_1 : decode cX10_isBetter 1 = .ok (.iconst 1, 1) := by decide +kernel
theorem dX10_isBetter_2 : decode cX10_isBetter 2 = .ok (.if_icmp .ne 39, 3) := by decide +kernel
theorem dX10_isBetter_5 : decode cX10_isBetter 5 = .ok (.aload_n 0, 1) := by decide +kernel
theorem dX10_isBetter_6 : decode cX10_isBetter 6 = .ok (.getfield 23, 3) := by decide +kernel
theorem dX10_isBetter_9 : decode cX10_isBetter 9 = .ok (.iload_n 2, 1) := by decide +kernel
theorem dX10_isBetter_10 : decode cX10_isBetter 10 = .ok (.iaload, 1) := by decide +kernel
theorem dX10_isBetter_11 : decode cX10_isBetter 11 = .ok (.aload_n 0, 1) := by decide +kernel
theorem dX10_isBetter_12 : decode cX10_isBetter 12 = .ok (.getfield 23, 3) := by decide +kernel
theorem dX10_isBetter_15 : decode cX10_isBetter 15 = .ok (.iload_n 3, 1) := by decide +kernel
theorem dX10_isBetter_16 : decode cX10_isBetter 16 = .ok (.iaload, 1) := by decide +kernel
theorem dX10_isBetter_17 : decode cX10_isBetter 17 = .ok (.if_icmp .eq 24, 3) := by decide +kernel
theorem dX10_isBetter_20 : decode cX10_isBetter 20 = .ok (.aload_n 0, 1) := by decide +kernel
theorem dX10_isBetter_21 : decode cX10_isBetter 21 = .ok (.getfield 23, 3) := by decide +kernel
theorem dX10_isBetter_24 : decode cX10_isBetter 24 = .ok (.iload_n 2, 1) := by decide +kernel
theorem dX10_isBetter_25 : decode cX10_isBetter 25 = .ok (.iaload, 1) := by decide +kernel
theorem dX10_isBetter_26 : decode cX10_isBetter 26 = .ok (.aload_n 0, 1) := by decide +kernel
theorem dX10_isBetter_27 : decode cX10_isBetter 27 = .ok (.getfield 23, 3) := by decide +kernel
theorem dX10_isBetter_30 : decode cX10_isBetter 30 = .ok (.iload_n 3, 1) := by decide +kernel
theorem dX10_isBetter_31 : decode cX10_isBetter 31 = .ok (.iaload, 1) := by decide +kernel
theorem dX10_isBetter_32 : decode cX10_isBetter 32 = .ok (.if_icmp .ge 7, 3) := by decide +kernel
theorem dX10_isBetter_35 : decode cX10_isBetter 35 = .ok (.iconst 1, 1) := by decide +kernel
theorem dX10_isBetter_36 : decode cX10_isBetter 36 = .ok (.goto 4, 3) := by decide +kernel
theorem dX10_isBetter_39 : decode cX10_isBetter 39 = .ok (.iconst 0, 1) := by decide +kernel
theorem dX10_isBetter_40 : decode cX10_isBetter 40 = .ok (.ireturn, 1) := by decide +kernel
theorem dX10_isBetter_41 : decode cX10_isBetter 41 = .ok (.aload_n 0, 1) := by decide +kernel
theorem dX10_isBetter_42 : decode cX10_isBetter 42 = .ok (.iload_n 2, 1) := by decide +kernel
theorem dX10_isBetter_43 : decode cX10_isBetter 43 = .ok (.invokevirtual 99, 3) := by decide +kernel
theorem dX10_isBetter_46 : decode cX10_isBetter 46 = .ok (.aload_n 0, 1) := by decide +kernel
theorem dX10_isBetter_47 : decode cX10_isBetter 47 = .ok (.iload_n 3, 1) := by decide +kernel
theorem dX10_isBetter_48 : decode cX10_isBetter 48 = .ok (.invokevirtual 99, 3) := by decide +kernel
theorem dX10_isBetter_51 : decode cX10_isBetter 51 = .ok (.if_icmp .ge 7, 3) := by decide +kernel
theorem dX10_isBetter_54 : decode cX10_isBetter 54 = .ok (.iconst 1, 1) := by decide +kernel
theorem dX10_isBetter_55 : decode cX10_isBetter 55 = .ok (.goto 4, 3) := by decide +kernel
theorem dX10_isBetter_58 : decode cX10_isBetter 58 = .ok (.iconst 0, 1) := by decide +kernel
theorem dX10_isBetter_59 : decode cX10_isBetter 59 = .ok (.ireturn, 1) := by decide +kernel
theorem dX11_init_0 : decode cX11_init 0 = .ok (.aload_n 0, 1) := by decide +kernel
theorem dX11_init_1 : decode cX11_init 1 = .ok (.invokespecial 1, 3) := by decide +kernel
theorem dX11_init_4 : decode cX11_init 4 = .ok (.aload_n 0, 1) := by decide +kernel
theorem dX11_init_5 : decode cX11_init 5 = .ok (.sipush 1100, 3) := by decide +kernel
theorem dX11_init_8 : decode cX11_init 8 = .ok (.newarray .int, 2) := by decide +kernel
theorem dX11_init_10 : decode cX11_init 10 = .ok (.putfield 9, 3) := by decide +kernel
theorem dX11_init_13 : decode cX11_init 13 = .ok (.aload_n 0, 1) := by decide +kernel
theorem dX11_init_14 : decode cX11_init 14 = .ok (.new 13, 3) := by decide +kernel
theorem dX11_init_17 : decode cX11_init 17 = .ok (.dup, 1) := by decide +kernel
theorem dX11_init_18 : decode cX11_init 18 = .ok (.invokespecial 15, 3) := by decide +kernel
theorem dX11_init_21 : decode cX11_init 21 = .ok (.putfield 16, 3) := by decide +kernel
theorem dX11_init_24 : decode cX11_init 24 = .ok (.aload_n 0, 1) := by decide +kernel
theorem dX11_init_25 : decode cX11_init 25 = .ok (.new 20, 3) := by decide +kernel
theorem dX11_init_28 : decode cX11_init 28 = .ok (.dup, 1) := by decide +kernel
theorem dX11_init_29 : decode cX11_init 29 = .ok (.aload_n 0, 1) := by decide +kernel
theorem dX11_init_30 : decode cX11_init 30 = .ok (.getfield 9, 3) := by decide +kernel
theorem dX11_init_33 : decode cX11_init 33 = .ok (.invokespecial 22, 3) := by decide +kernel
theorem dX11_init_36 : decode cX11_init 36 = .ok (.putfield 25, 3) := by decide +kernel
theorem dX11_init_39 : decode cX11_init 39 = .ok (.aload_n 0, 1) := by decide +kernel
theorem dX11_init_40 : decode cX11_init 40 = .ok (.new 29, 3) := by decide +kernel
theorem dX11_init_43 : decode cX11_init 43 = .ok (.dup, 1) := by decide +kernel
theorem dX11_init_44 : decode cX11_init 44 = .ok (.aload_n 0, 1) := by decide +kernel
theorem dX11_init_45 : decode cX11_init 45 = .ok (.getfield 16, 3) := by decide +kernel
theorem dX11_init_48 : decode cX11_init 48 = .ok (.invokespecial 31, 3) := by decide +kernel
theorem dX11_init_51 : decode cX11_init 51 = .ok (.putfield 34, 3) := by decide +kernel
theorem dX11_init_54 : decode cX11_init 54 = .ok (.aload_n 0, 1) := by decide +kernel
theorem dX11_init_55 : decode cX11_init 55 = .ok (.new 38, 3) := by decide +kernel
theorem dX11_init_58 : decode cX11_init 58 = .ok (.dup, 1) := by decide +kernel
theorem dX11_init_59 : decode cX11_init 59 = .ok (.aload_n 0, 1) := by decide +kernel
theorem dX11_init_60 : decode cX11_init 60 = .ok (.getfield 16, 3) := by decide +kernel
theorem dX11_init_63 : decode cX11_init 63 = .ok (.invokespecial 40, 3) := by decide +kernel
theorem dX11_init_66 : decode cX11_init 66 = .ok (.putfield 41, 3) := by decide +kernel
theorem dX11_init_69 : decode cX11_init 69 = .ok (.aload_n 0, 1) := by decide +kernel
theorem dX11_init_70 : decode cX11_init 70 = .ok (.new 45, 3) := by decide +kernel
theorem dX11_init_73 : decode cX11_init 73 = .ok (.dup, 1) := by decide +kernel
theorem dX11_init_74 : decode cX11_init 74 = .ok (.aload_n 0, 1) := by decide +kernel
theorem dX11_init_75 : decode cX11_init 75 = .ok (.getfield 16, 3) := by decide +kernel
theorem dX11_init_78 : decode cX11_init 78 = .ok (.aload_n 0, 1) := by decide +kernel
theorem dX11_init_79 : decode cX11_init 79 = .ok (.getfield 34, 3) := by decide +kernel
theorem dX11_init_82 : decode cX11_init 82 = .ok (.aload_n 0, 1) := by decide +kernel
theorem dX11_init_83 : decode cX11_init 83 = .ok (.getfield 41, 3) := by decide +kernel
theorem dX11_init_86 : decode cX11_init 86 = .ok (.invokespecial 47, 3) := by decide +kernel
theorem dX11_init_89 : decode cX11_init 89 = .ok (.putfield 50, 3) := by decide +kernel
theorem dX11_init_92 : decode cX11_init 92 = .ok (.aload_n 0, 1) := by decide +kernel
theorem dX11_init_93 : decode cX11_init 93 = .ok (.new 54, 3) := by decide +kernel
theorem dX11_init_96 : decode cX11_init 96 = .ok (.dup, 1) := by decide +kernel
theorem dX11_init_97 : decode cX11_init 97 = .ok (.aload_n 0, 1) := by decide +kernel
theorem dX11_init_98 : decode cX11_init 98 = .ok (.getfield 16, 3) := by decide +kernel
theorem dX11_init_101 : decode cX11_init 101 = .ok (.aload_n 0, 1) := by decide +kernel
theorem dX11_init_102 : decode cX11_init 102 = .ok (.getfield 34, 3) := by decide +kernel
theorem dX11_init_105 : decode cX11_init 105 = .ok (.invokespecial 56, 3) := by decide +kernel
theorem dX11_init_108 : decode cX11_init 108 = .ok (.putfield 59, 3) := by decide +kernel
theorem dX11_init_111 : decode cX11_init 111 = .ok (.aload_n 0, 1) := by decide +kernel
theorem dX11_init_112 : decode cX11_init 112 = .ok (.new 63, 3) := by decide +kernel
theorem dX11_init_115 : decode cX11_init 115 = .ok (.dup, 1) := by decide +kernel
theorem dX11_init_116 : decode cX11_init 116 = .ok (.aload_n 0, 1) := by decide +kernel
theorem dX11_init_117 : decode cX11_init 117 = .ok (.getfield 16, 3) := by decide +kernel
theorem dX11_init_120 : decode cX11_init 120 = .ok (.aload_n 0, 1) := by decide +kernel
theorem dX11_init_121 : decode cX11_init 121 = .ok (.getfield 34, 3) := by decide +kernel
theorem dX11_init_124 : decode cX11_init 124 = .ok (.invokespecial 65, 3) := by decide +kernel
theorem dX11_init_127 : decode cX11_init 127 = .ok (.putfield 66, 3) := by decide +kernel
theorem dX11_init_130 : decode cX11_init 130 = .ok (.aload_n 0, 1) := by decide +kernel
theorem dX11_init_131 : decode cX11_init 131 = .ok (.new 70, 3) := by decide +kernel
theorem dX11_init_134 : decode cX11_init 134 = .ok (.dup, 1) := by decide +kernel
theorem dX11_init_135 : decode cX11_init 135 = .ok (.aload_n 0, 1) := by decide +kernel
theorem dX11_init_136 : decode cX11_init 136 = .ok (.getfield 16, 3) := by decide +kernel
theorem dX11_init_139 : decode cX11_init 139 = .ok (.aload_n 0, 1) := by decide +kernel
theorem dX11_init_140 : decode cX11_init 140 = .ok (.getfield 50, 3) := by decide +kernel
theorem dX11_init_143 : decode cX11_init 143 = .ok (.invokespecial 72, 3) := by decide +kernel
theorem dX11_init_146 : decode cX11_init 146 = .ok (.putfield 75, 3) := by decide +kernel
theorem dX11_init_149 : decode cX11_init 149 = .ok (.aload_n 0, 1) := by decide +kernel
theorem dX11_init_150 : decode cX11_init 150 = .ok (.new 79, 3) := by decide +kernel
theorem dX11_init_153 : decode cX11_init 153 = .ok (.dup, 1) := by decide +kernel
theorem dX11_init_154 : decode cX11_init 154 = .ok (.aload_n 0, 1) := by decide +kernel
theorem dX11_init_155 : decode cX11_init 155 = .ok (.getfield 16, 3) := by decide +kernel
theorem dX11_init_158 : decode cX11_init 158 = .ok (.aload_n 0, 1) := by decide +kernel
theorem dX11_init_159 : decode cX11_init 159 = .ok (.getfield 34, 3) := by decide +kernel
theorem dX11_init_162 : decode cX11_init 162 = .ok (.aload_n 0, 1) := by decide +kernel
theorem dX11_init_163 : decode cX11_init 163 = .ok (.getfield 59, 3) := by decide +kernel
theorem dX11_init_166 : decode cX11_init 166 = .ok (.invokespecial 81, 3) := by decide +kernel
theorem dX11_init_169 : decode cX11_init 169 = .ok (.putfield 84, 3) := by decide +kernel
theorem dX11_init_172 : decode cX11_init 172 = .ok (.aload_n 0, 1) := by decide +kernel
theorem dX11_init_173 : decode cX11_init 173 = .ok (.bipush 6, 2) := by decide +kernel
theorem dX11_init_175 : decode cX11_init 175 = .ok (.newarray .int, 2) := by decide +kernel
theorem dX11_init_177 : decode cX11_init 177 = .ok (.putfield 88, 3) := by decide +kernel
theorem dX11_init_180 : decode cX11_init 180 = .ok (.aload_n 0, 1) := by decide +kernel
theorem dX11_init_181 : decode cX11_init 181 = .ok (.iconst (-1), 1) := by decide +kernel
theorem dX11_init_182 : decode cX11_init 182 = .ok (.putfield 91, 3) := by decide +kernel
theorem dX11_init_185 : decode cX11_init 185 = .ok (.return_, 1) := by decide +kernel
theorem dX11_feed_0 : decode cX11_feed 0 = .ok (.aload_n 0, 1) := by decide +kernel
theorem dX11_feed_1 : decode cX11_feed 1 = .ok (.getfield 95, 3) := by decide +kernel
theorem dX11_feed_4 : decode cX11_feed 4 = .ok (.bipush 20, 2) := by decide +kernel
theorem dX11_feed_6 : decode cX11_feed 6 = .ok (.iadd, 1) := by decide +kernel
theorem dX11_feed_7 : decode cX11_feed 7 = .ok (.sipush 1100, 3) := by decide +kernel
theorem dX11_feed_10 : decode cX11_feed 10 = .ok (.if_icmp .le 5, 3) := by decide +kernel
theorem dX11_feed_13 : decode cX11_feed 13 = .ok (.iconst (-1), 1) := by decide +kernel
theorem dX11_feed_14 : decode cX11_feed 14 = .ok (.ireturn, 1) := by decide +kernel
theorem dX11_feed_15 : decode cX11_feed 15 = .ok (.aload_n 0, 1) := by decide +kernel
theorem dX11_feed_16 : decode cX11_feed 16 = .ok (.iload_n 1, 1) := by decide +kernel
theorem dX11_feed_17 : decode cX11_feed 17 = .ok (.invokevirtual 98, 3) := by decide +kernel
theorem dX11_feed_20 : decode cX11_feed 20 = .ok (.aload_n 0, 1) := by decide +kernel
theorem dX11_feed_21 : decode cX11_feed 21 = .ok (.iload_n 2, 1) := by decide +kernel
theorem dX11_feed_22 : decode cX11_feed 22 = .ok (.invokevirtual 98, 3) := by decide +kernel
theorem dX11_feed_25 : decode cX11_feed 25 = .ok (.aload_n 0, 1) := by decide +kernel
theorem dX11_feed_26 : decode cX11_feed 26 = .ok (.iload_n 3, 1) := by decide +kernel
theorem dX11_feed_27 : decode cX11_feed 27 = .ok (.invokevirtual 98, 3) := by decide +kernel
theorem dX11_feed_30 : decode cX11_feed 30 = .ok (.aload_n 0, 1) := by decide +kernel
theorem dX11_feed_31 : decode cX11_feed 31 = .ok (.iload 4, 2) := by decide +kernel
theorem dX11_feed_33 : decode cX11_feed 33 = .ok (.invokevirtual 98, 3) := by decide +kernel
theorem dX11_feed_36 : decode cX11_feed 36 = .ok (.aload_n 0, 1) := by decide +kernel
theorem dX11_feed_37 : decode cX11_feed 37 = .ok (.iload 5, 2) := by decide +kernel
theorem dX11_feed_39 : decode cX11_feed 39 = .ok (.invokevirtual 98, 3) := by decide +kernel
theorem dX11_feed_42 : decode cX11_feed 42 = .ok (.aload_n 0, 1) := by decide +kernel
theorem dX11_feed_43 : decode cX11_feed 43 = .ok (.getfield 95, 3) := by decide +kernel
theorem dX11_feed_46 : decode cX11_feed 46 = .ok (.ireturn, 1) := by decide +kernel
theorem dX11_border_0 : decode cX11_border 0 = .ok (.iload_n 1, 1) := by decide +kernel
theorem dX11_border_1 : decode cX11_border 1 = .ok (.ifCond .lt 11, 3) := by decide +kernel
theorem dX11_border_4 : decode cX11_border 4 = .ok (.iload_n 1, 1) := by decide +kernel
theorem dX11_border_5 : decode cX11_border 5 = .ok (.aload_n 0, 1) := by decide +kernel
theorem dX11_border_6 : decode cX11_border 6 = .ok (.getfield 95, 3) := by decide +kernel
theorem dX11_border_9 : decode cX11_border 9 = .ok (.if_icmp .le 9, 3) := by decide +kernel
theorem dX11_border_12 : decode cX11_border 12 = .ok (.aload_n 0, 1) := by decide +kernel
theorem dX11_border_13 : decode cX11_border 13 = .ok (.iconst 2, 1) := by decide +kernel
theorem dX11_border_14 : decode cX11_border 14 = .ok (.invokevirtual 102, 3) := by decide +kernel
theorem dX11_border_17 : decode cX11_border 17 = .ok (.ireturn, 1) := by decide +kernel
theorem dX11_border_18 : decode cX11_border 18 = .ok (.aload_n 0, 1) := by decide +kernel
theorem dX11_border_19 : decode cX11_border 19 = .ok (.iconst 0, 1) := by decide +kernel
theorem dX11_border_20 : decode cX11_border 20 = .ok (.putfield 95, 3) := by decide +kernel
theorem dX11_border_23 : decode cX11_border 23 = .ok (.aload_n 0, 1) := by decide +kernel
theorem dX11_border_24 : decode cX11_border 24 = .ok (.getfield 25, 3) := by decide +kernel
theorem dX11_border_27 : decode cX11_border 27 = .ok (.iload_n 1, 1) := by decide +kernel
theorem dX11_border_28 : decode cX11_border 28 = .ok (.invokevirtual 106, 3) := by decide +kernel
theorem dX11_border_31 : decode cX11_border 31 = .ok (.istore_n 2, 1) := by decide +kernel
theorem dX11_border_32 : decode cX11_border 32 = .ok (.aload_n 0, 1) := by decide +kernel
theorem dX11_border_33 : decode cX11_border 33 = .ok (.aload_n 0, 1) := by decide +kernel
theorem dX11_border_34 : decode cX11_border 34 = .ok (.getfield 25, 3) := by decide +kernel
theorem dX11_border_37 : decode cX11_border 37 = .ok (.getfield 110, 3) := by decide +kernel
theorem dX11_border_40 : decode cX11_border 40 = .ok (.putfield 113, 3) := by decide +kernel
theorem dX11_border_43 : decode cX11_border 43 = .ok (.aload_n 0, 1) := by decide +kernel
theorem dX11_border_44 : decode cX11_border 44 = .ok (.aload_n 0, 1) := by decide +kernel
theorem dX11_border_45 : decode cX11_border 45 = .ok (.getfield 25, 3) := by decide +kernel
theorem dX11_border_48 : decode cX11_border 48 = .ok (.getfield 114, 3) := by decide +kernel
theorem dX11_border_51 : decode cX11_border 51 = .ok (.putfield 91, 3) := by decide +kernel
theorem dX11_border_54 : decode cX11_border 54 = .ok (.iload_n 2, 1) := by decide +kernel
theorem dX11_border_55 : decode cX11_border 55 = .ok (.ifCond .ne 9, 3) := by decide +kernel
theorem dX11_border_58 : decode cX11_border 58 = .ok (.aload_n 0, 1) := by decide +kernel
theorem dX11_border_59 : decode cX11_border 59 = .ok (.iconst 4, 1) := by decide +kernel
theorem dX11_border_60 : decode cX11_border 60 = .ok (.invokevirtual 102, 3) := by decide +kernel
theorem dX11_border_63 : decode cX11_border 63 = .ok (.ireturn, 1) := by decide +kernel
theorem dX11_border_64 : decode cX11_border 64 = .ok (.aload_n 0, 1) := by decide +kernel
theorem dX11_border_65 : decode cX11_border 65 = .ok (.getfield 16, 3) := by decide +kernel
theorem dX11_border_68 : decode cX11_border 68 = .ok (.aload_n 0, 1) := by decide +kernel
theorem dX11_border_69 : decode cX11_border 69 = .ok (.getfield 25, 3) := by decide +kernel
theorem dX11_border_72 : decode cX11_border 72 = .ok (.getfield 115, 3) := by decide +kernel
theorem dX11_border_75 : decode cX11_border 75 = .ok (.invokevirtual 118, 3) := by decide +kernel
theorem dX11_border_78 : decode cX11_border 78 = .ok (.aload_n 0, 1) := by decide +kernel
theorem dX11_border_79 : decode cX11_border 79 = .ok (.getfield 41, 3) := by decide +kernel
theorem dX11_border_82 : decode cX11_border 82 = .ok (.invokevirtual 121, 3) := by decide +kernel
theorem dX11_border_85 : decode cX11_border 85 = .ok (.aload_n 0, 1) := by decide +kernel
theorem dX11_border_86 : decode cX11_border 86 = .ok (.aload_n 0, 1) := by decide +kernel
theorem dX11_border_87 : decode cX11_border 87 = .ok (.getfield 16, 3) := by decide +kernel
theorem dX11_border_90 : decode cX11_border 90 = .ok (.getfield 124, 3) := by decide +kernel
theorem dX11_border_93 : decode cX11_border 93 = .ok (.iconst 4, 1) := by decide +kernel
theorem dX11_border_94 : decode cX11_border 94 = .ok (.iaload, 1) := by decide +kernel
theorem dX11_border_95 : decode cX11_border 95 = .ok (.invokevirtual 127, 3) := by decide +kernel
theorem dX11_border_98 : decode cX11_border 98 = .ok (.ireturn, 1) := by decide +kernel
theorem dX11_fault_0 : decode cX11_fault 0 = .ok (.aload_n 0, 1) := by decide +kernel
theorem dX11_fault_1 : decode cX11_fault 1 = .ok (.getfield 113, 3) := by decide +kernel
theorem dX11_fault_4 : decode cX11_fault 4 = .ok (.ireturn, 1) := by decide +kernel
theorem dX11_where_0 : decode cX11_where 0 = .ok (.aload_n 0, 1) := by decide +kernel
theorem dX11_where_1 : decode cX11_where 1 = .ok (.getfield 130, 3) := by decide +kernel
theorem dX11_where_4 : decode cX11_where 4 = .ok (.iconst 4, 1) := by decide +kernel
theorem dX11_where_5 : decode cX11_where 5 = .ok (.if_icmp .ne 10, 3) := by decide +kernel
theorem dX11_where_8 : decode cX11_where 8 = .ok (.aload_n 0, 1) := by decide +kernel
theorem dX11_where_9 : decode cX11_where 9 = .ok (.getfield 91, 3) := by decide +kernel
theorem dX11_where_12 : decode cX11_where 12 = .ok (.goto 4, 3) := by decide +kernel
theorem dX11_where_15 : decode cX11_where 15 = .ok (.iconst (-1), 1) := by decide +kernel
theorem dX11_where_16 : decode cX11_where 16 = .ok (.ireturn, 1) := by decide +kernel
theorem dX11_smell_0 : decode cX11_smell 0 = .ok (.aload_n 0, 1) := by decide +kernel
theorem dX11_smell_1 : decode cX11_smell 1 = .ok (.iconst 2, 1) := by decide +kernel
theorem dX11_smell_2 : decode cX11_smell 2 = .ok (.iload_n 1, 1) := by decide +kernel
theorem dX11_smell_3 : decode cX11_smell 3 = .ok (.invokevirtual 133, 3) := by decide +kernel
theorem dX11_smell_6 : decode cX11_smell 6 = .ok (.ifCond .eq 12, 3) := by decide +kernel
theorem dX11_smell_9 : decode cX11_smell 9 = .ok (.iload_n 2, 1) := by decide +kernel
theorem dX11_smell_10 : decode cX11_smell 10 = .ok (.ifCond .lt 8, 3) := by decide +kernel
theorem dX11_smell_13 : decode cX11_smell 13 = .ok (.iload_n 2, 1) := by decide +kernel
theorem dX11_smell_14 : decode cX11_smell 14 = .ok (.iconst 2, 1) := by decide +kernel
theorem dX11_smell_15 : decode cX11_smell 15 = .ok (.if_icmp .le 9, 3) := by decide +kernel
theorem dX11_smell_18 : decode cX11_smell 18 = .ok (.aload_n 0, 1) := by decide +kernel
theorem dX11_smell_19 : decode cX11_smell 19 = .ok (.iconst 1, 1) := by decide +kernel
theorem dX11_smell_20 : decode cX11_smell 20 = .ok (.invokevirtual 102, 3) := by decide +kernel
theorem dX11_smell_23 : decode cX11_smell 23 = .ok (.ireturn, 1) := by decide +kernel
theorem dX11_smell_24 : decode cX11_smell 24 = .ok (.iload_n 2, 1) := by decide +kernel
theorem dX11_smell_25 : decode cX11_smell 25 = .ok (.ifCond .ne 17, 3) := by decide +kernel
theorem dX11_smell_28 : decode cX11_smell 28 = .ok (.aload_n 0, 1) := by decide +kernel
theorem dX11_smell_29 : decode cX11_smell 29 = .ok (.aload_n 0, 1) := by decide +kernel
theorem dX11_smell_30 : decode cX11_smell 30 = .ok (.getfield 16, 3) := by decide +kernel
theorem dX11_smell_33 : decode cX11_smell 33 = .ok (.getfield 137, 3) := by decide +kernel
theorem dX11_smell_36 : decode cX11_smell 36 = .ok (.iload_n 1, 1) := by decide +kernel
theorem dX11_smell_37 : decode cX11_smell 37 = .ok (.iaload, 1) := by decide +kernel
theorem dX11_smell_38 : decode cX11_smell 38 = .ok (.invokevirtual 127, 3) := by decide +kernel
theorem dX11_smell_41 : decode cX11_smell 41 = .ok (.ireturn, 1) := by decide +kernel
theorem dX11_smell_42 : decode cX11_smell 42 = .ok (.aload_n 0, 1) := by decide +kernel
theorem dX11_smell_43 : decode cX11_smell 43 = .ok (.getfield 16, 3) := by decide +kernel
theorem dX11_smell_46 : decode cX11_smell 46 = .ok (.getfield 140, 3) := by decide +kernel
theorem dX11_smell_49 : decode cX11_smell 49 = .ok (.iload_n 1, 1) := by decide +kernel
theorem dX11_smell_50 : decode cX11_smell 50 = .ok (.iaload, 1) := by decide +kernel
theorem dX11_smell_51 : decode cX11_smell 51 = .ok (.istore_n 3, 1) := by decide +kernel
theorem dX11_smell_52 : decode cX11_smell 52 = .ok (.aload_n 0, 1) := by decide +kernel
theorem dX11_smell_53 : decode cX11_smell 53 = .ok (.iload_n 2, 1) := by decide +kernel
theorem dX11_smell_54 : decode cX11_smell 54 = .ok (.iconst 1, 1) := by decide +kernel
theorem dX11_smell_55 : decode cX11_smell 55 = .ok (.if_icmp .ne 7, 3) := by decide +kernel
theorem dX11_smell_58 : decode cX11_smell 58 = .ok (.iload_n 3, 1) := by decide +kernel
theorem dX11_smell_59 : decode cX11_smell 59 = .ok (.goto 12, 3) := by decide +kernel
theorem dX11_smell_62 : decode cX11_smell 62 = .ok (.aload_n 0, 1) := by decide +kernel
theorem dX11_smell_63 : decode cX11_smell 63 = .ok (.getfield 16, 3) := by decide +kernel
theorem dX11_smell_66 : decode cX11_smell 66 = .ok (.getfield 143, 3) := by decide +kernel
theorem dX11_smell_69 : decode cX11_smell 69 = .ok (.iload_n 3, 1) := by decide +kernel
theorem dX11_smell_70 : decode cX11_smell 70 = .ok (.iaload, 1) := by decide +kernel
theorem dX11_smell_71 : decode cX11_smell 71 = .ok (.invokevirtual 127, 3) := by decide +kernel
theorem dX11_smell_74 : decode cX11_smell 74 = .ok (.ireturn, 1) := by decide +kernel
theorem dX11_place_0 : decode cX11_place 0 = .ok (.aload_n 0, 1) := by decide +kernel
theorem dX11_place_1 : decode cX11_place 1 = .ok (.iconst 4, 1) := by decide +kernel
theorem dX11_place_2 : decode cX11_place 2 = .ok (.iload_n 1, 1) := by decide +kernel
theorem dX11_place_3 : decode cX11_place 3 = .ok (.invokevirtual 133, 3) := by decide +kernel
theorem dX11_place_6 : decode cX11_place 6 = .ok (.ifCond .eq 12, 3) := by decide +kernel
theorem dX11_place_9 : decode cX11_place 9 = .ok (.iload_n 2, 1) := by decide +kernel
theorem dX11_place_10 : decode cX11_place 10 = .ok (.ifCond .lt 8, 3) := by decide +kernel
theorem dX11_place_13 : decode cX11_place 13 = .ok (.iload_n 2, 1) := by decide +kernel
theorem dX11_place_14 : decode cX11_place 14 = .ok (.iconst 2, 1) := by decide +kernel
theorem dX11_place_15 : decode cX11_place 15 = .ok (.if_icmp .le 9, 3) := by decide +kernel
theorem dX11_place_18 : decode cX11_place 18 = .ok (.aload_n 0, 1) := by decide +kernel
theorem dX11_place_19 : decode cX11_place 19 = .ok (.iconst 1, 1) := by decide +kernel
theorem dX11_place_20 : decode cX11_place 20 = .ok (.invokevirtual 102, 3) := by decide +kernel
theorem dX11_place_23 : decode cX11_place 23 = .ok (.ireturn, 1) := by decide +kernel
theorem dX11_place_24 : decode cX11_place 24 = .ok (.iload_n 2, 1) := by decide +kernel
theorem dX11_place_25 : decode cX11_place 25 = .ok (.ifCond .ne 17, 3) := by decide +kernel
theorem dX11_place_28 : decode cX11_place 28 = .ok (.aload_n 0, 1) := by decide +kernel
theorem dX11_place_29 : decode cX11_place 29 = .ok (.aload_n 0, 1) := by decide +kernel
theorem dX11_place_30 : decode cX11_place 30 = .ok (.getfield 16, 3) := by decide +kernel
theorem dX11_place_33 : decode cX11_place 33 = .ok (.getfield 146, 3) := by decide +kernel
theorem dX11_place_36 : decode cX11_place 36 = .ok (.iload_n 1, 1) := by decide +kernel
theorem dX11_place_37 : decode cX11_place 37 = .ok (.iaload, 1) := by decide +kernel
theorem dX11_place_38 : decode cX11_place 38 = .ok (.invokevirtual 127, 3) := by decide +kernel
theorem dX11_place_41 : decode cX11_place 41 = .ok (.ireturn, 1) := by decide +kernel
theorem dX11_place_42 : decode cX11_place 42 = .ok (.aload_n 0, 1) := by decide +kernel
theorem dX11_place_43 : decode cX11_place 43 = .ok (.iload_n 2, 1) := by decide +kernel
theorem dX11_place_44 : decode cX11_place 44 = .ok (.iconst 1, 1) := by decide +kernel
theorem dX11_place_45 : decode cX11_place 45 = .ok (.if_icmp .ne 15, 3) := by decide +kernel
theorem dX11_place_48 : decode cX11_place 48 = .ok (.aload_n 0, 1) := by decide +kernel
theorem dX11_place_49 : decode cX11_place 49 = .ok (.getfield 16, 3) := by decide +kernel
theorem dX11_place_52 : decode cX11_place 52 = .ok (.getfield 149, 3) := by decide +kernel
theorem dX11_place_55 : decode cX11_place 55 = .ok (.iload_n 1, 1) := by decide +kernel
theorem dX11_place_56 : decode cX11_place 56 = .ok (.iaload, 1) := by decide +kernel
theorem dX11_place_57 : decode cX11_place 57 = .ok (.goto 11, 3) := by decide +kernel
theorem dX11_place_60 : decode cX11_place 60 = .ok (.aload_n 0, 1) := by decide +kernel
theorem dX11_place_61 : decode cX11_place 61 = .ok (.getfield 16, 3) := by decide +kernel
theorem dX11_place_64 : decode cX11_place 64 = .ok (.iload_n 1, 1) := by decide +kernel
theorem dX11_place_65 : decode cX11_place 65 = .ok (.invokevirtual 152, 3) := by decide +kernel
theorem dX11_place_68 : decode cX11_place 68 = .ok (.invokevirtual 127, 3) := by decide +kernel
theorem dX11_place_71 : decode cX11_place 71 = .ok (.ireturn, 1) := by decide +kernel
theorem dX11_traveller_0 : decode cX11_traveller 0 = .ok (.aload_n 0, 1) := by decide +kernel
theorem dX11_traveller_1 : decode cX11_traveller 1 = .ok (.bipush 7, 2) := by decide +kernel
theorem dX11_traveller_3 : decode cX11_traveller 3 = .ok (.iload_n 1, 1) := by decide +kernel
theorem dX11_traveller_4 : decode cX11_traveller 4 = .ok (.invokevirtual 133, 3) := by decide +kernel
theorem dX11_traveller_7 : decode cX11_traveller 7 = .ok (.ifCond .eq 12, 3) := by decide +kernel
theorem dX11_traveller_10 : decode cX11_traveller 10 = .ok (.iload_n 2, 1) := by decide +kernel
theorem dX11_traveller_11 : decode cX11_traveller 11 = .ok (.ifCond .lt 8, 3) := by decide +kernel
theorem dX11_traveller_14 : decode cX11_traveller 14 = .ok (.iload_n 2, 1) := by decide +kernel
theorem dX11_traveller_15 : decode cX11_traveller 15 = .ok (.iconst 4, 1) := by decide +kernel
theorem dX11_traveller_16 : decode cX11_traveller 16 = .ok (.if_icmp .le 9, 3) := by decide +kernel
theorem dX11_traveller_19 : decode cX11_traveller 19 = .ok (.aload_n 0, 1) := by decide +kernel
theorem dX11_traveller_20 : decode cX11_traveller 20 = .ok (.iconst 1, 1) := by decide +kernel
theorem dX11_traveller_21 : decode cX11_traveller 21 = .ok (.invokevirtual 102, 3) := by decide +kernel
theorem dX11_traveller_24 : decode cX11_traveller 24 = .ok (.ireturn, 1) := by decide +kernel
theorem dX11_traveller_25 : decode cX11_traveller 25 = .ok (.aload_n 0, 1) := by decide +kernel
theorem dX11_traveller_26 : decode cX11_traveller 26 = .ok (.getfield 41, 3) := by decide +kernel
theorem dX11_traveller_29 : decode cX11_traveller 29 = .ok (.getfield 155, 3) := by decide +kernel
theorem dX11_traveller_32 : decode cX11_traveller 32 = .ok (.iload_n 1, 1) := by decide +kernel
theorem dX11_traveller_33 : decode cX11_traveller 33 = .ok (.aaload, 1) := by decide +kernel
theorem dX11_traveller_34 : decode cX11_traveller 34 = .ok (.astore_n 3, 1) := by decide +kernel
theorem dX11_traveller_35 : decode cX11_traveller 35 = .ok (.iload_n 2, 1) := by decide +kernel
theorem dX11_traveller_36 : decode cX11_traveller 36 = .ok (.tableswitch 78 0 3 #[32, 46, 60, 69], 32) := by decide +kernel
theorem dX11_traveller_68 : decode cX11_traveller 68 = .ok (.aload_n 0, 1) := by decide +kernel
theorem dX11_traveller_69 : decode cX11_traveller 69 = .ok (.aload_n 0, 1) := by decide +kernel
theorem dX11_traveller_70 : decode cX11_traveller 70 = .ok (.getfield 16, 3) := by decide +kernel
theorem dX11_traveller_73 : decode cX11_traveller 73 = .ok (.getfield 159, 3) := by decide +kernel
theorem dX11_traveller_76 : decode cX11_traveller 76 = .ok (.iload_n 1, 1) := by decide +kernel
theorem dX11_traveller_77 : decode cX11_traveller 77 = .ok (.iaload, 1) := by decide +kernel
theorem dX11_traveller_78 : decode cX11_traveller 78 = .ok (.invokevirtual 127, 3) := by decide +kernel
theorem dX11_traveller_81 : decode cX11_traveller 81 = .ok (.ireturn, 1) := by decide +kernel
theorem dX11_traveller_82 : decode cX11_traveller 82 = .ok (.aload_n 0, 1) := by decide +kernel
theorem dX11_traveller_83 : decode cX11_traveller 83 = .ok (.aload_n 0, 1) := by decide +kernel
theorem dX11_traveller_84 : decode cX11_traveller 84 = .ok (.getfield 16, 3) := by decide +kernel
theorem dX11_traveller_87 : decode cX11_traveller 87 = .ok (.getfield 162, 3) := by decide +kernel
theorem dX11_traveller_90 : decode cX11_traveller 90 = .ok (.iload_n 1, 1) := by decide +kernel
theorem dX11_traveller_91 : decode cX11_traveller 91 = .ok (.iaload, 1) := by decide +kernel
theorem dX11_traveller_92 : decode cX11_traveller 92 = .ok (.invokevirtual 127, 3) := by decide +kernel
theorem dX11_traveller_95 : decode cX11_traveller 95 = .ok (.ireturn, 1) := by decide +kernel
theorem dX11_traveller_96 : decode cX11_traveller 96 = .ok (.aload_n 0, 1) := by decide +kernel
theorem dX11_traveller_97 : decode cX11_traveller 97 = .ok (.aload_n 3, 1) := by decide +kernel
theorem dX11_traveller_98 : decode cX11_traveller 98 = .ok (.getfield 165, 3) := by decide +kernel
theorem dX11_traveller_101 : decode cX11_traveller 101 = .ok (.invokevirtual 127, 3) := by decide +kernel
theorem dX11_traveller_104 : decode cX11_traveller 104 = .ok (.ireturn, 1) := by decide +kernel
theorem dX11_traveller_105 : decode cX11_traveller 105 = .ok (.aload_n 0, 1) := by decide +kernel
theorem dX11_traveller_106 : decode cX11_traveller 106 = .ok (.aload_n 3, 1) := by decide +kernel
theorem dX11_traveller_107 : decode cX11_traveller 107 = .ok (.getfield 170, 3) := by decide +kernel
theorem dX11_traveller_110 : decode cX11_traveller 110 = .ok (.invokevirtual 127, 3) := by decide +kernel
theorem dX11_traveller_113 : decode cX11_traveller 113 = .ok (.ireturn, 1) := by decide +kernel
theorem dX11_traveller_114 : decode cX11_traveller 114 = .ok (.aload_n 0, 1) := by decide +kernel
theorem dX11_traveller_115 : decode cX11_traveller 115 = .ok (.aload_n 3, 1) := by decide +kernel
theorem dX11_traveller_116 : decode cX11_traveller 116 = .ok (.getfield 173, 3) := by decide +kernel
theorem dX11_traveller_119 : decode cX11_traveller 119 = .ok (.invokevirtual 127, 3) := by decide +kernel
theorem dX11_traveller_122 : decode cX11_traveller 122 = .ok (.ireturn, 1) := by decide +kernel
theorem dX11_path_0 : decode cX11_path 0 = .ok (.aload_n 0, 1) := by decide +kernel
theorem dX11_path_1 : decode cX11_path 1 = .ok (.iconst 4, 1) := by decide +kernel
theorem dX11_path_2 : decode cX11_path 2 = .ok (.iload_n 1, 1) := by decide +kernel
theorem dX11_path_3 : decode cX11_path 3 = .ok (.invokevirtual 133, 3) := by decide +kernel
theorem dX11_path_6 : decode cX11_path 6 = .ok (.ifCond .eq 17, 3) := by decide +kernel
theorem dX11_path_9 : decode cX11_path 9 = .ok (.aload_n 0, 1) := by decide +kernel
theorem dX11_path_10 : decode cX11_path 10 = .ok (.iconst 4, 1) := by decide +kernel
theorem dX11_path_11 : decode cX11_path 11 = .ok (.iload_n 2, 1) := by decide +kernel
theorem dX11_path_12 : decode cX11_path 12 = .ok (.invokevirtual 133, 3) := by decide +kernel
theorem dX11_path_15 : decode cX11_path 15 = .ok (.ifCond .eq 8, 3) := by decide +kernel
theorem dX11_path_18 : decode cX11_path 18 = .ok (.iload_n 1, 1) := by decide +kernel
theorem dX11_path_19 : decode cX11_path 19 = .ok (.iload_n 2, 1) := by decide +kernel
theorem dX11_path_20 : decode cX11_path 20 = .ok (.if_icmp .ne 9, 3) := by decide +kernel
theorem dX11_path_23 : decode cX11_path 23 = .ok (.aload_n 0, 1) := by decide +kernel
theorem dX11_path_24 : decode cX11_path 24 = .ok (.iconst 1, 1) := by decide +kernel
theorem dX11_path_25 : decode cX11_path 25 = .ok (.invokevirtual 102, 3) := by decide +kernel
theorem dX11_path_28 : decode cX11_path 28 = .ok (.ireturn, 1) := by decide +kernel
theorem dX11_path_29 : decode cX11_path 29 = .ok (.aload_n 0, 1) := by decide +kernel
theorem dX11_path_30 : decode cX11_path 30 = .ok (.getfield 16, 3) := by decide +kernel
theorem dX11_path_33 : decode cX11_path 33 = .ok (.getfield 176, 3) := by decide +kernel
theorem dX11_path_36 : decode cX11_path 36 = .ok (.iload_n 1, 1) := by decide +kernel
theorem dX11_path_37 : decode cX11_path 37 = .ok (.aaload, 1) := by decide +kernel
theorem dX11_path_38 : decode cX11_path 38 = .ok (.iload_n 2, 1) := by decide +kernel
theorem dX11_path_39 : decode cX11_path 39 = .ok (.iaload, 1) := by decide +kernel
theorem dX11_path_40 : decode cX11_path 40 = .ok (.istore_n 3, 1) := by decide +kernel
theorem dX11_path_41 : decode cX11_path 41 = .ok (.aload_n 0, 1) := by decide +kernel
theorem dX11_path_42 : decode cX11_path 42 = .ok (.iload_n 3, 1) := by decide +kernel
theorem dX11_path_43 : decode cX11_path 43 = .ok (.ifCond .ne 8, 3) := by decide +kernel
theorem dX11_path_46 : decode cX11_path 46 = .ok (.bipush (-2), 2) := by decide +kernel
theorem dX11_path_48 : decode cX11_path 48 = .ok (.goto 4, 3) := by decide +kernel
theorem dX11_path_51 : decode cX11_path 51 = .ok (.iload_n 3, 1) := by decide +kernel
theorem dX11_path_52 : decode cX11_path 52 = .ok (.invokevirtual 127, 3) := by decide +kernel
theorem dX11_path_55 : decode cX11_path 55 = .ok (.ireturn, 1) := by decide +kernel
theorem dX11_strength_0 : decode cX11_strength 0 = .ok (.aload_n 0, 1) := by decide +kernel
theorem dX11_strength_1 : decode cX11_strength 1 = .ok (.iload_n 1, 1) := by decide +kernel
theorem dX11_strength_2 : decode cX11_strength 2 = .ok (.iconst 2, 1) := by decide +kernel
theorem dX11_strength_3 : decode cX11_strength 3 = .ok (.iload_n 2, 1) := by decide +kernel
theorem dX11_strength_4 : decode cX11_strength 4 = .ok (.iload_n 3, 1) := by decide +kernel
theorem dX11_strength_5 : decode cX11_strength 5 = .ok (.invokevirtual 179, 3) := by decide +kernel
theorem dX11_strength_8 : decode cX11_strength 8 = .ok (.istore 4, 2) := by decide +kernel
theorem dX11_strength_10 : decode cX11_strength 10 = .ok (.iload 4, 2) := by decide +kernel
theorem dX11_strength_12 : decode cX11_strength 12 = .ok (.ifCond .eq 10, 3) := by decide +kernel
theorem dX11_strength_15 : decode cX11_strength 15 = .ok (.aload_n 0, 1) := by decide +kernel
theorem dX11_strength_16 : decode cX11_strength 16 = .ok (.iload 4, 2) := by decide +kernel
theorem dX11_strength_18 : decode cX11_strength 18 = .ok (.invokevirtual 102, 3) := by decide +kernel
theorem dX11_strength_21 : decode cX11_strength 21 = .ok (.ireturn, 1) := by decide +kernel
theorem dX11_strength_22 : decode cX11_strength 22 = .ok (.aload_n 0, 1) := by decide +kernel
theorem dX11_strength_23 : decode cX11_strength 23 = .ok (.getfield 34, 3) := by decide +kernel
theorem dX11_strength_26 : decode cX11_strength 26 = .ok (.aload_n 0, 1) := by decide +kernel
theorem dX11_strength_27 : decode cX11_strength 27 = .ok (.getfield 41, 3) := by decide +kernel
theorem dX11_strength_30 : decode cX11_strength 30 = .ok (.getfield 155, 3) := by decide +kernel
theorem dX11_strength_33 : decode cX11_strength 33 = .ok (.iload_n 1, 1) := by decide +kernel
theorem dX11_strength_34 : decode cX11_strength 34 = .ok (.aaload, 1) := by decide +kernel
theorem dX11_strength_35 : decode cX11_strength 35 = .ok (.getfield 183, 3) := by decide +kernel
theorem dX11_strength_38 : decode cX11_strength 38 = .ok (.iload_n 3, 1) := by decide +kernel
theorem dX11_strength_39 : decode cX11_strength 39 = .ok (.iconst 0, 1) := by decide +kernel
theorem dX11_strength_40 : decode cX11_strength 40 = .ok (.invokevirtual 186, 3) := by decide +kernel
theorem dX11_strength_43 : decode cX11_strength 43 = .ok (.aload_n 0, 1) := by decide +kernel
theorem dX11_strength_44 : decode cX11_strength 44 = .ok (.aload_n 0, 1) := by decide +kernel
theorem dX11_strength_45 : decode cX11_strength 45 = .ok (.getfield 34, 3) := by decide +kernel
theorem dX11_strength_48 : decode cX11_strength 48 = .ok (.getfield 190, 3) := by decide +kernel
theorem dX11_strength_51 : decode cX11_strength 51 = .ok (.iload_n 2, 1) := by decide +kernel
theorem dX11_strength_52 : decode cX11_strength 52 = .ok (.iaload, 1) := by decide +kernel
theorem dX11_strength_53 : decode cX11_strength 53 = .ok (.invokevirtual 127, 3) := by decide +kernel
theorem dX11_strength_56 : decode cX11_strength 56 = .ok (.ireturn, 1) := by decide +kernel
theorem dX11_covered_0 : decode cX11_covered 0 = .ok (.aload_n 0, 1) := by decide +kernel
theorem dX11_covered_1 : decode cX11_covered 1 = .ok (.iload_n 1, 1) := by decide +kernel
theorem dX11_covered_2 : decode cX11_covered 2 = .ok (.iconst 2, 1) := by decide +kernel
theorem dX11_covered_3 : decode cX11_covered 3 = .ok (.iload_n 2, 1) := by decide +kernel
theorem dX11_covered_4 : decode cX11_covered 4 = .ok (.iload_n 3, 1) := by decide +kernel
theorem dX11_covered_5 : decode cX11_covered 5 = .ok (.invokevirtual 179, 3) := by decide +kernel
theorem dX11_covered_8 : decode cX11_covered 8 = .ok (.istore 4, 2) := by decide +kernel
theorem dX11_covered_10 : decode cX11_covered 10 = .ok (.iload 4, 2) := by decide +kernel
theorem dX11_covered_12 : decode cX11_covered 12 = .ok (.ifCond .eq 10, 3) := by decide +kernel
theorem dX11_covered_15 : decode cX11_covered 15 = .ok (.aload_n 0, 1) := by decide +kernel
theorem dX11_covered_16 : decode cX11_covered 16 = .ok (.iload 4, 2) := by decide +kernel
theorem dX11_covered_18 : decode cX11_covered 18 = .ok (.invokevirtual 102, 3) := by decide +kernel
theorem dX11_covered_21 : decode cX11_covered 21 = .ok (.ireturn, 1) := by decide +kernel
theorem dX11_covered_22 : decode cX11_covered 22 = .ok (.aload_n 0, 1) := by decide +kernel
theorem dX11_covered_23 : decode cX11_covered 23 = .ok (.getfield 34, 3) := by decide +kernel
theorem dX11_covered_26 : decode cX11_covered 26 = .ok (.aload_n 0, 1) := by decide +kernel
theorem dX11_covered_27 : decode cX11_covered 27 = .ok (.getfield 41, 3) := by decide +kernel
theorem dX11_covered_30 : decode cX11_covered 30 = .ok (.getfield 155, 3) := by decide +kernel
theorem dX11_covered_33 : decode cX11_covered 33 = .ok (.iload_n 1, 1) := by decide +kernel
theorem dX11_covered_34 : decode cX11_covered 34 = .ok (.aaload, 1) := by decide +kernel
theorem dX11_covered_35 : decode cX11_covered 35 = .ok (.getfield 183, 3) := by decide +kernel
theorem dX11_covered_38 : decode cX11_covered 38 = .ok (.iload_n 3, 1) := by decide +kernel
theorem dX11_covered_39 : decode cX11_covered 39 = .ok (.iconst 0, 1) := by decide +kernel
theorem dX11_covered_40 : decode cX11_covered 40 = .ok (.invokevirtual 186, 3) := by decide +kernel
theorem dX11_covered_43 : decode cX11_covered 43 = .ok (.aload_n 0, 1) := by decide +kernel
theorem dX11_covered_44 : decode cX11_covered 44 = .ok (.aload_n 0, 1) := by decide +kernel
theorem dX11_covered_45 : decode cX11_covered 45 = .ok (.getfield 34, 3) := by decide +kernel
theorem dX11_covered_48 : decode cX11_covered 48 = .ok (.iload_n 2, 1) := by decide +kernel
theorem dX11_covered_49 : decode cX11_covered 49 = .ok (.invokevirtual 193, 3) := by decide +kernel
theorem dX11_covered_52 : decode cX11_covered 52 = .ok (.invokevirtual 127, 3) := by decide +kernel
theorem dX11_covered_55 : decode cX11_covered 55 = .ok (.ireturn, 1) := by decide +kernel
theorem dX11_smelt_0 : decode cX11_smelt 0 = .ok (.aload_n 0, 1) := by decide +kernel
theorem dX11_smelt_1 : decode cX11_smelt 1 = .ok (.iload_n 1, 1) := by decide +kernel
theorem dX11_smelt_2 : decode cX11_smelt 2 = .ok (.iconst 3, 1) := by decide +kernel
theorem dX11_smelt_3 : decode cX11_smelt 3 = .ok (.iload_n 2, 1) := by decide +kernel
theorem dX11_smelt_4 : decode cX11_smelt 4 = .ok (.iload_n 3, 1) := by decide +kernel
theorem dX11_smelt_5 : decode cX11_smelt 5 = .ok (.invokevirtual 179, 3) := by decide +kernel
theorem dX11_smelt_8 : decode cX11_smelt 8 = .ok (.istore 4, 2) := by decide +kernel
theorem dX11_smelt_10 : decode cX11_smelt 10 = .ok (.iload 4, 2) := by decide +kernel
theorem dX11_smelt_12 : decode cX11_smelt 12 = .ok (.ifCond .eq 10, 3) := by decide +kernel
theorem dX11_smelt_15 : decode cX11_smelt 15 = .ok (.aload_n 0, 1) := by decide +kernel
theorem dX11_smelt_16 : decode cX11_smelt 16 = .ok (.iload 4, 2) := by decide +kernel
theorem dX11_smelt_18 : decode cX11_smelt 18 = .ok (.invokevirtual 102, 3) := by decide +kernel
theorem dX11_smelt_21 : decode cX11_smelt 21 = .ok (.ireturn, 1) := by decide +kernel
theorem dX11_smelt_22 : decode cX11_smelt 22 = .ok (.aload_n 0, 1) := by decide +kernel
theorem dX11_smelt_23 : decode cX11_smelt 23 = .ok (.getfield 34, 3) := by decide +kernel
theorem dX11_smelt_26 : decode cX11_smelt 26 = .ok (.aload_n 0, 1) := by decide +kernel
theorem dX11_smelt_27 : decode cX11_smelt 27 = .ok (.getfield 41, 3) := by decide +kernel
theorem dX11_smelt_30 : decode cX11_smelt 30 = .ok (.getfield 155, 3) := by decide +kernel
theorem dX11_smelt_33 : decode cX11_smelt 33 = .ok (.iload_n 1, 1) := by decide +kernel
theorem dX11_smelt_34 : decode cX11_smelt 34 = .ok (.aaload, 1) := by decide +kernel
theorem dX11_smelt_35 : decode cX11_smelt 35 = .ok (.getfield 183, 3) := by decide +kernel
theorem dX11_smelt_38 : decode cX11_smelt 38 = .ok (.iload_n 3, 1) := by decide +kernel
theorem dX11_smelt_39 : decode cX11_smelt 39 = .ok (.iconst 0, 1) := by decide +kernel
theorem dX11_smelt_40 : decode cX11_smelt 40 = .ok (.invokevirtual 186, 3) := by decide +kernel
theorem dX11_smelt_43 : decode cX11_smelt 43 = .ok (.aload_n 0, 1) := by decide +kernel
theorem dX11_smelt_44 : decode cX11_smelt 44 = .ok (.aload_n 0, 1) := by decide +kernel
theorem dX11_smelt_45 : decode cX11_smelt 45 = .ok (.getfield 34, 3) := by decide +kernel
theorem dX11_smelt_48 : decode cX11_smelt 48 = .ok (.aload_n 0, 1) := by decide +kernel
theorem dX11_smelt_49 : decode cX11_smelt 49 = .ok (.getfield 16, 3) := by decide +kernel
theorem dX11_smelt_52 : decode cX11_smelt 52 = .ok (.getfield 196, 3) := by decide +kernel
theorem dX11_smelt_55 : decode cX11_smelt 55 = .ok (.iload_n 2, 1) := by decide +kernel
theorem dX11_smelt_56 : decode cX11_smelt 56 = .ok (.iaload, 1) := by decide +kernel
theorem dX11_smelt_57 : decode cX11_smelt 57 = .ok (.invokevirtual 199, 3) := by decide +kernel
theorem dX11_smelt_60 : decode cX11_smelt 60 = .ok (.invokevirtual 127, 3) := by decide +kernel
theorem dX11_smelt_63 : decode cX11_smelt 63 = .ok (.ireturn, 1) := by decide +kernel
theorem dX11_duty_0 : decode cX11_duty 0 = .ok (.aload_n 0, 1) := by decide +kernel
theorem dX11_duty_1 : decode cX11_duty 1 = .ok (.iload_n 1, 1) := by decide +kernel
theorem dX11_duty_2 : decode cX11_duty 2 = .ok (.iconst 4, 1) := by decide +kernel
theorem dX11_duty_3 : decode cX11_duty 3 = .ok (.iload_n 2, 1) := by decide +kernel
theorem dX11_duty_4 : decode cX11_duty 4 = .ok (.iload_n 3, 1) := by decide +kernel
theorem dX11_duty_5 : decode cX11_duty 5 = .ok (.invokevirtual 179, 3) := by decide +kernel
theorem dX11_duty_8 : decode cX11_duty 8 = .ok (.istore 4, 2) := by decide +kernel
theorem dX11_duty_10 : decode cX11_duty 10 = .ok (.iload 4, 2) := by decide +kernel
theorem dX11_duty_12 : decode cX11_duty 12 = .ok (.ifCond .eq 10, 3) := by decide +kernel
theorem dX11_duty_15 : decode cX11_duty 15 = .ok (.aload_n 0, 1) := by decide +kernel
theorem dX11_duty_16 : decode cX11_duty 16 = .ok (.iload 4, 2) := by decide +kernel
theorem dX11_duty_18 : decode cX11_duty 18 = .ok (.invokevirtual 102, 3) := by decide +kernel
theorem dX11_duty_21 : decode cX11_duty 21 = .ok (.ireturn, 1) := by decide +kernel
theorem dX11_duty_22 : decode cX11_duty 22 = .ok (.aload_n 0, 1) := by decide +kernel
theorem dX11_duty_23 : decode cX11_duty 23 = .ok (.aload_n 0, 1) := by decide +kernel
theorem dX11_duty_24 : decode cX11_duty 24 = .ok (.iload_n 1, 1) := by decide +kernel
theorem dX11_duty_25 : decode cX11_duty 25 = .ok (.iload_n 2, 1) := by decide +kernel
theorem dX11_duty_26 : decode cX11_duty 26 = .ok (.iload_n 3, 1) := by decide +kernel
theorem dX11_duty_27 : decode cX11_duty 27 = .ok (.invokevirtual 202, 3) := by decide +kernel
theorem dX11_duty_30 : decode cX11_duty 30 = .ok (.invokevirtual 127, 3) := by decide +kernel
theorem dX11_duty_33 : decode cX11_duty 33 = .ok (.ireturn, 1) := by decide +kernel
theorem dX11_claim_0 : decode cX11_claim 0 = .ok (.aload_n 0, 1) := by decide +kernel
theorem dX11_claim_1 : decode cX11_claim 1 = .ok (.bipush 7, 2) := by decide +kernel
theorem dX11_claim_3 : decode cX11_claim 3 = .ok (.iload_n 1, 1) := by decide +kernel
theorem dX11_claim_4 : decode cX11_claim 4 = .ok (.invokevirtual 133, 3) := by decide +kernel
theorem dX11_claim_7 : decode cX11_claim 7 = .ok (.ifCond .ne 9, 3) := by decide +kernel
theorem dX11_claim_10 : decode cX11_claim 10 = .ok (.aload_n 0, 1) := by decide +kernel
theorem dX11_claim_11 : decode cX11_claim 11 = .ok (.iconst 1, 1) := by decide +kernel
theorem dX11_claim_12 : decode cX11_claim 12 = .ok (.invokevirtual 102, 3) := by decide +kernel
theorem dX11_claim_15 : decode cX11_claim 15 = .ok (.ireturn, 1) := by decide +kernel
theorem dX11_claim_16 : decode cX11_claim 16 = .ok (.iload_n 2, 1) := by decide +kernel
theorem dX11_claim_17 : decode cX11_claim 17 = .ok (.iconst 0, 1) := by decide +kernel
theorem dX11_claim_18 : decode cX11_claim 18 = .ok (.bipush 99, 2) := by decide +kernel
theorem dX11_claim_20 : decode cX11_claim 20 = .ok (.invokestatic 206, 3) := by decide +kernel
theorem dX11_claim_23 : decode cX11_claim 23 = .ok (.ifCond .ne 9, 3) := by decide +kernel
theorem dX11_claim_26 : decode cX11_claim 26 = .ok (.aload_n 0, 1) := by decide +kernel
theorem dX11_claim_27 : decode cX11_claim 27 = .ok (.iconst 2, 1) := by decide +kernel
theorem dX11_claim_28 : decode cX11_claim 28 = .ok (.invokevirtual 102, 3) := by decide +kernel
theorem dX11_claim_31 : decode cX11_claim 31 = .ok (.ireturn, 1) := by decide +kernel
theorem dX11_claim_32 : decode cX11_claim 32 = .ok (.aload_n 0, 1) := by decide +kernel
theorem dX11_claim_33 : decode cX11_claim 33 = .ok (.getfield 34, 3) := by decide +kernel
theorem dX11_claim_36 : decode cX11_claim 36 = .ok (.aload_n 0, 1) := by decide +kernel
theorem dX11_claim_37 : decode cX11_claim 37 = .ok (.getfield 41, 3) := by decide +kernel
theorem dX11_claim_40 : decode cX11_claim 40 = .ok (.getfield 155, 3) := by decide +kernel
theorem dX11_claim_43 : decode cX11_claim 43 = .ok (.iload_n 1, 1) := by decide +kernel
theorem dX11_claim_44 : decode cX11_claim 44 = .ok (.aaload, 1) := by decide +kernel
theorem dX11_claim_45 : decode cX11_claim 45 = .ok (.getfield 183, 3) := by decide +kernel
theorem dX11_claim_48 : decode cX11_claim 48 = .ok (.iload_n 2, 1) := by decide +kernel
theorem dX11_claim_49 : decode cX11_claim 49 = .ok (.iconst 0, 1) := by decide +kernel
theorem dX11_claim_50 : decode cX11_claim 50 = .ok (.invokevirtual 186, 3) := by decide +kernel
theorem dX11_claim_53 : decode cX11_claim 53 = .ok (.aload_n 0, 1) := by decide +kernel
theorem dX11_claim_54 : decode cX11_claim 54 = .ok (.aload_n 0, 1) := by decide +kernel
theorem dX11_claim_55 : decode cX11_claim 55 = .ok (.getfield 34, 3) := by decide +kernel
theorem dX11_claim_58 : decode cX11_claim 58 = .ok (.invokevirtual 210, 3) := by decide +kernel
theorem dX11_claim_61 : decode cX11_claim 61 = .ok (.invokevirtual 127, 3) := by decide +kernel
theorem dX11_claim_64 : decode cX11_claim 64 = .ok (.ireturn, 1) := by decide +kernel
theorem dX11_gone_0 : decode cX11_gone 0 = .ok (.aload_n 0, 1) := by decide +kernel
theorem dX11_gone_1 : decode cX11_gone 1 = .ok (.bipush 7, 2) := by decide +kernel
theorem dX11_gone_3 : decode cX11_gone 3 = .ok (.iload_n 1, 1) := by decide +kernel
theorem dX11_gone_4 : decode cX11_gone 4 = .ok (.invokevirtual 133, 3) := by decide +kernel
theorem dX11_gone_7 : decode cX11_gone 7 = .ok (.ifCond .eq 12, 3) := by decide +kernel
theorem dX11_gone_10 : decode cX11_gone 10 = .ok (.aload_n 0, 1) := by decide +kernel
theorem dX11_gone_11 : decode cX11_gone 11 = .ok (.iconst 2, 1) := by decide +kernel
theorem dX11_gone_12 : decode cX11_gone 12 = .ok (.iload_n 2, 1) := by decide +kernel
theorem dX11_gone_13 : decode cX11_gone 13 = .ok (.invokevirtual 133, 3) := by decide +kernel
theorem dX11_gone_16 : decode cX11_gone 16 = .ok (.ifCond .ne 9, 3) := by decide +kernel
theorem dX11_gone_19 : decode cX11_gone 19 = .ok (.aload_n 0, 1) := by decide +kernel
theorem dX11_gone_20 : decode cX11_gone 20 = .ok (.iconst 1, 1) := by decide +kernel
theorem dX11_gone_21 : decode cX11_gone 21 = .ok (.invokevirtual 102, 3) := by decide +kernel
theorem dX11_gone_24 : decode cX11_gone 24 = .ok (.ireturn, 1) := by decide +kernel
theorem dX11_gone_25 : decode cX11_gone 25 = .ok (.iconst 0, 1) := by decide +kernel
theorem dX11_gone_26 : decode cX11_gone 26 = .ok (.istore_n 3, 1) := by decide +kernel
theorem dX11_gone_27 : decode cX11_gone 27 = .ok (.aload_n 0, 1) := by decide +kernel
theorem dX11_gone_28 : decode cX11_gone 28 = .ok (.getfield 34, 3) := by decide +kernel
theorem dX11_gone_31 : decode cX11_gone 31 = .ok (.aload_n 0, 1) := by decide +kernel
theorem dX11_gone_32 : decode cX11_gone 32 = .ok (.getfield 41, 3) := by decide +kernel
theorem dX11_gone_35 : decode cX11_gone 35 = .ok (.getfield 155, 3) := by decide +kernel
theorem dX11_gone_38 : decode cX11_gone 38 = .ok (.iload_n 1, 1) := by decide +kernel
theorem dX11_gone_39 : decode cX11_gone 39 = .ok (.aaload, 1) := by decide +kernel
theorem dX11_gone_40 : decode cX11_gone 40 = .ok (.getfield 183, 3) := by decide +kernel
theorem dX11_gone_43 : decode cX11_gone 43 = .ok (.iload_n 3, 1) := by decide +kernel
theorem dX11_gone_44 : decode cX11_gone 44 = .ok (.iconst 0, 1) := by decide +kernel
theorem dX11_gone_45 : decode cX11_gone 45 = .ok (.invokevirtual 186, 3) := by decide +kernel
theorem dX11_gone_48 : decode cX11_gone 48 = .ok (.iload_n 3, 1) := by decide +kernel
theorem dX11_gone_49 : decode cX11_gone 49 = .ok (.sipush 200, 3) := by decide +kernel
theorem dX11_gone_52 : decode cX11_gone 52 = .ok (.if_icmp .ge 42, 3) := by decide +kernel
theorem dX11_gone_55 : decode cX11_gone 55 = .ok (.aload_n 0, 1) := by decide +kernel
theorem dX11_gone_56 : decode cX11_gone 56 = .ok (.getfield 34, 3) := by decide +kernel
theorem dX11_gone_59 : decode cX11_gone 59 = .ok (.getfield 190, 3) := by decide +kernel
theorem dX11_gone_62 : decode cX11_gone 62 = .ok (.iload_n 2, 1) := by decide +kernel
theorem dX11_gone_63 : decode cX11_gone 63 = .ok (.iaload, 1) := by decide +kernel
theorem dX11_gone_64 : decode cX11_gone 64 = .ok (.ifCond .le 30, 3) := by decide +kernel
theorem dX11_gone_67 : decode cX11_gone 67 = .ok (.iinc 3 1, 3) := by decide +kernel
theorem dX11_gone_70 : decode cX11_gone 70 = .ok (.aload_n 0, 1) := by decide +kernel
theorem dX11_gone_71 : decode cX11_gone 71 = .ok (.getfield 34, 3) := by decide +kernel
theorem dX11_gone_74 : decode cX11_gone 74 = .ok (.aload_n 0, 1) := by decide +kernel
theorem dX11_gone_75 : decode cX11_gone 75 = .ok (.getfield 41, 3) := by decide +kernel
theorem dX11_gone_78 : decode cX11_gone 78 = .ok (.getfield 155, 3) := by decide +kernel
theorem dX11_gone_81 : decode cX11_gone 81 = .ok (.iload_n 1, 1) := by decide +kernel
theorem dX11_gone_82 : decode cX11_gone 82 = .ok (.aaload, 1) := by decide +kernel
theorem dX11_gone_83 : decode cX11_gone 83 = .ok (.getfield 183, 3) := by decide +kernel
theorem dX11_gone_86 : decode cX11_gone 86 = .ok (.iload_n 3, 1) := by decide +kernel
theorem dX11_gone_87 : decode cX11_gone 87 = .ok (.iconst 0, 1) := by decide +kernel
theorem dX11_gone_88 : decode cX11_gone 88 = .ok (.invokevirtual 186, 3) := by decide +kernel
theorem dX11_gone_91 : decode cX11_gone 91 = .ok (.goto (-43), 3) := by decide +kernel
theorem dX11_gone_94 : decode cX11_gone 94 = .ok (.aload_n 0, 1) := by decide +kernel
theorem dX11_gone_95 : decode cX11_gone 95 = .ok (.iload_n 3, 1) := by decide +kernel
theorem dX11_gone_96 : decode cX11_gone 96 = .ok (.invokevirtual 127, 3) := by decide +kernel
theorem dX11_gone_99 : decode cX11_gone 99 = .ok (.ireturn, 1) := by decide +kernel
theorem dX11_mustWait_0 : decode cX11_mustWait 0 = .ok (.aload_n 0, 1) := by decide +kernel
theorem dX11_mustWait_1 : decode cX11_mustWait 1 = .ok (.bipush 7, 2) := by decide +kernel
theorem dX11_mustWait_3 : decode cX11_mustWait 3 = .ok (.iload_n 1, 1) := by decide +kernel
theorem dX11_mustWait_4 : decode cX11_mustWait 4 = .ok (.invokevirtual 133, 3) := by decide +kernel
theorem dX11_mustWait_7 : decode cX11_mustWait 7 = .ok (.ifCond .eq 12, 3) := by decide +kernel
theorem dX11_mustWait_10 : decode cX11_mustWait 10 = .ok (.aload_n 0, 1) := by decide +kernel
theorem dX11_mustWait_11 : decode cX11_mustWait 11 = .ok (.iconst 4, 1) := by decide +kernel
theorem dX11_mustWait_12 : decode cX11_mustWait 12 = .ok (.iload_n 2, 1) := by decide +kernel
theorem dX11_mustWait_13 : decode cX11_mustWait 13 = .ok (.invokevirtual 133, 3) := by decide +kernel
theorem dX11_mustWait_16 : decode cX11_mustWait 16 = .ok (.ifCond .ne 9, 3) := by decide +kernel
theorem dX11_mustWait_19 : decode cX11_mustWait 19 = .ok (.aload_n 0, 1) := by decide +kernel
theorem dX11_mustWait_20 : decode cX11_mustWait 20 = .ok (.iconst 1, 1) := by decide +kernel
theorem dX11_mustWait_21 : decode cX11_mustWait 21 = .ok (.invokevirtual 102, 3) := by decide +kernel
theorem dX11_mustWait_24 : decode cX11_mustWait 24 = .ok (.ireturn, 1) := by decide +kernel
theorem dX11_mustWait_25 : decode cX11_mustWait 25 = .ok (.iconst 0, 1) := by decide +kernel
theorem dX11_mustWait_26 : decode cX11_mustWait 26 = .ok (.istore_n 3, 1) := by decide +kernel
theorem dX11_mustWait_27 : decode cX11_mustWait 27 = .ok (.iload_n 3, 1) := by decide +kernel
theorem dX11_mustWait_28 : decode cX11_mustWait 28 = .ok (.sipush 200, 3) := by decide +kernel
theorem dX11_mustWait_31 : decode cX11_mustWait 31 = .ok (.if_icmp .ge 19, 3) := by decide +kernel
theorem dX11_mustWait_34 : decode cX11_mustWait 34 = .ok (.aload_n 0, 1) := by decide +kernel
theorem dX11_mustWait_35 : decode cX11_mustWait 35 = .ok (.iload_n 1, 1) := by decide +kernel
theorem dX11_mustWait_36 : decode cX11_mustWait 36 = .ok (.iload_n 2, 1) := by decide +kernel
theorem dX11_mustWait_37 : decode cX11_mustWait 37 = .ok (.iload_n 3, 1) := by decide +kernel
theorem dX11_mustWait_38 : decode cX11_mustWait 38 = .ok (.invokevirtual 202, 3) := by decide +kernel
theorem dX11_mustWait_41 : decode cX11_mustWait 41 = .ok (.ifCond .le 9, 3) := by decide +kernel
theorem dX11_mustWait_44 : decode cX11_mustWait 44 = .ok (.iinc 3 1, 3) := by decide +kernel
theorem dX11_mustWait_47 : decode cX11_mustWait 47 = .ok (.goto (-20), 3) := by decide +kernel
theorem dX11_mustWait_50 : decode cX11_mustWait 50 = .ok (.aload_n 0, 1) := by decide +kernel
theorem dX11_mustWait_51 : decode cX11_mustWait 51 = .ok (.iload_n 3, 1) := by decide +kernel
theorem dX11_mustWait_52 : decode cX11_mustWait 52 = .ok (.invokevirtual 127, 3) := by decide +kernel
theorem dX11_mustWait_55 : decode cX11_mustWait 55 = .ok (.ireturn, 1) := by decide +kernel
theorem dX11_walked_0 : decode cX11_walked 0 = .ok (.aload_n 0, 1) := by decide +kernel
theorem dX11_walked_1 : decode cX11_walked 1 = .ok (.bipush 7, 2) := by decide +kernel
theorem dX11_walked_3 : decode cX11_walked 3 = .ok (.iload_n 1, 1) := by decide +kernel
theorem dX11_walked_4 : decode cX11_walked 4 = .ok (.invokevirtual 133, 3) := by decide +kernel
theorem dX11_walked_7 : decode cX11_walked 7 = .ok (.ifCond .ne 9, 3) := by decide +kernel
theorem dX11_walked_10 : decode cX11_walked 10 = .ok (.aload_n 0, 1) := by decide +kernel
theorem dX11_walked_11 : decode cX11_walked 11 = .ok (.iconst 1, 1) := by decide +kernel
theorem dX11_walked_12 : decode cX11_walked 12 = .ok (.invokevirtual 102, 3) := by decide +kernel
theorem dX11_walked_15 : decode cX11_walked 15 = .ok (.ireturn, 1) := by decide +kernel
theorem dX11_walked_16 : decode cX11_walked 16 = .ok (.aload_n 0, 1) := by decide +kernel
theorem dX11_walked_17 : decode cX11_walked 17 = .ok (.getfield 16, 3) := by decide +kernel
theorem dX11_walked_20 : decode cX11_walked 20 = .ok (.getfield 214, 3) := by decide +kernel
theorem dX11_walked_23 : decode cX11_walked 23 = .ok (.iload_n 1, 1) := by decide +kernel
theorem dX11_walked_24 : decode cX11_walked 24 = .ok (.iaload, 1) := by decide +kernel
theorem dX11_walked_25 : decode cX11_walked 25 = .ok (.ifCond .ne 10, 3) := by decide +kernel
theorem dX11_walked_28 : decode cX11_walked 28 = .ok (.aload_n 0, 1) := by decide +kernel
theorem dX11_walked_29 : decode cX11_walked 29 = .ok (.bipush 6, 2) := by decide +kernel
theorem dX11_walked_31 : decode cX11_walked 31 = .ok (.invokevirtual 102, 3) := by decide +kernel
theorem dX11_walked_34 : decode cX11_walked 34 = .ok (.ireturn, 1) := by decide +kernel
theorem dX11_walked_35 : decode cX11_walked 35 = .ok (.aload_n 0, 1) := by decide +kernel
theorem dX11_walked_36 : decode cX11_walked 36 = .ok (.aload_n 0, 1) := by decide +kernel
theorem dX11_walked_37 : decode cX11_walked 37 = .ok (.getfield 50, 3) := by decide +kernel
theorem dX11_walked_40 : decode cX11_walked 40 = .ok (.iload_n 1, 1) := by decide +kernel
theorem dX11_walked_41 : decode cX11_walked 41 = .ok (.aload_n 0, 1) := by decide +kernel
theorem dX11_walked_42 : decode cX11_walked 42 = .ok (.getfield 16, 3) := by decide +kernel
theorem dX11_walked_45 : decode cX11_walked 45 = .ok (.getfield 149, 3) := by decide +kernel
theorem dX11_walked_48 : decode cX11_walked 48 = .ok (.invokevirtual 217, 3) := by decide +kernel
theorem dX11_walked_51 : decode cX11_walked 51 = .ok (.ifCond .eq 13, 3) := by decide +kernel
theorem dX11_walked_54 : decode cX11_walked 54 = .ok (.aload_n 0, 1) := by decide +kernel
theorem dX11_walked_55 : decode cX11_walked 55 = .ok (.getfield 50, 3) := by decide +kernel
theorem dX11_walked_58 : decode cX11_walked 58 = .ok (.getfield 221, 3) := by decide +kernel
theorem dX11_walked_61 : decode cX11_walked 61 = .ok (.goto 5, 3) := by decide +kernel
theorem dX11_walked_64 : decode cX11_walked 64 = .ok (.bipush (-2), 2) := by decide +kernel
theorem dX11_walked_66 : decode cX11_walked 66 = .ok (.invokevirtual 127, 3) := by decide +kernel
theorem dX11_walked_69 : decode cX11_walked 69 = .ok (.ireturn, 1) := by decide +kernel
theorem dX11_walkedAt_0 : decode cX11_walkedAt 0 = .ok (.aload_n 0, 1) := by decide +kernel
theorem dX11_walkedAt_1 : decode cX11_walkedAt 1 = .ok (.bipush 7, 2) := by decide +kernel
theorem dX11_walkedAt_3 : decode cX11_walkedAt 3 = .ok (.iload_n 1, 1) := by decide +kernel
theorem dX11_walkedAt_4 : decode cX11_walkedAt 4 = .ok (.invokevirtual 133, 3) := by decide +kernel
theorem dX11_walkedAt_7 : decode cX11_walkedAt 7 = .ok (.ifCond .ne 9, 3) := by decide +kernel
theorem dX11_walkedAt_10 : decode cX11_walkedAt 10 = .ok (.aload_n 0, 1) := by decide +kernel
theorem dX11_walkedAt_11 : decode cX11_walkedAt 11 = .ok (.iconst 1, 1) := by decide +kernel
theorem dX11_walkedAt_12 : decode cX11_walkedAt 12 = .ok (.invokevirtual 102, 3) := by decide +kernel
theorem dX11_walkedAt_15 : decode cX11_walkedAt 15 = .ok (.ireturn, 1) := by decide +kernel
theorem dX11_walkedAt_16 : decode cX11_walkedAt 16 = .ok (.aload_n 0, 1) := by decide +kernel
theorem dX11_walkedAt_17 : decode cX11_walkedAt 17 = .ok (.getfield 16, 3) := by decide +kernel
theorem dX11_walkedAt_20 : decode cX11_walkedAt 20 = .ok (.getfield 214, 3) := by decide +kernel
theorem dX11_walkedAt_23 : decode cX11_walkedAt 23 = .ok (.iload_n 1, 1) := by decide +kernel
theorem dX11_walkedAt_24 : decode cX11_walkedAt 24 = .ok (.iaload, 1) := by decide +kernel
theorem dX11_walkedAt_25 : decode cX11_walkedAt 25 = .ok (.ifCond .ne 10, 3) := by decide +kernel
theorem dX11_walkedAt_28 : decode cX11_walkedAt 28 = .ok (.aload_n 0, 1) := by decide +kernel
theorem dX11_walkedAt_29 : decode cX11_walkedAt 29 = .ok (.bipush 6, 2) := by decide +kernel
theorem dX11_walkedAt_31 : decode cX11_walkedAt 31 = .ok (.invokevirtual 102, 3) := by decide +kernel
theorem dX11_walkedAt_34 : decode cX11_walkedAt 34 = .ok (.ireturn, 1) := by decide +kernel
theorem dX11_walkedAt_35 : decode cX11_walkedAt 35 = .ok (.iload_n 2, 1) := by decide +kernel
theorem dX11_walkedAt_36 : decode cX11_walkedAt 36 = .ok (.ifCond .lt 16, 3) := by decide +kernel
theorem dX11_walkedAt_39 : decode cX11_walkedAt 39 = .ok (.iload_n 2, 1) := by decide +kernel
theorem dX11_walkedAt_40 : decode cX11_walkedAt 40 = .ok (.aload_n 0, 1) := by decide +kernel
theorem dX11_walkedAt_41 : decode cX11_walkedAt 41 = .ok (.getfield 16, 3) := by decide +kernel
theorem dX11_walkedAt_44 : decode cX11_walkedAt 44 = .ok (.getfield 214, 3) := by decide +kernel
theorem dX11_walkedAt_47 : decode cX11_walkedAt 47 = .ok (.iload_n 1, 1) := by decide +kernel
theorem dX11_walkedAt_48 : decode cX11_walkedAt 48 = .ok (.iaload, 1) := by decide +kernel
theorem dX11_walkedAt_49 : decode cX11_walkedAt 49 = .ok (.if_icmp .lt 9, 3) := by decide +kernel
theorem dX11_walkedAt_52 : decode cX11_walkedAt 52 = .ok (.aload_n 0, 1) := by decide +kernel
theorem dX11_walkedAt_53 : decode cX11_walkedAt 53 = .ok (.iconst 1, 1) := by decide +kernel
theorem dX11_walkedAt_54 : decode cX11_walkedAt 54 = .ok (.invokevirtual 102, 3) := by decide +kernel
theorem dX11_walkedAt_57 : decode cX11_walkedAt 57 = .ok (.ireturn, 1) := by decide +kernel
theorem dX11_walkedAt_58 : decode cX11_walkedAt 58 = .ok (.aload_n 0, 1) := by decide +kernel
theorem dX11_walkedAt_59 : decode cX11_walkedAt 59 = .ok (.getfield 50, 3) := by decide +kernel
theorem dX11_walkedAt_62 : decode cX11_walkedAt 62 = .ok (.iload_n 1, 1) := by decide +kernel
theorem dX11_walkedAt_63 : decode cX11_walkedAt 63 = .ok (.aload_n 0, 1) := by decide +kernel
theorem dX11_walkedAt_64 : decode cX11_walkedAt 64 = .ok (.getfield 16, 3) := by decide +kernel
theorem dX11_walkedAt_67 : decode cX11_walkedAt 67 = .ok (.getfield 149, 3) := by decide +kernel
theorem dX11_walkedAt_70 : decode cX11_walkedAt 70 = .ok (.invokevirtual 217, 3) := by decide +kernel
theorem dX11_walkedAt_73 : decode cX11_walkedAt 73 = .ok (.ifCond .ne 9, 3) := by decide +kernel
theorem dX11_walkedAt_76 : decode cX11_walkedAt 76 = .ok (.aload_n 0, 1) := by decide +kernel
theorem dX11_walkedAt_77 : decode cX11_walkedAt 77 = .ok (.iconst 5, 1) := by decide +kernel
theorem dX11_walkedAt_78 : decode cX11_walkedAt 78 = .ok (.invokevirtual 102, 3) := by decide +kernel
theorem dX11_walkedAt_81 : decode cX11_walkedAt 81 = .ok (.ireturn, 1) := by decide +kernel
theorem dX11_walkedAt_82 : decode cX11_walkedAt 82 = .ok (.aload_n 0, 1) := by decide +kernel
theorem dX11_walkedAt_83 : decode cX11_walkedAt 83 = .ok (.aload_n 0, 1) := by decide +kernel
theorem dX11_walkedAt_84 : decode cX11_walkedAt 84 = .ok (.getfield 50, 3) := by decide +kernel
theorem dX11_walkedAt_87 : decode cX11_walkedAt 87 = .ok (.getfield 224, 3) := by decide +kernel
theorem dX11_walkedAt_90 : decode cX11_walkedAt 90 = .ok (.iload_n 2, 1) := by decide +kernel
theorem dX11_walkedAt_91 : decode cX11_walkedAt 91 = .ok (.iaload, 1) := by decide +kernel
theorem dX11_walkedAt_92 : decode cX11_walkedAt 92 = .ok (.invokevirtual 127, 3) := by decide +kernel
theorem dX11_walkedAt_95 : decode cX11_walkedAt 95 = .ok (.ireturn, 1) := by decide +kernel
theorem dX11_judge_0 : decode cX11_judge 0 = .ok (.aload_n 0, 1) := by decide +kernel
theorem dX11_judge_1 : decode cX11_judge 1 = .ok (.getfield 16, 3) := by decide +kernel
theorem dX11_judge_4 : decode cX11_judge 4 = .ok (.invokevirtual 227, 3) := by decide +kernel
theorem dX11_judge_7 : decode cX11_judge 7 = .ok (.ifCond .ne 9, 3) := by decide +kernel
theorem dX11_judge_10 : decode cX11_judge 10 = .ok (.aload_n 0, 1) := by decide +kernel
theorem dX11_judge_11 : decode cX11_judge 11 = .ok (.iconst 1, 1) := by decide +kernel
theorem dX11_judge_12 : decode cX11_judge 12 = .ok (.invokevirtual 102, 3) := by decide +kernel
theorem dX11_judge_15 : decode cX11_judge 15 = .ok (.ireturn, 1) := by decide +kernel
theorem dX11_judge_16 : decode cX11_judge 16 = .ok (.iconst 0, 1) := by decide +kernel
theorem dX11_judge_17 : decode cX11_judge 17 = .ok (.istore_n 1, 1) := by decide +kernel
theorem dX11_judge_18 : decode cX11_judge 18 = .ok (.iload_n 1, 1) := by decide +kernel
theorem dX11_judge_19 : decode cX11_judge 19 = .ok (.aload_n 0, 1) := by decide +kernel
theorem dX11_judge_20 : decode cX11_judge 20 = .ok (.getfield 16, 3) := by decide +kernel
theorem dX11_judge_23 : decode cX11_judge 23 = .ok (.getfield 124, 3) := by decide +kernel
theorem dX11_judge_26 : decode cX11_judge 26 = .ok (.bipush 7, 2) := by decide +kernel
theorem dX11_judge_28 : decode cX11_judge 28 = .ok (.iaload, 1) := by decide +kernel
theorem dX11_judge_29 : decode cX11_judge 29 = .ok (.if_icmp .ge 45, 3) := by decide +kernel
theorem dX11_judge_32 : decode cX11_judge 32 = .ok (.aload_n 0, 1) := by decide +kernel
theorem dX11_judge_33 : decode cX11_judge 33 = .ok (.getfield 16, 3) := by decide +kernel
theorem dX11_judge_36 : decode cX11_judge 36 = .ok (.getfield 214, 3) := by decide +kernel
theorem dX11_judge_39 : decode cX11_judge 39 = .ok (.iload_n 1, 1) := by decide +kernel
theorem dX11_judge_40 : decode cX11_judge 40 = .ok (.iaload, 1) := by decide +kernel
theorem dX11_judge_41 : decode cX11_judge 41 = .ok (.ifCond .le 27, 3) := by decide +kernel
theorem dX11_judge_44 : decode cX11_judge 44 = .ok (.aload_n 0, 1) := by decide +kernel
theorem dX11_judge_45 : decode cX11_judge 45 = .ok (.getfield 50, 3) := by decide +kernel
theorem dX11_judge_48 : decode cX11_judge 48 = .ok (.iload_n 1, 1) := by decide +kernel
theorem dX11_judge_49 : decode cX11_judge 49 = .ok (.aload_n 0, 1) := by decide +kernel
theorem dX11_judge_50 : decode cX11_judge 50 = .ok (.getfield 16, 3) := by decide +kernel
theorem dX11_judge_53 : decode cX11_judge 53 = .ok (.getfield 149, 3) := by decide +kernel
theorem dX11_judge_56 : decode cX11_judge 56 = .ok (.invokevirtual 217, 3) := by decide +kernel
theorem dX11_judge_59 : decode cX11_judge 59 = .ok (.ifCond .ne 9, 3) := by decide +kernel
theorem dX11_judge_62 : decode cX11_judge 62 = .ok (.aload_n 0, 1) := by decide +kernel
theorem dX11_judge_63 : decode cX11_judge 63 = .ok (.iload_n 1, 1) := by decide +kernel
theorem dX11_judge_64 : decode cX11_judge 64 = .ok (.invokevirtual 127, 3) := by decide +kernel
theorem dX11_judge_67 : decode cX11_judge 67 = .ok (.ireturn, 1) := by decide +kernel
theorem dX11_judge_68 : decode cX11_judge 68 = .ok (.iinc 1 1, 3) := by decide +kernel
theorem dX11_judge_71 : decode cX11_judge 71 = .ok (.goto (-53), 3) := by decide +kernel
theorem dX11_judge_74 : decode cX11_judge 74 = .ok (.aload_n 0, 1) := by decide +kernel
theorem dX11_judge_75 : decode cX11_judge 75 = .ok (.bipush (-2), 2) := by decide +kernel
theorem dX11_judge_77 : decode cX11_judge 77 = .ok (.invokevirtual 127, 3) := by decide +kernel
theorem dX11_judge_80 : decode cX11_judge 80 = .ok (.ireturn, 1) := by decide +kernel
theorem dX11_wrongly_0 : decode cX11_wrongly 0 = .ok (.aload_n 0, 1) := by decide +kernel
theorem dX11_wrongly_1 : decode cX11_wrongly 1 = .ok (.getfield 16, 3) := by decide +kernel
theorem dX11_wrongly_4 : decode cX11_wrongly 4 = .ok (.invokevirtual 227, 3) := by decide +kernel
theorem dX11_wrongly_7 : decode cX11_wrongly 7 = .ok (.ifCond .ne 9, 3) := by decide +kernel
theorem dX11_wrongly_10 : decode cX11_wrongly 10 = .ok (.aload_n 0, 1) := by decide +kernel
theorem dX11_wrongly_11 : decode cX11_wrongly 11 = .ok (.iconst 1, 1) := by decide +kernel
theorem dX11_wrongly_12 : decode cX11_wrongly 12 = .ok (.invokevirtual 102, 3) := by decide +kernel
theorem dX11_wrongly_15 : decode cX11_wrongly 15 = .ok (.ireturn, 1) := by decide +kernel
theorem dX11_wrongly_16 : decode cX11_wrongly 16 = .ok (.iconst 0, 1) := by decide +kernel
theorem dX11_wrongly_17 : decode cX11_wrongly 17 = .ok (.istore_n 1, 1) := by decide +kernel
theorem dX11_wrongly_18 : decode cX11_wrongly 18 = .ok (.iload_n 1, 1) := by decide +kernel
theorem dX11_wrongly_19 : decode cX11_wrongly 19 = .ok (.aload_n 0, 1) := by decide +kernel
theorem dX11_wrongly_20 : decode cX11_wrongly 20 = .ok (.getfield 16, 3) := by decide +kernel
theorem dX11_wrongly_23 : decode cX11_wrongly 23 = .ok (.getfield 124, 3) := by decide +kernel
theorem dX11_wrongly_26 : decode cX11_wrongly 26 = .ok (.bipush 9, 2) := by decide +kernel
theorem dX11_wrongly_28 : decode cX11_wrongly 28 = .ok (.iaload, 1) := by decide +kernel
theorem dX11_wrongly_29 : decode cX11_wrongly 29 = .ok (.if_icmp .ge 84, 3) := by decide +kernel
theorem dX11_wrongly_32 : decode cX11_wrongly 32 = .ok (.aload_n 0, 1) := by decide +kernel
theorem dX11_wrongly_33 : decode cX11_wrongly 33 = .ok (.getfield 16, 3) := by decide +kernel
theorem dX11_wrongly_36 : decode cX11_wrongly 36 = .ok (.getfield 231, 3) := by decide +kernel
theorem dX11_wrongly_39 : decode cX11_wrongly 39 = .ok (.iload_n 1, 1) := by decide +kernel
theorem dX11_wrongly_40 : decode cX11_wrongly 40 = .ok (.iaload, 1) := by decide +kernel
theorem dX11_wrongly_41 : decode cX11_wrongly 41 = .ok (.istore_n 2, 1) := by decide +kernel
theorem dX11_wrongly_42 : decode cX11_wrongly 42 = .ok (.aload_n 0, 1) := by decide +kernel
theorem dX11_wrongly_43 : decode cX11_wrongly 43 = .ok (.getfield 16, 3) := by decide +kernel
theorem dX11_wrongly_46 : decode cX11_wrongly 46 = .ok (.getfield 214, 3) := by decide +kernel
theorem dX11_wrongly_49 : decode cX11_wrongly 49 = .ok (.iload_n 2, 1) := by decide +kernel
theorem dX11_wrongly_50 : decode cX11_wrongly 50 = .ok (.iaload, 1) := by decide +kernel
theorem dX11_wrongly_51 : decode cX11_wrongly 51 = .ok (.ifCond .le 44, 3) := by decide +kernel
theorem dX11_wrongly_54 : decode cX11_wrongly 54 = .ok (.aload_n 0, 1) := by decide +kernel
theorem dX11_wrongly_55 : decode cX11_wrongly 55 = .ok (.getfield 50, 3) := by decide +kernel
theorem dX11_wrongly_58 : decode cX11_wrongly 58 = .ok (.iload_n 2, 1) := by decide +kernel
theorem dX11_wrongly_59 : decode cX11_wrongly 59 = .ok (.aload_n 0, 1) := by decide +kernel
theorem dX11_wrongly_60 : decode cX11_wrongly 60 = .ok (.getfield 16, 3) := by decide +kernel
theorem dX11_wrongly_63 : decode cX11_wrongly 63 = .ok (.getfield 149, 3) := by decide +kernel
theorem dX11_wrongly_66 : decode cX11_wrongly 66 = .ok (.invokevirtual 217, 3) := by decide +kernel
theorem dX11_wrongly_69 : decode cX11_wrongly 69 = .ok (.ifCond .eq 26, 3) := by decide +kernel
theorem dX11_wrongly_72 : decode cX11_wrongly 72 = .ok (.aload_n 0, 1) := by decide +kernel
theorem dX11_wrongly_73 : decode cX11_wrongly 73 = .ok (.getfield 50, 3) := by decide +kernel
theorem dX11_wrongly_76 : decode cX11_wrongly 76 = .ok (.getfield 221, 3) := by decide +kernel
theorem dX11_wrongly_79 : decode cX11_wrongly 79 = .ok (.aload_n 0, 1) := by decide +kernel
theorem dX11_wrongly_80 : decode cX11_wrongly 80 = .ok (.getfield 16, 3) := by decide +kernel
theorem dX11_wrongly_83 : decode cX11_wrongly 83 = .ok (.getfield 234, 3) := by decide +kernel
theorem dX11_wrongly_86 : decode cX11_wrongly 86 = .ok (.iload_n 1, 1) := by decide +kernel
theorem dX11_wrongly_87 : decode cX11_wrongly 87 = .ok (.iaload, 1) := by decide +kernel
theorem dX11_wrongly_88 : decode cX11_wrongly 88 = .ok (.if_icmp .ne 7, 3) := by decide +kernel
theorem dX11_wrongly_91 : decode cX11_wrongly 91 = .ok (.iconst 1, 1) := by decide +kernel
theorem dX11_wrongly_92 : decode cX11_wrongly 92 = .ok (.goto 4, 3) := by decide +kernel
theorem dX11_wrongly_95 : decode cX11_wrongly 95 = .ok (.iconst 0, 1) := by decide +kernel
theorem dX11_wrongly_96 : decode cX11_wrongly 96 = .ok (.istore_n 3, 1) := by decide +kernel
theorem dX11_wrongly_97 : decode cX11_wrongly 97 = .ok (.iload_n 3, 1) := by decide +kernel
theorem dX11_wrongly_98 : decode cX11_wrongly 98 = .ok (.ifCond .ne 9, 3) := by decide +kernel
theorem dX11_wrongly_101 : decode cX11_wrongly 101 = .ok (.aload_n 0, 1) := by decide +kernel
theorem dX11_wrongly_102 : decode cX11_wrongly 102 = .ok (.iload_n 1, 1) := by decide +kernel
theorem dX11_wrongly_103 : decode cX11_wrongly 103 = .ok (.invokevirtual 127, 3) := by decide +kernel
theorem dX11_wrongly_106 : decode cX11_wrongly 106 = .ok (.ireturn, 1) := by decide +kernel
theorem dX11_wrongly_107 : decode cX11_wrongly 107 = .ok (.iinc 1 1, 3) := by decide +kernel
theorem dX11_wrongly_110 : decode cX11_wrongly 110 = .ok (.goto (-92), 3) := by decide +kernel
theorem dX11_wrongly_113 : decode cX11_wrongly 113 = .ok (.aload_n 0, 1) := by decide +kernel
theorem dX11_wrongly_114 : decode cX11_wrongly 114 = .ok (.bipush (-2), 2) := by decide +kernel
theorem dX11_wrongly_116 : decode cX11_wrongly 116 = .ok (.invokevirtual 127, 3) := by decide +kernel
theorem dX11_wrongly_119 : decode cX11_wrongly 119 = .ok (.ireturn, 1) := by decide +kernel
theorem dX11_quickest_0 : decode cX11_quickest 0 = .ok (.aload_n 0, 1) := by decide +kernel
theorem dX11_quickest_1 : decode cX11_quickest 1 = .ok (.bipush 7, 2) := by decide +kernel
theorem dX11_quickest_3 : decode cX11_quickest 3 = .ok (.iload_n 1, 1) := by decide +kernel
theorem dX11_quickest_4 : decode cX11_quickest 4 = .ok (.invokevirtual 133, 3) := by decide +kernel
theorem dX11_quickest_7 : decode cX11_quickest 7 = .ok (.ifCond .eq 12, 3) := by decide +kernel
theorem dX11_quickest_10 : decode cX11_quickest 10 = .ok (.aload_n 0, 1) := by decide +kernel
theorem dX11_quickest_11 : decode cX11_quickest 11 = .ok (.iconst 4, 1) := by decide +kernel
theorem dX11_quickest_12 : decode cX11_quickest 12 = .ok (.iload_n 2, 1) := by decide +kernel
theorem dX11_quickest_13 : decode cX11_quickest 13 = .ok (.invokevirtual 133, 3) := by decide +kernel
theorem dX11_quickest_16 : decode cX11_quickest 16 = .ok (.ifCond .ne 9, 3) := by decide +kernel
theorem dX11_quickest_19 : decode cX11_quickest 19 = .ok (.aload_n 0, 1) := by decide +kernel
theorem dX11_quickest_20 : decode cX11_quickest 20 = .ok (.iconst 1, 1) := by decide +kernel
theorem dX11_quickest_21 : decode cX11_quickest 21 = .ok (.invokevirtual 102, 3) := by decide +kernel
theorem dX11_quickest_24 : decode cX11_quickest 24 = .ok (.ireturn, 1) := by decide +kernel
theorem dX11_quickest_25 : decode cX11_quickest 25 = .ok (.aload_n 0, 1) := by decide +kernel
theorem dX11_quickest_26 : decode cX11_quickest 26 = .ok (.iconst 0, 1) := by decide +kernel
theorem dX11_quickest_27 : decode cX11_quickest 27 = .ok (.iload_n 1, 1) := by decide +kernel
theorem dX11_quickest_28 : decode cX11_quickest 28 = .ok (.iload_n 2, 1) := by decide +kernel
theorem dX11_quickest_29 : decode cX11_quickest 29 = .ok (.invokevirtual 237, 3) := by decide +kernel
theorem dX11_quickest_32 : decode cX11_quickest 32 = .ok (.istore_n 3, 1) := by decide +kernel
theorem dX11_quickest_33 : decode cX11_quickest 33 = .ok (.aload_n 0, 1) := by decide +kernel
theorem dX11_quickest_34 : decode cX11_quickest 34 = .ok (.iload_n 3, 1) := by decide +kernel
theorem dX11_quickest_35 : decode cX11_quickest 35 = .ok (.iconst (-1), 1) := by decide +kernel
theorem dX11_quickest_36 : decode cX11_quickest 36 = .ok (.if_icmp .ne 8, 3) := by decide +kernel
theorem dX11_quickest_39 : decode cX11_quickest 39 = .ok (.bipush (-2), 2) := by decide +kernel
theorem dX11_quickest_41 : decode cX11_quickest 41 = .ok (.goto 11, 3) := by decide +kernel
theorem dX11_quickest_44 : decode cX11_quickest 44 = .ok (.aload_n 0, 1) := by decide +kernel
theorem dX11_quickest_45 : decode cX11_quickest 45 = .ok (.getfield 59, 3) := by decide +kernel
theorem dX11_quickest_48 : decode cX11_quickest 48 = .ok (.iload_n 3, 1) := by decide +kernel
theorem dX11_quickest_49 : decode cX11_quickest 49 = .ok (.invokevirtual 240, 3) := by decide +kernel
theorem dX11_quickest_52 : decode cX11_quickest 52 = .ok (.invokevirtual 127, 3) := by decide +kernel
theorem dX11_quickest_55 : decode cX11_quickest 55 = .ok (.ireturn, 1) := by decide +kernel
theorem dX11_cheapest_0 : decode cX11_cheapest 0 = .ok (.aload_n 0, 1) := by decide +kernel
theorem dX11_cheapest_1 : decode cX11_cheapest 1 = .ok (.bipush 7, 2) := by decide +kernel
theorem dX11_cheapest_3 : decode cX11_cheapest 3 = .ok (.iload_n 1, 1) := by decide +kernel
theorem dX11_cheapest_4 : decode cX11_cheapest 4 = .ok (.invokevirtual 133, 3) := by decide +kernel
theorem dX11_cheapest_7 : decode cX11_cheapest 7 = .ok (.ifCond .eq 12, 3) := by decide +kernel
theorem dX11_cheapest_10 : decode cX11_cheapest 10 = .ok (.aload_n 0, 1) := by decide +kernel
theorem dX11_cheapest_11 : decode cX11_cheapest 11 = .ok (.iconst 4, 1) := by decide +kernel
theorem dX11_cheapest_12 : decode cX11_cheapest 12 = .ok (.iload_n 2, 1) := by decide +kernel
theorem dX11_cheapest_13 : decode cX11_cheapest 13 = .ok (.invokevirtual 133, 3) := by decide +kernel
theorem dX11_cheapest_16 : decode cX11_cheapest 16 = .ok (.ifCond .ne 9, 3) := by decide +kernel
theorem dX11_cheapest_19 : decode cX11_cheapest 19 = .ok (.aload_n 0, 1) := by decide +kernel
theorem dX11_cheapest_20 : decode cX11_cheapest 20 = .ok (.iconst 1, 1) := by decide +kernel
theorem dX11_cheapest_21 : decode cX11_cheapest 21 = .ok (.invokevirtual 102, 3) := by decide +kernel
theorem dX11_cheapest_24 : decode cX11_cheapest 24 = .ok (.ireturn, 1) := by decide +kernel
theorem dX11_cheapest_25 : decode cX11_cheapest 25 = .ok (.aload_n 0, 1) := by decide +kernel
theorem dX11_cheapest_26 : decode cX11_cheapest 26 = .ok (.iconst 1, 1) := by decide +kernel
theorem dX11_cheapest_27 : decode cX11_cheapest 27 = .ok (.iload_n 1, 1) := by decide +kernel
theorem dX11_cheapest_28 : decode cX11_cheapest 28 = .ok (.iload_n 2, 1) := by decide +kernel
theorem dX11_cheapest_29 : decode cX11_cheapest 29 = .ok (.invokevirtual 237, 3) := by decide +kernel
theorem dX11_cheapest_32 : decode cX11_cheapest 32 = .ok (.istore_n 3, 1) := by decide +kernel
theorem dX11_cheapest_33 : decode cX11_cheapest 33 = .ok (.aload_n 0, 1) := by decide +kernel
theorem dX11_cheapest_34 : decode cX11_cheapest 34 = .ok (.iload_n 3, 1) := by decide +kernel
theorem dX11_cheapest_35 : decode cX11_cheapest 35 = .ok (.iconst (-1), 1) := by decide +kernel
theorem dX11_cheapest_36 : decode cX11_cheapest 36 = .ok (.if_icmp .ne 8, 3) := by decide +kernel
theorem dX11_cheapest_39 : decode cX11_cheapest 39 = .ok (.bipush (-2), 2) := by decide +kernel
theorem dX11_cheapest_41 : decode cX11_cheapest 41 = .ok (.goto 12, 3) := by decide +kernel
theorem dX11_cheapest_44 : decode cX11_cheapest 44 = .ok (.aload_n 0, 1) := by decide +kernel
theorem dX11_cheapest_45 : decode cX11_cheapest 45 = .ok (.getfield 59, 3) := by decide +kernel
theorem dX11_cheapest_48 : decode cX11_cheapest 48 = .ok (.getfield 243, 3) := by decide +kernel
theorem dX11_cheapest_51 : decode cX11_cheapest 51 = .ok (.iload_n 3, 1) := by decide +kernel
theorem dX11_cheapest_52 : decode cX11_cheapest 52 = .ok (.iaload, 1) := by decide +kernel
theorem dX11_cheapest_53 : decode cX11_cheapest 53 = .ok (.invokevirtual 127, 3) := by decide +kernel
theorem dX11_cheapest_56 : decode cX11_cheapest 56 = .ok (.ireturn, 1) := by decide +kernel
theorem dX11_secret_0 : decode cX11_secret 0 = .ok (.aload_n 0, 1) := by decide +kernel
theorem dX11_secret_1 : decode cX11_secret 1 = .ok (.bipush 7, 2) := by decide +kernel
theorem dX11_secret_3 : decode cX11_secret 3 = .ok (.iload_n 1, 1) := by decide +kernel
theorem dX11_secret_4 : decode cX11_secret 4 = .ok (.invokevirtual 133, 3) := by decide +kernel
theorem dX11_secret_7 : decode cX11_secret 7 = .ok (.ifCond .eq 12, 3) := by decide +kernel
theorem dX11_secret_10 : decode cX11_secret 10 = .ok (.aload_n 0, 1) := by decide +kernel
theorem dX11_secret_11 : decode cX11_secret 11 = .ok (.iconst 4, 1) := by decide +kernel
theorem dX11_secret_12 : decode cX11_secret 12 = .ok (.iload_n 2, 1) := by decide +kernel
theorem dX11_secret_13 : decode cX11_secret 13 = .ok (.invokevirtual 133, 3) := by decide +kernel
theorem dX11_secret_16 : decode cX11_secret 16 = .ok (.ifCond .ne 9, 3) := by decide +kernel
theorem dX11_secret_19 : decode cX11_secret 19 = .ok (.aload_n 0, 1) := by decide +kernel
theorem dX11_secret_20 : decode cX11_secret 20 = .ok (.iconst 1, 1) := by decide +kernel
theorem dX11_secret_21 : decode cX11_secret 21 = .ok (.invokevirtual 102, 3) := by decide +kernel
theorem dX11_secret_24 : decode cX11_secret 24 = .ok (.ireturn, 1) := by decide +kernel
theorem dX11_secret_25 : decode cX11_secret 25 = .ok (.aload_n 0, 1) := by decide +kernel
theorem dX11_secret_26 : decode cX11_secret 26 = .ok (.iconst 2, 1) := by decide +kernel
theorem dX11_secret_27 : decode cX11_secret 27 = .ok (.iload_n 1, 1) := by decide +kernel
theorem dX11_secret_28 : decode cX11_secret 28 = .ok (.iload_n 2, 1) := by decide +kernel
theorem dX11_secret_29 : decode cX11_secret 29 = .ok (.invokevirtual 237, 3) := by decide +kernel
theorem dX11_secret_32 : decode cX11_secret 32 = .ok (.istore_n 3, 1) := by decide +kernel
theorem dX11_secret_33 : decode cX11_secret 33 = .ok (.aload_n 0, 1) := by decide +kernel
theorem dX11_secret_34 : decode cX11_secret 34 = .ok (.iload_n 3, 1) := by decide +kernel
theorem dX11_secret_35 : decode cX11_secret 35 = .ok (.iconst (-1), 1) := by decide +kernel
theorem dX11_secret_36 : decode cX11_secret 36 = .ok (.if_icmp .ne 8, 3) := by decide +kernel
theorem dX11_secret_39 : decode cX11_secret 39 = .ok (.bipush (-2), 2) := by decide +kernel
theorem dX11_secret_41 : decode cX11_secret 41 = .ok (.goto 11, 3) := by decide +kernel
theorem dX11_secret_44 : decode cX11_secret 44 = .ok (.aload_n 0, 1) := by decide +kernel
theorem dX11_secret_45 : decode cX11_secret 45 = .ok (.getfield 59, 3) := by decide +kernel
theorem dX11_secret_48 : decode cX11_secret 48 = .ok (.iload_n 3, 1) := by decide +kernel
theorem dX11_secret_49 : decode cX11_secret 49 = .ok (.invokevirtual 240, 3) := by decide +kernel
theorem dX11_secret_52 : decode cX11_secret 52 = .ok (.invokevirtual 127, 3) := by decide +kernel
theorem dX11_secret_55 : decode cX11_secret 55 = .ok (.ireturn, 1) := by decide +kernel
theorem dX11_wayAt_0 : decode cX11_wayAt 0 = .ok (.iload_n 1, 1) := by decide +kernel
theorem dX11_wayAt_1 : decode cX11_wayAt 1 = .ok (.iconst 0, 1) := by decide +kernel
theorem dX11_wayAt_2 : decode cX11_wayAt 2 = .ok (.iconst 2, 1) := by decide +kernel
theorem dX11_wayAt_3 : decode cX11_wayAt 3 = .ok (.invokestatic 206, 3) := by decide +kernel
theorem dX11_wayAt_6 : decode cX11_wayAt 6 = .ok (.ifCond .eq 22, 3) := by decide +kernel
theorem dX11_wayAt_9 : decode cX11_wayAt 9 = .ok (.aload_n 0, 1) := by decide +kernel
theorem dX11_wayAt_10 : decode cX11_wayAt 10 = .ok (.bipush 7, 2) := by decide +kernel
theorem dX11_wayAt_12 : decode cX11_wayAt 12 = .ok (.iload_n 2, 1) := by decide +kernel
theorem dX11_wayAt_13 : decode cX11_wayAt 13 = .ok (.invokevirtual 133, 3) := by decide +kernel
theorem dX11_wayAt_16 : decode cX11_wayAt 16 = .ok (.ifCond .eq 12, 3) := by decide +kernel
theorem dX11_wayAt_19 : decode cX11_wayAt 19 = .ok (.aload_n 0, 1) := by decide +kernel
theorem dX11_wayAt_20 : decode cX11_wayAt 20 = .ok (.iconst 4, 1) := by decide +kernel
theorem dX11_wayAt_21 : decode cX11_wayAt 21 = .ok (.iload_n 3, 1) := by decide +kernel
theorem dX11_wayAt_22 : decode cX11_wayAt 22 = .ok (.invokevirtual 133, 3) := by decide +kernel
theorem dX11_wayAt_25 : decode cX11_wayAt 25 = .ok (.ifCond .ne 9, 3) := by decide +kernel
theorem dX11_wayAt_28 : decode cX11_wayAt 28 = .ok (.aload_n 0, 1) := by decide +kernel
theorem dX11_wayAt_29 : decode cX11_wayAt 29 = .ok (.iconst 1, 1) := by decide +kernel
theorem dX11_wayAt_30 : decode cX11_wayAt 30 = .ok (.invokevirtual 102, 3) := by decide +kernel
theorem dX11_wayAt_33 : decode cX11_wayAt 33 = .ok (.ireturn, 1) := by decide +kernel
theorem dX11_wayAt_34 : decode cX11_wayAt 34 = .ok (.aload_n 0, 1) := by decide +kernel
theorem dX11_wayAt_35 : decode cX11_wayAt 35 = .ok (.iload_n 1, 1) := by decide +kernel
theorem dX11_wayAt_36 : decode cX11_wayAt 36 = .ok (.iload_n 2, 1) := by decide +kernel
theorem dX11_wayAt_37 : decode cX11_wayAt 37 = .ok (.iload_n 3, 1) := by decide +kernel
theorem dX11_wayAt_38 : decode cX11_wayAt 38 = .ok (.invokevirtual 237, 3) := by decide +kernel
theorem dX11_wayAt_41 : decode cX11_wayAt 41 = .ok (.istore 5, 2) := by decide +kernel
theorem dX11_wayAt_43 : decode cX11_wayAt 43 = .ok (.iload 5, 2) := by decide +kernel
theorem dX11_wayAt_45 : decode cX11_wayAt 45 = .ok (.iconst (-1), 1) := by decide +kernel
theorem dX11_wayAt_46 : decode cX11_wayAt 46 = .ok (.if_icmp .eq 23, 3) := by decide +kernel
theorem dX11_wayAt_49 : decode cX11_wayAt 49 = .ok (.iload 4, 2) := by decide +kernel
theorem dX11_wayAt_51 : decode cX11_wayAt 51 = .ok (.ifCond .lt 18, 3) := by decide +kernel
theorem dX11_wayAt_54 : decode cX11_wayAt 54 = .ok (.iload 4, 2) := by decide +kernel
theorem dX11_wayAt_56 : decode cX11_wayAt 56 = .ok (.aload_n 0, 1) := by decide +kernel
theorem dX11_wayAt_57 : decode cX11_wayAt 57 = .ok (.getfield 59, 3) := by decide +kernel
theorem dX11_wayAt_60 : decode cX11_wayAt 60 = .ok (.getfield 246, 3) := by decide +kernel
theorem dX11_wayAt_63 : decode cX11_wayAt 63 = .ok (.iload 5, 2) := by decide +kernel
theorem dX11_wayAt_65 : decode cX11_wayAt 65 = .ok (.iaload, 1) := by decide +kernel
theorem dX11_wayAt_66 : decode cX11_wayAt 66 = .ok (.if_icmp .lt 9, 3) := by decide +kernel
theorem dX11_wayAt_69 : decode cX11_wayAt 69 = .ok (.aload_n 0, 1) := by decide +kernel
theorem dX11_wayAt_70 : decode cX11_wayAt 70 = .ok (.iconst 1, 1) := by decide +kernel
theorem dX11_wayAt_71 : decode cX11_wayAt 71 = .ok (.invokevirtual 102, 3) := by decide +kernel
theorem dX11_wayAt_74 : decode cX11_wayAt 74 = .ok (.ireturn, 1) := by decide +kernel
theorem dX11_wayAt_75 : decode cX11_wayAt 75 = .ok (.aload_n 0, 1) := by decide +kernel
theorem dX11_wayAt_76 : decode cX11_wayAt 76 = .ok (.aload_n 0, 1) := by decide +kernel
theorem dX11_wayAt_77 : decode cX11_wayAt 77 = .ok (.getfield 59, 3) := by decide +kernel
theorem dX11_wayAt_80 : decode cX11_wayAt 80 = .ok (.getfield 249, 3) := by decide +kernel
theorem dX11_wayAt_83 : decode cX11_wayAt 83 = .ok (.iload 5, 2) := by decide +kernel
theorem dX11_wayAt_85 : decode cX11_wayAt 85 = .ok (.aaload, 1) := by decide +kernel
theorem dX11_wayAt_86 : decode cX11_wayAt 86 = .ok (.iload 4, 2) := by decide +kernel
theorem dX11_wayAt_88 : decode cX11_wayAt 88 = .ok (.iaload, 1) := by decide +kernel
theorem dX11_wayAt_89 : decode cX11_wayAt 89 = .ok (.invokevirtual 127, 3) := by decide +kernel
theorem dX11_wayAt_92 : decode cX11_wayAt 92 = .ok (.ireturn, 1) := by decide +kernel
theorem dX11_rounds_0 : decode cX11_rounds 0 = .ok (.aload_n 0, 1) := by decide +kernel
theorem dX11_rounds_1 : decode cX11_rounds 1 = .ok (.getfield 16, 3) := by decide +kernel
theorem dX11_rounds_4 : decode cX11_rounds 4 = .ok (.invokevirtual 227, 3) := by decide +kernel
theorem dX11_rounds_7 : decode cX11_rounds 7 = .ok (.ifCond .ne 9, 3) := by decide +kernel
theorem dX11_rounds_10 : decode cX11_rounds 10 = .ok (.aload_n 0, 1) := by decide +kernel
theorem dX11_rounds_11 : decode cX11_rounds 11 = .ok (.iconst 1, 1) := by decide +kernel
theorem dX11_rounds_12 : decode cX11_rounds 12 = .ok (.invokevirtual 102, 3) := by decide +kernel
theorem dX11_rounds_15 : decode cX11_rounds 15 = .ok (.ireturn, 1) := by decide +kernel
theorem dX11_rounds_16 : decode cX11_rounds 16 = .ok (.iconst 0, 1) := by decide +kernel
theorem dX11_rounds_17 : decode cX11_rounds 17 = .ok (.istore_n 1, 1) := by decide +kernel
theorem dX11_rounds_18 : decode cX11_rounds 18 = .ok (.iconst 0, 1) := by decide +kernel
theorem dX11_rounds_19 : decode cX11_rounds 19 = .ok (.istore_n 2, 1) := by decide +kernel
theorem dX11_rounds_20 : decode cX11_rounds 20 = .ok (.iload_n 2, 1) := by decide +kernel
theorem dX11_rounds_21 : decode cX11_rounds 21 = .ok (.aload_n 0, 1) := by decide +kernel
theorem dX11_rounds_22 : decode cX11_rounds 22 = .ok (.getfield 16, 3) := by decide +kernel
theorem dX11_rounds_25 : decode cX11_rounds 25 = .ok (.getfield 124, 3) := by decide +kernel
theorem dX11_rounds_28 : decode cX11_rounds 28 = .ok (.bipush 7, 2) := by decide +kernel
theorem dX11_rounds_30 : decode cX11_rounds 30 = .ok (.iaload, 1) := by decide +kernel
theorem dX11_rounds_31 : decode cX11_rounds 31 = .ok (.if_icmp .ge 42, 3) := by decide +kernel
theorem dX11_rounds_34 : decode cX11_rounds 34 = .ok (.iconst 0, 1) := by decide +kernel
theorem dX11_rounds_35 : decode cX11_rounds 35 = .ok (.istore_n 3, 1) := by decide +kernel
theorem dX11_rounds_36 : decode cX11_rounds 36 = .ok (.iload_n 3, 1) := by decide +kernel
theorem dX11_rounds_37 : decode cX11_rounds 37 = .ok (.aload_n 0, 1) := by decide +kernel
theorem dX11_rounds_38 : decode cX11_rounds 38 = .ok (.getfield 16, 3) := by decide +kernel
theorem dX11_rounds_41 : decode cX11_rounds 41 = .ok (.getfield 124, 3) := by decide +kernel
theorem dX11_rounds_44 : decode cX11_rounds 44 = .ok (.iconst 4, 1) := by decide +kernel
theorem dX11_rounds_45 : decode cX11_rounds 45 = .ok (.iaload, 1) := by decide +kernel
theorem dX11_rounds_46 : decode cX11_rounds 46 = .ok (.if_icmp .ge 21, 3) := by decide +kernel
theorem dX11_rounds_49 : decode cX11_rounds 49 = .ok (.aload_n 0, 1) := by decide +kernel
theorem dX11_rounds_50 : decode cX11_rounds 50 = .ok (.iload_n 2, 1) := by decide +kernel
theorem dX11_rounds_51 : decode cX11_rounds 51 = .ok (.iload_n 3, 1) := by decide +kernel
theorem dX11_rounds_52 : decode cX11_rounds 52 = .ok (.invokevirtual 252, 3) := by decide +kernel
theorem dX11_rounds_55 : decode cX11_rounds 55 = .ok (.ifCond .eq 6, 3) := by decide +kernel
theorem dX11_rounds_58 : decode cX11_rounds 58 = .ok (.iinc 1 1, 3) := by decide +kernel
theorem dX11_rounds_61 : decode cX11_rounds 61 = .ok (.iinc 3 1, 3) := by decide +kernel
theorem dX11_rounds_64 : decode cX11_rounds 64 = .ok (.goto (-28), 3) := by decide +kernel
theorem dX11_rounds_67 : decode cX11_rounds 67 = .ok (.iinc 2 1, 3) := by decide +kernel
theorem dX11_rounds_70 : decode cX11_rounds 70 = .ok (.goto (-50), 3) := by decide +kernel
theorem dX11_rounds_73 : decode cX11_rounds 73 = .ok (.aload_n 0, 1) := by decide +kernel
theorem dX11_rounds_74 : decode cX11_rounds 74 = .ok (.iload_n 1, 1) := by decide +kernel
theorem dX11_rounds_75 : decode cX11_rounds 75 = .ok (.invokevirtual 127, 3) := by decide +kernel
theorem dX11_rounds_78 : decode cX11_rounds 78 = .ok (.ireturn, 1) := by decide +kernel
theorem dX11_cover_0 : decode cX11_cover 0 = .ok (.aload_n 0, 1) := by decide +kernel
theorem dX11_cover_1 : decode cX11_cover 1 = .ok (.bipush 7, 2) := by decide +kernel
theorem dX11_cover_3 : decode cX11_cover 3 = .ok (.iload_n 1, 1) := by decide +kernel
theorem dX11_cover_4 : decode cX11_cover 4 = .ok (.invokevirtual 133, 3) := by decide +kernel
theorem dX11_cover_7 : decode cX11_cover 7 = .ok (.ifCond .eq 34, 3) := by decide +kernel
theorem dX11_cover_10 : decode cX11_cover 10 = .ok (.aload_n 0, 1) := by decide +kernel
theorem dX11_cover_11 : decode cX11_cover 11 = .ok (.iconst 2, 1) := by decide +kernel
theorem dX11_cover_12 : decode cX11_cover 12 = .ok (.iload_n 2, 1) := by decide +kernel
theorem dX11_cover_13 : decode cX11_cover 13 = .ok (.invokevirtual 133, 3) := by decide +kernel
theorem dX11_cover_16 : decode cX11_cover 16 = .ok (.ifCond .eq 25, 3) := by decide +kernel
theorem dX11_cover_19 : decode cX11_cover 19 = .ok (.aload_n 0, 1) := by decide +kernel
theorem dX11_cover_20 : decode cX11_cover 20 = .ok (.iconst 4, 1) := by decide +kernel
theorem dX11_cover_21 : decode cX11_cover 21 = .ok (.iload_n 3, 1) := by decide +kernel
theorem dX11_cover_22 : decode cX11_cover 22 = .ok (.invokevirtual 133, 3) := by decide +kernel
theorem dX11_cover_25 : decode cX11_cover 25 = .ok (.ifCond .eq 16, 3) := by decide +kernel
theorem dX11_cover_28 : decode cX11_cover 28 = .ok (.aload_n 0, 1) := by decide +kernel
theorem dX11_cover_29 : decode cX11_cover 29 = .ok (.getfield 16, 3) := by decide +kernel
theorem dX11_cover_32 : decode cX11_cover 32 = .ok (.getfield 137, 3) := by decide +kernel
theorem dX11_cover_35 : decode cX11_cover 35 = .ok (.iload_n 2, 1) := by decide +kernel
theorem dX11_cover_36 : decode cX11_cover 36 = .ok (.iaload, 1) := by decide +kernel
theorem dX11_cover_37 : decode cX11_cover 37 = .ok (.iconst 2, 1) := by decide +kernel
theorem dX11_cover_38 : decode cX11_cover 38 = .ok (.if_icmp .eq 9, 3) := by decide +kernel
theorem dX11_cover_41 : decode cX11_cover 41 = .ok (.aload_n 0, 1) := by decide +kernel
theorem dX11_cover_42 : decode cX11_cover 42 = .ok (.iconst 1, 1) := by decide +kernel
theorem dX11_cover_43 : decode cX11_cover 43 = .ok (.invokevirtual 102, 3) := by decide +kernel
theorem dX11_cover_46 : decode cX11_cover 46 = .ok (.ireturn, 1) := by decide +kernel
theorem dX11_cover_47 : decode cX11_cover 47 = .ok (.aload_n 0, 1) := by decide +kernel
theorem dX11_cover_48 : decode cX11_cover 48 = .ok (.iconst 0, 1) := by decide +kernel
theorem dX11_cover_49 : decode cX11_cover 49 = .ok (.iload_n 1, 1) := by decide +kernel
theorem dX11_cover_50 : decode cX11_cover 50 = .ok (.iload_n 3, 1) := by decide +kernel
theorem dX11_cover_51 : decode cX11_cover 51 = .ok (.invokevirtual 237, 3) := by decide +kernel
theorem dX11_cover_54 : decode cX11_cover 54 = .ok (.istore 4, 2) := by decide +kernel
theorem dX11_cover_56 : decode cX11_cover 56 = .ok (.aload_n 0, 1) := by decide +kernel
theorem dX11_cover_57 : decode cX11_cover 57 = .ok (.iload 4, 2) := by decide +kernel
theorem dX11_cover_59 : decode cX11_cover 59 = .ok (.iconst (-1), 1) := by decide +kernel
theorem dX11_cover_60 : decode cX11_cover 60 = .ok (.if_icmp .ne 8, 3) := by decide +kernel
theorem dX11_cover_63 : decode cX11_cover 63 = .ok (.bipush (-2), 2) := by decide +kernel
theorem dX11_cover_65 : decode cX11_cover 65 = .ok (.goto 11, 3) := by decide +kernel
theorem dX11_cover_68 : decode cX11_cover 68 = .ok (.aload_n 0, 1) := by decide +kernel
theorem dX11_cover_69 : decode cX11_cover 69 = .ok (.iload_n 1, 1) := by decide +kernel
theorem dX11_cover_70 : decode cX11_cover 70 = .ok (.iload_n 2, 1) := by decide +kernel
theorem dX11_cover_71 : decode cX11_cover 71 = .ok (.iload 4, 2) := by decide +kernel
theorem dX11_cover_73 : decode cX11_cover 73 = .ok (.invokevirtual 255, 3) := by decide +kernel
theorem dX11_cover_76 : decode cX11_cover 76 = .ok (.invokevirtual 127, 3) := by decide +kernel
theorem dX11_cover_79 : decode cX11_cover 79 = .ok (.ireturn, 1) := by decide +kernel
theorem dX11_been_0 : decode cX11_been 0 = .ok (.aload_n 0, 1) := by decide +kernel
theorem dX11_been_1 : decode cX11_been 1 = .ok (.invokevirtual 258, 3) := by decide +kernel
theorem dX11_been_4 : decode cX11_been 4 = .ok (.istore_n 1, 1) := by decide +kernel
theorem dX11_been_5 : decode cX11_been 5 = .ok (.iload_n 1, 1) := by decide +kernel
theorem dX11_been_6 : decode cX11_been 6 = .ok (.ifCond .eq 9, 3) := by decide +kernel
theorem dX11_been_9 : decode cX11_been 9 = .ok (.aload_n 0, 1) := by decide +kernel
theorem dX11_been_10 : decode cX11_been 10 = .ok (.iload_n 1, 1) := by decide +kernel
theorem dX11_been_11 : decode cX11_been 11 = .ok (.invokevirtual 102, 3) := by decide +kernel
theorem dX11_been_14 : decode cX11_been 14 = .ok (.ireturn, 1) := by decide +kernel
theorem dX11_been_15 : decode cX11_been 15 = .ok (.aload_n 0, 1) := by decide +kernel
theorem dX11_been_16 : decode cX11_been 16 = .ok (.getfield 66, 3) := by decide +kernel
theorem dX11_been_19 : decode cX11_been 19 = .ok (.invokevirtual 261, 3) := by decide +kernel
theorem dX11_been_22 : decode cX11_been 22 = .ok (.aload_n 0, 1) := by decide +kernel
theorem dX11_been_23 : decode cX11_been 23 = .ok (.aload_n 0, 1) := by decide +kernel
theorem dX11_been_24 : decode cX11_been 24 = .ok (.getfield 66, 3) := by decide +kernel
theorem dX11_been_27 : decode cX11_been 27 = .ok (.getfield 264, 3) := by decide +kernel
theorem dX11_been_30 : decode cX11_been 30 = .ok (.invokevirtual 127, 3) := by decide +kernel
theorem dX11_been_33 : decode cX11_been 33 = .ok (.ireturn, 1) := by decide +kernel
theorem dX11_could_0 : decode cX11_could 0 = .ok (.aload_n 0, 1) := by decide +kernel
theorem dX11_could_1 : decode cX11_could 1 = .ok (.invokevirtual 258, 3) := by decide +kernel
theorem dX11_could_4 : decode cX11_could 4 = .ok (.istore_n 1, 1) := by decide +kernel
theorem dX11_could_5 : decode cX11_could 5 = .ok (.iload_n 1, 1) := by decide +kernel
theorem dX11_could_6 : decode cX11_could 6 = .ok (.ifCond .eq 9, 3) := by decide +kernel
theorem dX11_could_9 : decode cX11_could 9 = .ok (.aload_n 0, 1) := by decide +kernel
theorem dX11_could_10 : decode cX11_could 10 = .ok (.iload_n 1, 1) := by decide +kernel
theorem dX11_could_11 : decode cX11_could 11 = .ok (.invokevirtual 102, 3) := by decide +kernel
theorem dX11_could_14 : decode cX11_could 14 = .ok (.ireturn, 1) := by decide +kernel
theorem dX11_could_15 : decode cX11_could 15 = .ok (.aload_n 0, 1) := by decide +kernel
theorem dX11_could_16 : decode cX11_could 16 = .ok (.getfield 66, 3) := by decide +kernel
theorem dX11_could_19 : decode cX11_could 19 = .ok (.invokevirtual 261, 3) := by decide +kernel
theorem dX11_could_22 : decode cX11_could 22 = .ok (.aload_n 0, 1) := by decide +kernel
theorem dX11_could_23 : decode cX11_could 23 = .ok (.aload_n 0, 1) := by decide +kernel
theorem dX11_could_24 : decode cX11_could 24 = .ok (.getfield 66, 3) := by decide +kernel
theorem dX11_could_27 : decode cX11_could 27 = .ok (.getfield 267, 3) := by decide +kernel
theorem dX11_could_30 : decode cX11_could 30 = .ok (.invokevirtual 127, 3) := by decide +kernel
theorem dX11_could_33 : decode cX11_could 33 = .ok (.ireturn, 1) := by decide +kernel
theorem dX11_surely_0 : decode cX11_surely 0 = .ok (.aload_n 0, 1) := by decide +kernel
theorem dX11_surely_1 : decode cX11_surely 1 = .ok (.invokevirtual 258, 3) := by decide +kernel
theorem dX11_surely_4 : decode cX11_surely 4 = .ok (.istore_n 1, 1) := by decide +kernel
theorem dX11_surely_5 : decode cX11_surely 5 = .ok (.iload_n 1, 1) := by decide +kernel
theorem dX11_surely_6 : decode cX11_surely 6 = .ok (.ifCond .eq 9, 3) := by decide +kernel
theorem dX11_surely_9 : decode cX11_surely 9 = .ok (.aload_n 0, 1) := by decide +kernel
theorem dX11_surely_10 : decode cX11_surely 10 = .ok (.iload_n 1, 1) := by decide +kernel
theorem dX11_surely_11 : decode cX11_surely 11 = .ok (.invokevirtual 102, 3) := by decide +kernel
theorem dX11_surely_14 : decode cX11_surely 14 = .ok (.ireturn, 1) := by decide +kernel
theorem dX11_surely_15 : decode cX11_surely 15 = .ok (.aload_n 0, 1) := by decide +kernel
theorem dX11_surely_16 : decode cX11_surely 16 = .ok (.getfield 66, 3) := by decide +kernel
theorem dX11_surely_19 : decode cX11_surely 19 = .ok (.invokevirtual 261, 3) := by decide +kernel
theorem dX11_surely_22 : decode cX11_surely 22 = .ok (.aload_n 0, 1) := by decide +kernel
theorem dX11_surely_23 : decode cX11_surely 23 = .ok (.aload_n 0, 1) := by decide +kernel
theorem dX11_surely_24 : decode cX11_surely 24 = .ok (.getfield 66, 3) := by decide +kernel
theorem dX11_surely_27 : decode cX11_surely 27 = .ok (.getfield 264, 3) := by decide +kernel
theorem dX11_surely_30 : decode cX11_surely 30 = .ok (.ifCond .ne 7, 3) := by decide +kernel
theorem dX11_surely_33 : decode cX11_surely 33 = .ok (.iconst 0, 1) := by decide +kernel
theorem dX11_surely_34 : decode cX11_surely 34 = .ok (.goto 10, 3) := by decide +kernel
theorem dX11_surely_37 : decode cX11_surely 37 = .ok (.aload_n 0, 1) := by decide +kernel
theorem dX11_surely_38 : decode cX11_surely 38 = .ok (.getfield 66, 3) := by decide +kernel
theorem dX11_surely_41 : decode cX11_surely 41 = .ok (.getfield 270, 3) := by decide +kernel
theorem dX11_surely_44 : decode cX11_surely 44 = .ok (.invokevirtual 127, 3) := by decide +kernel
theorem dX11_surely_47 : decode cX11_surely 47 = .ok (.ireturn, 1) := by decide +kernel
theorem dX11_beenAt_0 : decode cX11_beenAt 0 = .ok (.aload_n 0, 1) := by decide +kernel
theorem dX11_beenAt_1 : decode cX11_beenAt 1 = .ok (.invokevirtual 258, 3) := by decide +kernel
theorem dX11_beenAt_4 : decode cX11_beenAt 4 = .ok (.istore_n 2, 1) := by decide +kernel
theorem dX11_beenAt_5 : decode cX11_beenAt 5 = .ok (.iload_n 2, 1) := by decide +kernel
theorem dX11_beenAt_6 : decode cX11_beenAt 6 = .ok (.ifCond .eq 9, 3) := by decide +kernel
theorem dX11_beenAt_9 : decode cX11_beenAt 9 = .ok (.aload_n 0, 1) := by decide +kernel
theorem dX11_beenAt_10 : decode cX11_beenAt 10 = .ok (.iload_n 2, 1) := by decide +kernel
theorem dX11_beenAt_11 : decode cX11_beenAt 11 = .ok (.invokevirtual 102, 3) := by decide +kernel
theorem dX11_beenAt_14 : decode cX11_beenAt 14 = .ok (.ireturn, 1) := by decide +kernel
theorem dX11_beenAt_15 : decode cX11_beenAt 15 = .ok (.iload_n 1, 1) := by decide +kernel
theorem dX11_beenAt_16 : decode cX11_beenAt 16 = .ok (.iconst 0, 1) := by decide +kernel
theorem dX11_beenAt_17 : decode cX11_beenAt 17 = .ok (.iconst 3, 1) := by decide +kernel
theorem dX11_beenAt_18 : decode cX11_beenAt 18 = .ok (.invokestatic 206, 3) := by decide +kernel
theorem dX11_beenAt_21 : decode cX11_beenAt 21 = .ok (.ifCond .ne 9, 3) := by decide +kernel
theorem dX11_beenAt_24 : decode cX11_beenAt 24 = .ok (.aload_n 0, 1) := by decide +kernel
theorem dX11_beenAt_25 : decode cX11_beenAt 25 = .ok (.iconst 1, 1) := by decide +kernel
theorem dX11_beenAt_26 : decode cX11_beenAt 26 = .ok (.invokevirtual 102, 3) := by decide +kernel
theorem dX11_beenAt_29 : decode cX11_beenAt 29 = .ok (.ireturn, 1) := by decide +kernel
theorem dX11_beenAt_30 : decode cX11_beenAt 30 = .ok (.aload_n 0, 1) := by decide +kernel
theorem dX11_beenAt_31 : decode cX11_beenAt 31 = .ok (.getfield 66, 3) := by decide +kernel
theorem dX11_beenAt_34 : decode cX11_beenAt 34 = .ok (.invokevirtual 261, 3) := by decide +kernel
theorem dX11_beenAt_37 : decode cX11_beenAt 37 = .ok (.aload_n 0, 1) := by decide +kernel
theorem dX11_beenAt_38 : decode cX11_beenAt 38 = .ok (.iload_n 1, 1) := by decide +kernel
theorem dX11_beenAt_39 : decode cX11_beenAt 39 = .ok (.aload_n 0, 1) := by decide +kernel
theorem dX11_beenAt_40 : decode cX11_beenAt 40 = .ok (.getfield 66, 3) := by decide +kernel
theorem dX11_beenAt_43 : decode cX11_beenAt 43 = .ok (.getfield 273, 3) := by decide +kernel
theorem dX11_beenAt_46 : decode cX11_beenAt 46 = .ok (.if_icmp .ge 15, 3) := by decide +kernel
theorem dX11_beenAt_49 : decode cX11_beenAt 49 = .ok (.aload_n 0, 1) := by decide +kernel
theorem dX11_beenAt_50 : decode cX11_beenAt 50 = .ok (.getfield 66, 3) := by decide +kernel
theorem dX11_beenAt_53 : decode cX11_beenAt 53 = .ok (.getfield 276, 3) := by decide +kernel
theorem dX11_beenAt_56 : decode cX11_beenAt 56 = .ok (.iload_n 1, 1) := by decide +kernel
theorem dX11_beenAt_57 : decode cX11_beenAt 57 = .ok (.iaload, 1) := by decide +kernel
theorem dX11_beenAt_58 : decode cX11_beenAt 58 = .ok (.goto 5, 3) := by decide +kernel
theorem dX11_beenAt_61 : decode cX11_beenAt 61 = .ok (.bipush (-2), 2) := by decide +kernel
theorem dX11_beenAt_63 : decode cX11_beenAt 63 = .ok (.invokevirtual 127, 3) := by decide +kernel
theorem dX11_beenAt_66 : decode cX11_beenAt 66 = .ok (.ireturn, 1) := by decide +kernel
theorem dX11_posts_0 : decode cX11_posts 0 = .ok (.aload_n 0, 1) := by decide +kernel
theorem dX11_posts_1 : decode cX11_posts 1 = .ok (.getfield 16, 3) := by decide +kernel
theorem dX11_posts_4 : decode cX11_posts 4 = .ok (.invokevirtual 227, 3) := by decide +kernel
theorem dX11_posts_7 : decode cX11_posts 7 = .ok (.ifCond .ne 9, 3) := by decide +kernel
theorem dX11_posts_10 : decode cX11_posts 10 = .ok (.aload_n 0, 1) := by decide +kernel
theorem dX11_posts_11 : decode cX11_posts 11 = .ok (.iconst 1, 1) := by decide +kernel
theorem dX11_posts_12 : decode cX11_posts 12 = .ok (.invokevirtual 102, 3) := by decide +kernel
theorem dX11_posts_15 : decode cX11_posts 15 = .ok (.ireturn, 1) := by decide +kernel
theorem dX11_posts_16 : decode cX11_posts 16 = .ok (.aload_n 0, 1) := by decide +kernel
theorem dX11_posts_17 : decode cX11_posts 17 = .ok (.getfield 75, 3) := by decide +kernel
theorem dX11_posts_20 : decode cX11_posts 20 = .ok (.invokevirtual 279, 3) := by decide +kernel
theorem dX11_posts_23 : decode cX11_posts 23 = .ok (.aload_n 0, 1) := by decide +kernel
theorem dX11_posts_24 : decode cX11_posts 24 = .ok (.aload_n 0, 1) := by decide +kernel
theorem dX11_posts_25 : decode cX11_posts 25 = .ok (.getfield 75, 3) := by decide +kernel
theorem dX11_posts_28 : decode cX11_posts 28 = .ok (.getfield 280, 3) := by decide +kernel
theorem dX11_posts_31 : decode cX11_posts 31 = .ok (.invokevirtual 127, 3) := by decide +kernel
theorem dX11_posts_34 : decode cX11_posts 34 = .ok (.ireturn, 1) := by decide +kernel
theorem dX11_postOf_0 : decode cX11_postOf 0 = .ok (.aload_n 0, 1) := by decide +kernel
theorem dX11_postOf_1 : decode cX11_postOf 1 = .ok (.iconst 4, 1) := by decide +kernel
theorem dX11_postOf_2 : decode cX11_postOf 2 = .ok (.iload_n 1, 1) := by decide +kernel
theorem dX11_postOf_3 : decode cX11_postOf 3 = .ok (.invokevirtual 133, 3) := by decide +kernel
theorem dX11_postOf_6 : decode cX11_postOf 6 = .ok (.ifCond .ne 9, 3) := by decide +kernel
theorem dX11_postOf_9 : decode cX11_postOf 9 = .ok (.aload_n 0, 1) := by decide +kernel
theorem dX11_postOf_10 : decode cX11_postOf 10 = .ok (.iconst 1, 1) := by decide +kernel
theorem dX11_postOf_11 : decode cX11_postOf 11 = .ok (.invokevirtual 102, 3) := by decide +kernel
theorem dX11_postOf_14 : decode cX11_postOf 14 = .ok (.ireturn, 1) := by decide +kernel
theorem dX11_postOf_15 : decode cX11_postOf 15 = .ok (.aload_n 0, 1) := by decide +kernel
theorem dX11_postOf_16 : decode cX11_postOf 16 = .ok (.getfield 75, 3) := by decide +kernel
theorem dX11_postOf_19 : decode cX11_postOf 19 = .ok (.invokevirtual 279, 3) := by decide +kernel
theorem dX11_postOf_22 : decode cX11_postOf 22 = .ok (.aload_n 0, 1) := by decide +kernel
theorem dX11_postOf_23 : decode cX11_postOf 23 = .ok (.aload_n 0, 1) := by decide +kernel
theorem dX11_postOf_24 : decode cX11_postOf 24 = .ok (.getfield 75, 3) := by decide +kernel
theorem dX11_postOf_27 : decode cX11_postOf 27 = .ok (.getfield 283, 3) := by decide +kernel
theorem dX11_postOf_30 : decode cX11_postOf 30 = .ok (.iload_n 1, 1) := by decide +kernel
theorem dX11_postOf_31 : decode cX11_postOf 31 = .ok (.iaload, 1) := by decide +kernel
theorem dX11_postOf_32 : decode cX11_postOf 32 = .ok (.invokevirtual 127, 3) := by decide +kernel
theorem dX11_postOf_35 : decode cX11_postOf 35 = .ok (.ireturn, 1) := by decide +kernel
theorem dX11_rests_0 : decode cX11_rests 0 = .ok (.aload_n 0, 1) := by decide +kernel
theorem dX11_rests_1 : decode cX11_rests 1 = .ok (.iload_n 1, 1) := by decide +kernel
theorem dX11_rests_2 : decode cX11_rests 2 = .ok (.iload_n 2, 1) := by decide +kernel
theorem dX11_rests_3 : decode cX11_rests 3 = .ok (.invokevirtual 286, 3) := by decide +kernel
theorem dX11_rests_6 : decode cX11_rests 6 = .ok (.istore_n 3, 1) := by decide +kernel
theorem dX11_rests_7 : decode cX11_rests 7 = .ok (.iload_n 3, 1) := by decide +kernel
theorem dX11_rests_8 : decode cX11_rests 8 = .ok (.ifCond .eq 9, 3) := by decide +kernel
theorem dX11_rests_11 : decode cX11_rests 11 = .ok (.aload_n 0, 1) := by decide +kernel
theorem dX11_rests_12 : decode cX11_rests 12 = .ok (.iload_n 3, 1) := by decide +kernel
theorem dX11_rests_13 : decode cX11_rests 13 = .ok (.invokevirtual 102, 3) := by decide +kernel
theorem dX11_rests_16 : decode cX11_rests 16 = .ok (.ireturn, 1) := by decide +kernel
theorem dX11_rests_17 : decode cX11_rests 17 = .ok (.aload_n 0, 1) := by decide +kernel
theorem dX11_rests_18 : decode cX11_rests 18 = .ok (.aload_n 0, 1) := by decide +kernel
theorem dX11_rests_19 : decode cX11_rests 19 = .ok (.getfield 84, 3) := by decide +kernel
theorem dX11_rests_22 : decode cX11_rests 22 = .ok (.getfield 290, 3) := by decide +kernel
theorem dX11_rests_25 : decode cX11_rests 25 = .ok (.invokevirtual 127, 3) := by decide +kernel
theorem dX11_rests_28 : decode cX11_rests 28 = .ok (.ireturn, 1) := by decide +kernel
theorem dX11_rest_0 : decode cX11_rest 0 = .ok (.aload_n 0, 1) := by decide +kernel
theorem dX11_rest_1 : decode cX11_rest 1 = .ok (.iload_n 1, 1) := by decide +kernel
theorem dX11_rest_2 : decode cX11_rest 2 = .ok (.iload_n 2, 1) := by decide +kernel
theorem dX11_rest_3 : decode cX11_rest 3 = .ok (.invokevirtual 286, 3) := by decide +kernel
theorem dX11_rest_6 : decode cX11_rest 6 = .ok (.istore_n 3, 1) := by decide +kernel
theorem dX11_rest_7 : decode cX11_rest 7 = .ok (.iload_n 3, 1) := by decide +kernel
theorem dX11_rest_8 : decode cX11_rest 8 = .ok (.ifCond .eq 9, 3) := by decide +kernel
theorem dX11_rest_11 : decode cX11_rest 11 = .ok (.aload_n 0, 1) := by decide +kernel
theorem dX11_rest_12 : decode cX11_rest 12 = .ok (.iload_n 3, 1) := by decide +kernel
theorem dX11_rest_13 : decode cX11_rest 13 = .ok (.invokevirtual 102, 3) := by decide +kernel
theorem dX11_rest_16 : decode cX11_rest 16 = .ok (.ireturn, 1) := by decide +kernel
theorem dX11_rest_17 : decode cX11_rest 17 = .ok (.aload_n 0, 1) := by decide +kernel
theorem dX11_rest_18 : decode cX11_rest 18 = .ok (.aload_n 0, 1) := by decide +kernel
theorem dX11_rest_19 : decode cX11_rest 19 = .ok (.getfield 84, 3) := by decide +kernel
theorem dX11_rest_22 : decode cX11_rest 22 = .ok (.getfield 290, 3) := by decide +kernel
theorem dX11_rest_25 : decode cX11_rest 25 = .ok (.ifCond .ne 8, 3) := by decide +kernel
theorem dX11_rest_28 : decode cX11_rest 28 = .ok (.bipush (-2), 2) := by decide +kernel
theorem dX11_rest_30 : decode cX11_rest 30 = .ok (.goto 10, 3) := by decide +kernel
theorem dX11_rest_33 : decode cX11_rest 33 = .ok (.aload_n 0, 1) := by decide +kernel
theorem dX11_rest_34 : decode cX11_rest 34 = .ok (.getfield 84, 3) := by decide +kernel
theorem dX11_rest_37 : decode cX11_rest 37 = .ok (.getfield 293, 3) := by decide +kernel
theorem dX11_rest_40 : decode cX11_rest 40 = .ok (.invokevirtual 127, 3) := by decide +kernel
theorem dX11_rest_43 : decode cX11_rest 43 = .ok (.ireturn, 1) := by decide +kernel
theorem dX11_winds_0 : decode cX11_winds 0 = .ok (.aload_n 0, 1) := by decide +kernel
theorem dX11_winds_1 : decode cX11_winds 1 = .ok (.bipush 7, 2) := by decide +kernel
theorem dX11_winds_3 : decode cX11_winds 3 = .ok (.iload_n 1, 1) := by decide +kernel
theorem dX11_winds_4 : decode cX11_winds 4 = .ok (.invokevirtual 133, 3) := by decide +kernel
theorem dX11_winds_7 : decode cX11_winds 7 = .ok (.ifCond .ne 9, 3) := by decide +kernel
theorem dX11_winds_10 : decode cX11_winds 10 = .ok (.aload_n 0, 1) := by decide +kernel
theorem dX11_winds_11 : decode cX11_winds 11 = .ok (.iconst 1, 1) := by decide +kernel
theorem dX11_winds_12 : decode cX11_winds 12 = .ok (.invokevirtual 102, 3) := by decide +kernel
theorem dX11_winds_15 : decode cX11_winds 15 = .ok (.ireturn, 1) := by decide +kernel
theorem dX11_winds_16 : decode cX11_winds 16 = .ok (.iload_n 2, 1) := by decide +kernel
theorem dX11_winds_17 : decode cX11_winds 17 = .ok (.iconst 0, 1) := by decide +kernel
theorem dX11_winds_18 : decode cX11_winds 18 = .ok (.ldc_w 296, 3) := by decide +kernel
theorem dX11_winds_21 : decode cX11_winds 21 = .ok (.invokestatic 206, 3) := by decide +kernel
theorem dX11_winds_24 : decode cX11_winds 24 = .ok (.ifCond .eq 13, 3) := by decide +kernel
theorem dX11_winds_27 : decode cX11_winds 27 = .ok (.iload_n 3, 1) := by decide +kernel
theorem dX11_winds_28 : decode cX11_winds 28 = .ok (.iconst 0, 1) := by decide +kernel
theorem dX11_winds_29 : decode cX11_winds 29 = .ok (.bipush 99, 2) := by decide +kernel
theorem dX11_winds_31 : decode cX11_winds 31 = .ok (.invokestatic 206, 3) := by decide +kernel
theorem dX11_winds_34 : decode cX11_winds 34 = .ok (.ifCond .ne 9, 3) := by decide +kernel
theorem dX11_winds_37 : decode cX11_winds 37 = .ok (.aload_n 0, 1) := by decide +kernel
theorem dX11_winds_38 : decode cX11_winds 38 = .ok (.iconst 2, 1) := by decide +kernel
theorem dX11_winds_39 : decode cX11_winds 39 = .ok (.invokevirtual 102, 3) := by decide +kernel
theorem dX11_winds_42 : decode cX11_winds 42 = .ok (.ireturn, 1) := by decide +kernel
theorem dX11_winds_43 : decode cX11_winds 43 = .ok (.aload_n 0, 1) := by decide +kernel
theorem dX11_winds_44 : decode cX11_winds 44 = .ok (.getfield 34, 3) := by decide +kernel
theorem dX11_winds_47 : decode cX11_winds 47 = .ok (.aload_n 0, 1) := by decide +kernel
theorem dX11_winds_48 : decode cX11_winds 48 = .ok (.getfield 41, 3) := by decide +kernel
theorem dX11_winds_51 : decode cX11_winds 51 = .ok (.getfield 155, 3) := by decide +kernel
theorem dX11_winds_54 : decode cX11_winds 54 = .ok (.iload_n 1, 1) := by decide +kernel
theorem dX11_winds_55 : decode cX11_winds 55 = .ok (.aaload, 1) := by decide +kernel
theorem dX11_winds_56 : decode cX11_winds 56 = .ok (.getfield 183, 3) := by decide +kernel
theorem dX11_winds_59 : decode cX11_winds 59 = .ok (.iload_n 3, 1) := by decide +kernel
theorem dX11_winds_60 : decode cX11_winds 60 = .ok (.aload_n 0, 1) := by decide +kernel
theorem dX11_winds_61 : decode cX11_winds 61 = .ok (.getfield 34, 3) := by decide +kernel
theorem dX11_winds_64 : decode cX11_winds 64 = .ok (.iload_n 2, 1) := by decide +kernel
theorem dX11_winds_65 : decode cX11_winds 65 = .ok (.iload_n 3, 1) := by decide +kernel
theorem dX11_winds_66 : decode cX11_winds 66 = .ok (.invokevirtual 297, 3) := by decide +kernel
theorem dX11_winds_69 : decode cX11_winds 69 = .ok (.invokevirtual 186, 3) := by decide +kernel
theorem dX11_winds_72 : decode cX11_winds 72 = .ok (.aload_n 0, 1) := by decide +kernel
theorem dX11_winds_73 : decode cX11_winds 73 = .ok (.aload_n 0, 1) := by decide +kernel
theorem dX11_winds_74 : decode cX11_winds 74 = .ok (.getfield 34, 3) := by decide +kernel
theorem dX11_winds_77 : decode cX11_winds 77 = .ok (.invokevirtual 300, 3) := by decide +kernel
theorem dX11_winds_80 : decode cX11_winds 80 = .ok (.invokevirtual 127, 3) := by decide +kernel
theorem dX11_winds_83 : decode cX11_winds 83 = .ok (.ireturn, 1) := by decide +kernel
theorem dX11_windDuty_0 : decode cX11_windDuty 0 = .ok (.aload_n 0, 1) := by decide +kernel
theorem dX11_windDuty_1 : decode cX11_windDuty 1 = .ok (.bipush 7, 2) := by decide +kernel
theorem dX11_windDuty_3 : decode cX11_windDuty 3 = .ok (.iload_n 1, 1) := by decide +kernel
theorem dX11_windDuty_4 : decode cX11_windDuty 4 = .ok (.invokevirtual 133, 3) := by decide +kernel
theorem dX11_windDuty_7 : decode cX11_windDuty 7 = .ok (.ifCond .eq 12, 3) := by decide +kernel
theorem dX11_windDuty_10 : decode cX11_windDuty 10 = .ok (.aload_n 0, 1) := by decide +kernel
theorem dX11_windDuty_11 : decode cX11_windDuty 11 = .ok (.iconst 4, 1) := by decide +kernel
theorem dX11_windDuty_12 : decode cX11_windDuty 12 = .ok (.iload_n 2, 1) := by decide +kernel
theorem dX11_windDuty_13 : decode cX11_windDuty 13 = .ok (.invokevirtual 133, 3) := by decide +kernel
theorem dX11_windDuty_16 : decode cX11_windDuty 16 = .ok (.ifCond .ne 9, 3) := by decide +kernel
theorem dX11_windDuty_19 : decode cX11_windDuty 19 = .ok (.aload_n 0, 1) := by decide +kernel
theorem dX11_windDuty_20 : decode cX11_windDuty 20 = .ok (.iconst 1, 1) := by decide +kernel
theorem dX11_windDuty_21 : decode cX11_windDuty 21 = .ok (.invokevirtual 102, 3) := by decide +kernel
theorem dX11_windDuty_24 : decode cX11_windDuty 24 = .ok (.ireturn, 1) := by decide +kernel
theorem dX11_windDuty_25 : decode cX11_windDuty 25 = .ok (.iload_n 3, 1) := by decide +kernel
theorem dX11_windDuty_26 : decode cX11_windDuty 26 = .ok (.iconst 0, 1) := by decide +kernel
theorem dX11_windDuty_27 : decode cX11_windDuty 27 = .ok (.ldc_w 296, 3) := by decide +kernel
theorem dX11_windDuty_30 : decode cX11_windDuty 30 = .ok (.invokestatic 206, 3) := by decide +kernel
theorem dX11_windDuty_33 : decode cX11_windDuty 33 = .ok (.ifCond .eq 14, 3) := by decide +kernel
theorem dX11_windDuty_36 : decode cX11_windDuty 36 = .ok (.iload 4, 2) := by decide +kernel
theorem dX11_windDuty_38 : decode cX11_windDuty 38 = .ok (.iconst 0, 1) := by decide +kernel
theorem dX11_windDuty_39 : decode cX11_windDuty 39 = .ok (.bipush 99, 2) := by decide +kernel
theorem dX11_windDuty_41 : decode cX11_windDuty 41 = .ok (.invokestatic 206, 3) := by decide +kernel
theorem dX11_windDuty_44 : decode cX11_windDuty 44 = .ok (.ifCond .ne 9, 3) := by decide +kernel
theorem dX11_windDuty_47 : decode cX11_windDuty 47 = .ok (.aload_n 0, 1) := by decide +kernel
theorem dX11_windDuty_48 : decode cX11_windDuty 48 = .ok (.iconst 2, 1) := by decide +kernel
theorem dX11_windDuty_49 : decode cX11_windDuty 49 = .ok (.invokevirtual 102, 3) := by decide +kernel
theorem dX11_windDuty_52 : decode cX11_windDuty 52 = .ok (.ireturn, 1) := by decide +kernel
theorem dX11_windDuty_53 : decode cX11_windDuty 53 = .ok (.aload_n 0, 1) := by decide +kernel
theorem dX11_windDuty_54 : decode cX11_windDuty 54 = .ok (.getfield 34, 3) := by decide +kernel
theorem dX11_windDuty_57 : decode cX11_windDuty 57 = .ok (.aload_n 0, 1) := by decide +kernel
theorem dX11_windDuty_58 : decode cX11_windDuty 58 = .ok (.getfield 41, 3) := by decide +kernel
theorem dX11_windDuty_61 : decode cX11_windDuty 61 = .ok (.getfield 155, 3) := by decide +kernel
theorem dX11_windDuty_64 : decode cX11_windDuty 64 = .ok (.iload_n 1, 1) := by decide +kernel
theorem dX11_windDuty_65 : decode cX11_windDuty 65 = .ok (.aaload, 1) := by decide +kernel
theorem dX11_windDuty_66 : decode cX11_windDuty 66 = .ok (.getfield 183, 3) := by decide +kernel
theorem dX11_windDuty_69 : decode cX11_windDuty 69 = .ok (.iload 4, 2) := by decide +kernel
theorem dX11_windDuty_71 : decode cX11_windDuty 71 = .ok (.aload_n 0, 1) := by decide +kernel
theorem dX11_windDuty_72 : decode cX11_windDuty 72 = .ok (.getfield 34, 3) := by decide +kernel
theorem dX11_windDuty_75 : decode cX11_windDuty 75 = .ok (.iload_n 3, 1) := by decide +kernel
theorem dX11_windDuty_76 : decode cX11_windDuty 76 = .ok (.iload 4, 2) := by decide +kernel
theorem dX11_windDuty_78 : decode cX11_windDuty 78 = .ok (.invokevirtual 297, 3) := by decide +kernel
theorem dX11_windDuty_81 : decode cX11_windDuty 81 = .ok (.invokevirtual 186, 3) := by decide +kernel
theorem dX11_windDuty_84 : decode cX11_windDuty 84 = .ok (.aload_n 0, 1) := by decide +kernel
theorem dX11_windDuty_85 : decode cX11_windDuty 85 = .ok (.aload_n 0, 1) := by decide +kernel
theorem dX11_windDuty_86 : decode cX11_windDuty 86 = .ok (.getfield 34, 3) := by decide +kernel
theorem dX11_windDuty_89 : decode cX11_windDuty 89 = .ok (.aload_n 0, 1) := by decide +kernel
theorem dX11_windDuty_90 : decode cX11_windDuty 90 = .ok (.getfield 16, 3) := by decide +kernel
theorem dX11_windDuty_93 : decode cX11_windDuty 93 = .ok (.getfield 159, 3) := by decide +kernel
theorem dX11_windDuty_96 : decode cX11_windDuty 96 = .ok (.iload_n 1, 1) := by decide +kernel
theorem dX11_windDuty_97 : decode cX11_windDuty 97 = .ok (.iaload, 1) := by decide +kernel
theorem dX11_windDuty_98 : decode cX11_windDuty 98 = .ok (.iload_n 2, 1) := by decide +kernel
theorem dX11_windDuty_99 : decode cX11_windDuty 99 = .ok (.aload_n 0, 1) := by decide +kernel
theorem dX11_windDuty_100 : decode cX11_windDuty 100 = .ok (.getfield 16, 3) := by decide +kernel
theorem dX11_windDuty_103 : decode cX11_windDuty 103 = .ok (.iload_n 2, 1) := by decide +kernel
theorem dX11_windDuty_104 : decode cX11_windDuty 104 = .ok (.aload_n 0, 1) := by decide +kernel
theorem dX11_windDuty_105 : decode cX11_windDuty 105 = .ok (.getfield 16, 3) := by decide +kernel
