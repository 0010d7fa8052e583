theorem dX13_beensOf_41 : decode cX13_beensOf 41 = .ok (.invokevirtual 484, 3) := by decide +kernel
theorem dX13_beensOf_44 : decode cX13_beensOf 44 = .ok (.ifCond .ne 16, 3) := by decide +kernel
theorem dX13_beensOf_47 : decode cX13_beensOf 47 = .ok (.aload_n 0, 1) := by decide +kernel
theorem dX13_beensOf_48 : decode cX13_beensOf 48 = .ok (.getfield 57, 3) := by decide +kernel
theorem dX13_beensOf_51 : decode cX13_beensOf 51 = .ok (.iload_n 2, 1) := by decide +kernel
theorem dX13_beensOf_52 : decode cX13_beensOf 52 = .ok (.dup2, 1) := by decide +kernel
theorem dX13_beensOf_53 : decode cX13_beensOf 53 = .ok (.iaload, 1) := by decide +kernel
theorem dX13_beensOf_54 : decode cX13_beensOf 54 = .ok (.iconst 1, 1) := by decide +kernel
theorem dX13_beensOf_55 : decode cX13_beensOf 55 = .ok (.iadd, 1) := by decide +kernel
theorem dX13_beensOf_56 : decode cX13_beensOf 56 = .ok (.iastore, 1) := by decide +kernel
theorem dX13_beensOf_57 : decode cX13_beensOf 57 = .ok (.goto (-34), 3) := by decide +kernel
theorem dX13_beensOf_60 : decode cX13_beensOf 60 = .ok (.aload_n 0, 1) := by decide +kernel
theorem dX13_beensOf_61 : decode cX13_beensOf 61 = .ok (.getfield 57, 3) := by decide +kernel
theorem dX13_beensOf_64 : decode cX13_beensOf 64 = .ok (.iload_n 2, 1) := by decide +kernel
theorem dX13_beensOf_65 : decode cX13_beensOf 65 = .ok (.iaload, 1) := by decide +kernel
theorem dX13_beensOf_66 : decode cX13_beensOf 66 = .ok (.aload_n 0, 1) := by decide +kernel
theorem dX13_beensOf_67 : decode cX13_beensOf 67 = .ok (.getfield 397, 3) := by decide +kernel
theorem dX13_beensOf_70 : decode cX13_beensOf 70 = .ok (.getfield 230, 3) := by decide +kernel
theorem dX13_beensOf_73 : decode cX13_beensOf 73 = .ok (.if_icmp .lt 9, 3) := by decide +kernel
theorem dX13_beensOf_76 : decode cX13_beensOf 76 = .ok (.iinc 2 (-1), 3) := by decide +kernel
theorem dX13_beensOf_79 : decode cX13_beensOf 79 = .ok (.goto (-70), 3) := by decide +kernel
theorem dX13_beensOf_82 : decode cX13_beensOf 82 = .ok (.iload_n 2, 1) := by decide +kernel
theorem dX13_beensOf_83 : decode cX13_beensOf 83 = .ok (.iconst 1, 1) := by decide +kernel
theorem dX13_beensOf_84 : decode cX13_beensOf 84 = .ok (.iadd, 1) := by decide +kernel
theorem dX13_beensOf_85 : decode cX13_beensOf 85 = .ok (.iload_n 1, 1) := by decide +kernel
theorem dX13_beensOf_86 : decode cX13_beensOf 86 = .ok (.if_icmp .ge 16, 3) := by decide +kernel
theorem dX13_beensOf_89 : decode cX13_beensOf 89 = .ok (.iinc 2 1, 3) := by decide +kernel
theorem dX13_beensOf_92 : decode cX13_beensOf 92 = .ok (.aload_n 0, 1) := by decide +kernel
theorem dX13_beensOf_93 : decode cX13_beensOf 93 = .ok (.getfield 57, 3) := by decide +kernel
theorem dX13_beensOf_96 : decode cX13_beensOf 96 = .ok (.iload_n 2, 1) := by decide +kernel
theorem dX13_beensOf_97 : decode cX13_beensOf 97 = .ok (.iconst (-1), 1) := by decide +kernel
theorem dX13_beensOf_98 : decode cX13_beensOf 98 = .ok (.iastore, 1) := by decide +kernel
theorem dX13_beensOf_99 : decode cX13_beensOf 99 = .ok (.goto (-90), 3) := by decide +kernel
theorem dX13_beensOf_102 : decode cX13_beensOf 102 = .ok (.aload_n 0, 1) := by decide +kernel
theorem dX13_beensOf_103 : decode cX13_beensOf 103 = .ok (.iload_n 1, 1) := by decide +kernel
theorem dX13_beensOf_104 : decode cX13_beensOf 104 = .ok (.invokevirtual 487, 3) := by decide +kernel
theorem dX13_beensOf_107 : decode cX13_beensOf 107 = .ok (.ifCond .eq (-98), 3) := by decide +kernel
theorem dX13_beensOf_110 : decode cX13_beensOf 110 = .ok (.aload_n 0, 1) := by decide +kernel
theorem dX13_beensOf_111 : decode cX13_beensOf 111 = .ok (.iload_n 1, 1) := by decide +kernel
theorem dX13_beensOf_112 : decode cX13_beensOf 112 = .ok (.invokevirtual 490, 3) := by decide +kernel
theorem dX13_beensOf_115 : decode cX13_beensOf 115 = .ok (.goto (-106), 3) := by decide +kernel
theorem dX13_beensOf_118 : decode cX13_beensOf 118 = .ok (.return_, 1) := by decide +kernel
theorem dX13_counts_0 : decode cX13_counts 0 = .ok (.iconst 0, 1) := by decide +kernel
theorem dX13_counts_1 : decode cX13_counts 1 = .ok (.istore_n 2, 1) := by decide +kernel
theorem dX13_counts_2 : decode cX13_counts 2 = .ok (.iconst 0, 1) := by decide +kernel
theorem dX13_counts_3 : decode cX13_counts 3 = .ok (.istore_n 3, 1) := by decide +kernel
theorem dX13_counts_4 : decode cX13_counts 4 = .ok (.iload_n 3, 1) := by decide +kernel
theorem dX13_counts_5 : decode cX13_counts 5 = .ok (.iload_n 1, 1) := by decide +kernel
theorem dX13_counts_6 : decode cX13_counts 6 = .ok (.if_icmp .ge 20, 3) := by decide +kernel
theorem dX13_counts_9 : decode cX13_counts 9 = .ok (.iload_n 2, 1) := by decide +kernel
theorem dX13_counts_10 : decode cX13_counts 10 = .ok (.iconst 1, 1) := by decide +kernel
theorem dX13_counts_11 : decode cX13_counts 11 = .ok (.aload_n 0, 1) := by decide +kernel
theorem dX13_counts_12 : decode cX13_counts 12 = .ok (.getfield 57, 3) := by decide +kernel
theorem dX13_counts_15 : decode cX13_counts 15 = .ok (.iload_n 3, 1) := by decide +kernel
theorem dX13_counts_16 : decode cX13_counts 16 = .ok (.iaload, 1) := by decide +kernel
theorem dX13_counts_17 : decode cX13_counts 17 = .ok (.ishl, 1) := by decide +kernel
theorem dX13_counts_18 : decode cX13_counts 18 = .ok (.ior, 1) := by decide +kernel
theorem dX13_counts_19 : decode cX13_counts 19 = .ok (.istore_n 2, 1) := by decide +kernel
theorem dX13_counts_20 : decode cX13_counts 20 = .ok (.iinc 3 1, 3) := by decide +kernel
theorem dX13_counts_23 : decode cX13_counts 23 = .ok (.goto (-19), 3) := by decide +kernel
theorem dX13_counts_26 : decode cX13_counts 26 = .ok (.aload_n 0, 1) := by decide +kernel
theorem dX13_counts_27 : decode cX13_counts 27 = .ok (.dup, 1) := by decide +kernel
theorem dX13_counts_28 : decode cX13_counts 28 = .ok (.getfield 475, 3) := by decide +kernel
theorem dX13_counts_31 : decode cX13_counts 31 = .ok (.iload_n 2, 1) := by decide +kernel
theorem dX13_counts_32 : decode cX13_counts 32 = .ok (.ior, 1) := by decide +kernel
theorem dX13_counts_33 : decode cX13_counts 33 = .ok (.putfield 475, 3) := by decide +kernel
theorem dX13_counts_36 : decode cX13_counts 36 = .ok (.aload_n 0, 1) := by decide +kernel
theorem dX13_counts_37 : decode cX13_counts 37 = .ok (.dup, 1) := by decide +kernel
theorem dX13_counts_38 : decode cX13_counts 38 = .ok (.getfield 478, 3) := by decide +kernel
theorem dX13_counts_41 : decode cX13_counts 41 = .ok (.iload_n 2, 1) := by decide +kernel
theorem dX13_counts_42 : decode cX13_counts 42 = .ok (.iand, 1) := by decide +kernel
theorem dX13_counts_43 : decode cX13_counts 43 = .ok (.putfield 478, 3) := by decide +kernel
theorem dX13_counts_46 : decode cX13_counts 46 = .ok (.aload_n 0, 1) := by decide +kernel
theorem dX13_counts_47 : decode cX13_counts 47 = .ok (.getfield 472, 3) := by decide +kernel
theorem dX13_counts_50 : decode cX13_counts 50 = .ok (.ifCond .ne 33, 3) := by decide +kernel
theorem dX13_counts_53 : decode cX13_counts 53 = .ok (.aload_n 0, 1) := by decide +kernel
theorem dX13_counts_54 : decode cX13_counts 54 = .ok (.iload_n 1, 1) := by decide +kernel
theorem dX13_counts_55 : decode cX13_counts 55 = .ok (.putfield 493, 3) := by decide +kernel
theorem dX13_counts_58 : decode cX13_counts 58 = .ok (.iconst 0, 1) := by decide +kernel
theorem dX13_counts_59 : decode cX13_counts 59 = .ok (.istore_n 3, 1) := by decide +kernel
theorem dX13_counts_60 : decode cX13_counts 60 = .ok (.iload_n 3, 1) := by decide +kernel
theorem dX13_counts_61 : decode cX13_counts 61 = .ok (.iload_n 1, 1) := by decide +kernel
theorem dX13_counts_62 : decode cX13_counts 62 = .ok (.if_icmp .ge 21, 3) := by decide +kernel
theorem dX13_counts_65 : decode cX13_counts 65 = .ok (.aload_n 0, 1) := by decide +kernel
theorem dX13_counts_66 : decode cX13_counts 66 = .ok (.getfield 60, 3) := by decide +kernel
theorem dX13_counts_69 : decode cX13_counts 69 = .ok (.iload_n 3, 1) := by decide +kernel
theorem dX13_counts_70 : decode cX13_counts 70 = .ok (.aload_n 0, 1) := by decide +kernel
theorem dX13_counts_71 : decode cX13_counts 71 = .ok (.getfield 57, 3) := by decide +kernel
theorem dX13_counts_74 : decode cX13_counts 74 = .ok (.iload_n 3, 1) := by decide +kernel
theorem dX13_counts_75 : decode cX13_counts 75 = .ok (.iaload, 1) := by decide +kernel
theorem dX13_counts_76 : decode cX13_counts 76 = .ok (.iastore, 1) := by decide +kernel
theorem dX13_counts_77 : decode cX13_counts 77 = .ok (.iinc 3 1, 3) := by decide +kernel
theorem dX13_counts_80 : decode cX13_counts 80 = .ok (.goto (-20), 3) := by decide +kernel
theorem dX13_counts_83 : decode cX13_counts 83 = .ok (.aload_n 0, 1) := by decide +kernel
theorem dX13_counts_84 : decode cX13_counts 84 = .ok (.dup, 1) := by decide +kernel
theorem dX13_counts_85 : decode cX13_counts 85 = .ok (.getfield 472, 3) := by decide +kernel
theorem dX13_counts_88 : decode cX13_counts 88 = .ok (.iconst 1, 1) := by decide +kernel
theorem dX13_counts_89 : decode cX13_counts 89 = .ok (.iadd, 1) := by decide +kernel
theorem dX13_counts_90 : decode cX13_counts 90 = .ok (.putfield 472, 3) := by decide +kernel
theorem dX13_counts_93 : decode cX13_counts 93 = .ok (.return_, 1) := by decide +kernel
theorem dX13_asksBeen_0 : decode cX13_asksBeen 0 = .ok (.aload_n 0, 1) := by decide +kernel
theorem dX13_asksBeen_1 : decode cX13_asksBeen 1 = .ok (.getfield 397, 3) := by decide +kernel
theorem dX13_asksBeen_4 : decode cX13_asksBeen 4 = .ok (.ifnonnull 5, 3) := by decide +kernel
theorem dX13_asksBeen_7 : decode cX13_asksBeen 7 = .ok (.iconst 1, 1) := by decide +kernel
theorem dX13_asksBeen_8 : decode cX13_asksBeen 8 = .ok (.ireturn, 1) := by decide +kernel
theorem dX13_asksBeen_9 : decode cX13_asksBeen 9 = .ok (.aload_n 0, 1) := by decide +kernel
theorem dX13_asksBeen_10 : decode cX13_asksBeen 10 = .ok (.getfield 397, 3) := by decide +kernel
theorem dX13_asksBeen_13 : decode cX13_asksBeen 13 = .ok (.getfield 387, 3) := by decide +kernel
theorem dX13_asksBeen_16 : decode cX13_asksBeen 16 = .ok (.ifCond .ne 6, 3) := by decide +kernel
theorem dX13_asksBeen_19 : decode cX13_asksBeen 19 = .ok (.bipush 6, 2) := by decide +kernel
theorem dX13_asksBeen_21 : decode cX13_asksBeen 21 = .ok (.ireturn, 1) := by decide +kernel
theorem dX13_asksBeen_22 : decode cX13_asksBeen 22 = .ok (.aload_n 0, 1) := by decide +kernel
theorem dX13_asksBeen_23 : decode cX13_asksBeen 23 = .ok (.invokevirtual 496, 3) := by decide +kernel
theorem dX13_asksBeen_26 : decode cX13_asksBeen 26 = .ok (.iconst 0, 1) := by decide +kernel
theorem dX13_asksBeen_27 : decode cX13_asksBeen 27 = .ok (.ireturn, 1) := by decide +kernel
theorem dX13_been_0 : decode cX13_been 0 = .ok (.aload_n 0, 1) := by decide +kernel
theorem dX13_been_1 : decode cX13_been 1 = .ok (.iconst 0, 1) := by decide +kernel
theorem dX13_been_2 : decode cX13_been 2 = .ok (.putfield 72, 3) := by decide +kernel
theorem dX13_been_5 : decode cX13_been 5 = .ok (.aload_n 0, 1) := by decide +kernel
theorem dX13_been_6 : decode cX13_been 6 = .ok (.invokevirtual 499, 3) := by decide +kernel
theorem dX13_been_9 : decode cX13_been 9 = .ok (.istore_n 1, 1) := by decide +kernel
theorem dX13_been_10 : decode cX13_been 10 = .ok (.iload_n 1, 1) := by decide +kernel
theorem dX13_been_11 : decode cX13_been 11 = .ok (.ifCond .le 11, 3) := by decide +kernel
theorem dX13_been_14 : decode cX13_been 14 = .ok (.aload_n 0, 1) := by decide +kernel
theorem dX13_been_15 : decode cX13_been 15 = .ok (.iload_n 1, 1) := by decide +kernel
theorem dX13_been_16 : decode cX13_been 16 = .ok (.invokevirtual 78, 3) := by decide +kernel
theorem dX13_been_19 : decode cX13_been 19 = .ok (.goto 11, 3) := by decide +kernel
theorem dX13_been_22 : decode cX13_been 22 = .ok (.aload_n 0, 1) := by decide +kernel
theorem dX13_been_23 : decode cX13_been 23 = .ok (.aload_n 0, 1) := by decide +kernel
theorem dX13_been_24 : decode cX13_been 24 = .ok (.getfield 472, 3) := by decide +kernel
theorem dX13_been_27 : decode cX13_been 27 = .ok (.invokevirtual 82, 3) := by decide +kernel
theorem dX13_been_30 : decode cX13_been 30 = .ok (.ireturn, 1) := by decide +kernel
theorem dX13_could_0 : decode cX13_could 0 = .ok (.aload_n 0, 1) := by decide +kernel
theorem dX13_could_1 : decode cX13_could 1 = .ok (.iconst 0, 1) := by decide +kernel
theorem dX13_could_2 : decode cX13_could 2 = .ok (.putfield 72, 3) := by decide +kernel
theorem dX13_could_5 : decode cX13_could 5 = .ok (.aload_n 0, 1) := by decide +kernel
theorem dX13_could_6 : decode cX13_could 6 = .ok (.invokevirtual 499, 3) := by decide +kernel
theorem dX13_could_9 : decode cX13_could 9 = .ok (.istore_n 1, 1) := by decide +kernel
theorem dX13_could_10 : decode cX13_could 10 = .ok (.iload_n 1, 1) := by decide +kernel
theorem dX13_could_11 : decode cX13_could 11 = .ok (.ifCond .le 11, 3) := by decide +kernel
theorem dX13_could_14 : decode cX13_could 14 = .ok (.aload_n 0, 1) := by decide +kernel
theorem dX13_could_15 : decode cX13_could 15 = .ok (.iload_n 1, 1) := by decide +kernel
theorem dX13_could_16 : decode cX13_could 16 = .ok (.invokevirtual 78, 3) := by decide +kernel
theorem dX13_could_19 : decode cX13_could 19 = .ok (.goto 11, 3) := by decide +kernel
theorem dX13_could_22 : decode cX13_could 22 = .ok (.aload_n 0, 1) := by decide +kernel
theorem dX13_could_23 : decode cX13_could 23 = .ok (.aload_n 0, 1) := by decide +kernel
theorem dX13_could_24 : decode cX13_could 24 = .ok (.getfield 475, 3) := by decide +kernel
theorem dX13_could_27 : decode cX13_could 27 = .ok (.invokevirtual 82, 3) := by decide +kernel
theorem dX13_could_30 : decode cX13_could 30 = .ok (.ireturn, 1) := by decide +kernel
theorem dX13_surely_0 : decode cX13_surely 0 = .ok (.aload_n 0, 1) := by decide +kernel
theorem dX13_surely_1 : decode cX13_surely 1 = .ok (.iconst 0, 1) := by decide +kernel
theorem dX13_surely_2 : decode cX13_surely 2 = .ok (.putfield 72, 3) := by decide +kernel
theorem dX13_surely_5 : decode cX13_surely 5 = .ok (.aload_n 0, 1) := by decide +kernel
theorem dX13_surely_6 : decode cX13_surely 6 = .ok (.invokevirtual 499, 3) := by decide +kernel
theorem dX13_surely_9 : decode cX13_surely 9 = .ok (.istore_n 1, 1) := by decide +kernel
theorem dX13_surely_10 : decode cX13_surely 10 = .ok (.iload_n 1, 1) := by decide +kernel
theorem dX13_surely_11 : decode cX13_surely 11 = .ok (.ifCond .le 11, 3) := by decide +kernel
theorem dX13_surely_14 : decode cX13_surely 14 = .ok (.aload_n 0, 1) := by decide +kernel
theorem dX13_surely_15 : decode cX13_surely 15 = .ok (.iload_n 1, 1) := by decide +kernel
theorem dX13_surely_16 : decode cX13_surely 16 = .ok (.invokevirtual 78, 3) := by decide +kernel
theorem dX13_surely_19 : decode cX13_surely 19 = .ok (.goto 11, 3) := by decide +kernel
theorem dX13_surely_22 : decode cX13_surely 22 = .ok (.aload_n 0, 1) := by decide +kernel
theorem dX13_surely_23 : decode cX13_surely 23 = .ok (.aload_n 0, 1) := by decide +kernel
theorem dX13_surely_24 : decode cX13_surely 24 = .ok (.getfield 478, 3) := by decide +kernel
theorem dX13_surely_27 : decode cX13_surely 27 = .ok (.invokevirtual 82, 3) := by decide +kernel
theorem dX13_surely_30 : decode cX13_surely 30 = .ok (.ireturn, 1) := by decide +kernel
theorem dX13_beenAt_0 : decode cX13_beenAt 0 = .ok (.aload_n 0, 1) := by decide +kernel
theorem dX13_beenAt_1 : decode cX13_beenAt 1 = .ok (.iconst 0, 1) := by decide +kernel
theorem dX13_beenAt_2 : decode cX13_beenAt 2 = .ok (.putfield 72, 3) := by decide +kernel
theorem dX13_beenAt_5 : decode cX13_beenAt 5 = .ok (.aload_n 0, 1) := by decide +kernel
theorem dX13_beenAt_6 : decode cX13_beenAt 6 = .ok (.invokevirtual 499, 3) := by decide +kernel
theorem dX13_beenAt_9 : decode cX13_beenAt 9 = .ok (.istore_n 2, 1) := by decide +kernel
theorem dX13_beenAt_10 : decode cX13_beenAt 10 = .ok (.iload_n 2, 1) := by decide +kernel
theorem dX13_beenAt_11 : decode cX13_beenAt 11 = .ok (.ifCond .le 9, 3) := by decide +kernel
theorem dX13_beenAt_14 : decode cX13_beenAt 14 = .ok (.aload_n 0, 1) := by decide +kernel
theorem dX13_beenAt_15 : decode cX13_beenAt 15 = .ok (.iload_n 2, 1) := by decide +kernel
theorem dX13_beenAt_16 : decode cX13_beenAt 16 = .ok (.invokevirtual 78, 3) := by decide +kernel
theorem dX13_beenAt_19 : decode cX13_beenAt 19 = .ok (.ireturn, 1) := by decide +kernel
theorem dX13_beenAt_20 : decode cX13_beenAt 20 = .ok (.iload_n 1, 1) := by decide +kernel
theorem dX13_beenAt_21 : decode cX13_beenAt 21 = .ok (.iconst 0, 1) := by decide +kernel
theorem dX13_beenAt_22 : decode cX13_beenAt 22 = .ok (.iconst 3, 1) := by decide +kernel
theorem dX13_beenAt_23 : decode cX13_beenAt 23 = .ok (.invokestatic 150, 3) := by decide +kernel
theorem dX13_beenAt_26 : decode cX13_beenAt 26 = .ok (.ifCond .ne 9, 3) := by decide +kernel
theorem dX13_beenAt_29 : decode cX13_beenAt 29 = .ok (.aload_n 0, 1) := by decide +kernel
theorem dX13_beenAt_30 : decode cX13_beenAt 30 = .ok (.iconst 1, 1) := by decide +kernel
theorem dX13_beenAt_31 : decode cX13_beenAt 31 = .ok (.invokevirtual 78, 3) := by decide +kernel
theorem dX13_beenAt_34 : decode cX13_beenAt 34 = .ok (.ireturn, 1) := by decide +kernel
theorem dX13_beenAt_35 : decode cX13_beenAt 35 = .ok (.aload_n 0, 1) := by decide +kernel
theorem dX13_beenAt_36 : decode cX13_beenAt 36 = .ok (.aload_n 0, 1) := by decide +kernel
theorem dX13_beenAt_37 : decode cX13_beenAt 37 = .ok (.getfield 472, 3) := by decide +kernel
theorem dX13_beenAt_40 : decode cX13_beenAt 40 = .ok (.ifCond .le 20, 3) := by decide +kernel
theorem dX13_beenAt_43 : decode cX13_beenAt 43 = .ok (.iload_n 1, 1) := by decide +kernel
theorem dX13_beenAt_44 : decode cX13_beenAt 44 = .ok (.aload_n 0, 1) := by decide +kernel
theorem dX13_beenAt_45 : decode cX13_beenAt 45 = .ok (.getfield 493, 3) := by decide +kernel
theorem dX13_beenAt_48 : decode cX13_beenAt 48 = .ok (.if_icmp .ge 12, 3) := by decide +kernel
theorem dX13_beenAt_51 : decode cX13_beenAt 51 = .ok (.aload_n 0, 1) := by decide +kernel
theorem dX13_beenAt_52 : decode cX13_beenAt 52 = .ok (.getfield 60, 3) := by decide +kernel
theorem dX13_beenAt_55 : decode cX13_beenAt 55 = .ok (.iload_n 1, 1) := by decide +kernel
theorem dX13_beenAt_56 : decode cX13_beenAt 56 = .ok (.iaload, 1) := by decide +kernel
theorem dX13_beenAt_57 : decode cX13_beenAt 57 = .ok (.goto 5, 3) := by decide +kernel
theorem dX13_beenAt_60 : decode cX13_beenAt 60 = .ok (.bipush (-2), 2) := by decide +kernel
theorem dX13_beenAt_62 : decode cX13_beenAt 62 = .ok (.invokevirtual 82, 3) := by decide +kernel
theorem dX13_beenAt_65 : decode cX13_beenAt 65 = .ok (.ireturn, 1) := by decide +kernel
theorem dX13_postings_0 : decode cX13_postings 0 = .ok (.iconst 0, 1) := by decide +kernel
theorem dX13_postings_1 : decode cX13_postings 1 = .ok (.istore_n 1, 1) := by decide +kernel
theorem dX13_postings_2 : decode cX13_postings 2 = .ok (.iconst 0, 1) := by decide +kernel
theorem dX13_postings_3 : decode cX13_postings 3 = .ok (.istore_n 2, 1) := by decide +kernel
theorem dX13_postings_4 : decode cX13_postings 4 = .ok (.iload_n 2, 1) := by decide +kernel
theorem dX13_postings_5 : decode cX13_postings 5 = .ok (.aload_n 0, 1) := by decide +kernel
theorem dX13_postings_6 : decode cX13_postings 6 = .ok (.getfield 397, 3) := by decide +kernel
theorem dX13_postings_9 : decode cX13_postings 9 = .ok (.getfield 230, 3) := by decide +kernel
theorem dX13_postings_12 : decode cX13_postings 12 = .ok (.if_icmp .ge 36, 3) := by decide +kernel
theorem dX13_postings_15 : decode cX13_postings 15 = .ok (.aload_n 0, 1) := by decide +kernel
theorem dX13_postings_16 : decode cX13_postings 16 = .ok (.getfield 397, 3) := by decide +kernel
theorem dX13_postings_19 : decode cX13_postings 19 = .ok (.getfield 328, 3) := by decide +kernel
theorem dX13_postings_22 : decode cX13_postings 22 = .ok (.iload_n 2, 1) := by decide +kernel
theorem dX13_postings_23 : decode cX13_postings 23 = .ok (.iaload, 1) := by decide +kernel
theorem dX13_postings_24 : decode cX13_postings 24 = .ok (.bipush (-2), 2) := by decide +kernel
theorem dX13_postings_26 : decode cX13_postings 26 = .ok (.if_icmp .ne 6, 3) := by decide +kernel
theorem dX13_postings_29 : decode cX13_postings 29 = .ok (.goto 13, 3) := by decide +kernel
theorem dX13_postings_32 : decode cX13_postings 32 = .ok (.aload_n 0, 1) := by decide +kernel
theorem dX13_postings_33 : decode cX13_postings 33 = .ok (.getfield 63, 3) := by decide +kernel
theorem dX13_postings_36 : decode cX13_postings 36 = .ok (.iload_n 1, 1) := by decide +kernel
theorem dX13_postings_37 : decode cX13_postings 37 = .ok (.iload_n 2, 1) := by decide +kernel
theorem dX13_postings_38 : decode cX13_postings 38 = .ok (.iastore, 1) := by decide +kernel
theorem dX13_postings_39 : decode cX13_postings 39 = .ok (.iinc 1 1, 3) := by decide +kernel
theorem dX13_postings_42 : decode cX13_postings 42 = .ok (.iinc 2 1, 3) := by decide +kernel
theorem dX13_postings_45 : decode cX13_postings 45 = .ok (.goto (-41), 3) := by decide +kernel
theorem dX13_postings_48 : decode cX13_postings 48 = .ok (.aload_n 0, 1) := by decide +kernel
theorem dX13_postings_49 : decode cX13_postings 49 = .ok (.iload_n 1, 1) := by decide +kernel
theorem dX13_postings_50 : decode cX13_postings 50 = .ok (.aload_n 0, 1) := by decide +kernel
theorem dX13_postings_51 : decode cX13_postings 51 = .ok (.getfield 397, 3) := by decide +kernel
theorem dX13_postings_54 : decode cX13_postings 54 = .ok (.getfield 318, 3) := by decide +kernel
theorem dX13_postings_57 : decode cX13_postings 57 = .ok (.if_icmp .ge 7, 3) := by decide +kernel
theorem dX13_postings_60 : decode cX13_postings 60 = .ok (.iload_n 1, 1) := by decide +kernel
theorem dX13_postings_61 : decode cX13_postings 61 = .ok (.goto 10, 3) := by decide +kernel
theorem dX13_postings_64 : decode cX13_postings 64 = .ok (.aload_n 0, 1) := by decide +kernel
theorem dX13_postings_65 : decode cX13_postings 65 = .ok (.getfield 397, 3) := by decide +kernel
theorem dX13_postings_68 : decode cX13_postings 68 = .ok (.getfield 318, 3) := by decide +kernel
theorem dX13_postings_71 : decode cX13_postings 71 = .ok (.putfield 502, 3) := by decide +kernel
theorem dX13_postings_74 : decode cX13_postings 74 = .ok (.iconst (-1), 1) := by decide +kernel
theorem dX13_postings_75 : decode cX13_postings 75 = .ok (.istore_n 2, 1) := by decide +kernel
theorem dX13_postings_76 : decode cX13_postings 76 = .ok (.iconst 0, 1) := by decide +kernel
theorem dX13_postings_77 : decode cX13_postings 77 = .ok (.istore_n 3, 1) := by decide +kernel
theorem dX13_postings_78 : decode cX13_postings 78 = .ok (.aload_n 0, 1) := by decide +kernel
theorem dX13_postings_79 : decode cX13_postings 79 = .ok (.getfield 502, 3) := by decide +kernel
theorem dX13_postings_82 : decode cX13_postings 82 = .ok (.ifCond .ne 8, 3) := by decide +kernel
theorem dX13_postings_85 : decode cX13_postings 85 = .ok (.aload_n 0, 1) := by decide +kernel
theorem dX13_postings_86 : decode cX13_postings 86 = .ok (.invokevirtual 505, 3) := by decide +kernel
theorem dX13_postings_89 : decode cX13_postings 89 = .ok (.ireturn, 1) := by decide +kernel
theorem dX13_postings_90 : decode cX13_postings 90 = .ok (.aload_n 0, 1) := by decide +kernel
theorem dX13_postings_91 : decode cX13_postings 91 = .ok (.getfield 66, 3) := by decide +kernel
theorem dX13_postings_94 : decode cX13_postings 94 = .ok (.iconst 0, 1) := by decide +kernel
theorem dX13_postings_95 : decode cX13_postings 95 = .ok (.iconst (-1), 1) := by decide +kernel
theorem dX13_postings_96 : decode cX13_postings 96 = .ok (.iastore, 1) := by decide +kernel
theorem dX13_postings_97 : decode cX13_postings 97 = .ok (.iload_n 3, 1) := by decide +kernel
theorem dX13_postings_98 : decode cX13_postings 98 = .ok (.ifCond .lt 148, 3) := by decide +kernel
theorem dX13_postings_101 : decode cX13_postings 101 = .ok (.aload_n 0, 1) := by decide +kernel
theorem dX13_postings_102 : decode cX13_postings 102 = .ok (.getfield 66, 3) := by decide +kernel
theorem dX13_postings_105 : decode cX13_postings 105 = .ok (.iload_n 3, 1) := by decide +kernel
theorem dX13_postings_106 : decode cX13_postings 106 = .ok (.dup2, 1) := by decide +kernel
theorem dX13_postings_107 : decode cX13_postings 107 = .ok (.iaload, 1) := by decide +kernel
theorem dX13_postings_108 : decode cX13_postings 108 = .ok (.iconst 1, 1) := by decide +kernel
theorem dX13_postings_109 : decode cX13_postings 109 = .ok (.iadd, 1) := by decide +kernel
theorem dX13_postings_110 : decode cX13_postings 110 = .ok (.iastore, 1) := by decide +kernel
theorem dX13_postings_111 : decode cX13_postings 111 = .ok (.aload_n 0, 1) := by decide +kernel
theorem dX13_postings_112 : decode cX13_postings 112 = .ok (.getfield 66, 3) := by decide +kernel
theorem dX13_postings_115 : decode cX13_postings 115 = .ok (.iload_n 3, 1) := by decide +kernel
theorem dX13_postings_116 : decode cX13_postings 116 = .ok (.iaload, 1) := by decide +kernel
theorem dX13_postings_117 : decode cX13_postings 117 = .ok (.aload_n 0, 1) := by decide +kernel
theorem dX13_postings_118 : decode cX13_postings 118 = .ok (.getfield 397, 3) := by decide +kernel
theorem dX13_postings_121 : decode cX13_postings 121 = .ok (.getfield 318, 3) := by decide +kernel
theorem dX13_postings_124 : decode cX13_postings 124 = .ok (.if_icmp .ge 24, 3) := by decide +kernel
theorem dX13_postings_127 : decode cX13_postings 127 = .ok (.aload_n 0, 1) := by decide +kernel
theorem dX13_postings_128 : decode cX13_postings 128 = .ok (.iload_n 3, 1) := by decide +kernel
theorem dX13_postings_129 : decode cX13_postings 129 = .ok (.invokevirtual 508, 3) := by decide +kernel
theorem dX13_postings_132 : decode cX13_postings 132 = .ok (.ifCond .eq 16, 3) := by decide +kernel
theorem dX13_postings_135 : decode cX13_postings 135 = .ok (.aload_n 0, 1) := by decide +kernel
theorem dX13_postings_136 : decode cX13_postings 136 = .ok (.getfield 66, 3) := by decide +kernel
theorem dX13_postings_139 : decode cX13_postings 139 = .ok (.iload_n 3, 1) := by decide +kernel
theorem dX13_postings_140 : decode cX13_postings 140 = .ok (.dup2, 1) := by decide +kernel
theorem dX13_postings_141 : decode cX13_postings 141 = .ok (.iaload, 1) := by decide +kernel
theorem dX13_postings_142 : decode cX13_postings 142 = .ok (.iconst 1, 1) := by decide +kernel
theorem dX13_postings_143 : decode cX13_postings 143 = .ok (.iadd, 1) := by decide +kernel
theorem dX13_postings_144 : decode cX13_postings 144 = .ok (.iastore, 1) := by decide +kernel
theorem dX13_postings_145 : decode cX13_postings 145 = .ok (.goto (-34), 3) := by decide +kernel
theorem dX13_postings_148 : decode cX13_postings 148 = .ok (.aload_n 0, 1) := by decide +kernel
theorem dX13_postings_149 : decode cX13_postings 149 = .ok (.getfield 66, 3) := by decide +kernel
theorem dX13_postings_152 : decode cX13_postings 152 = .ok (.iload_n 3, 1) := by decide +kernel
theorem dX13_postings_153 : decode cX13_postings 153 = .ok (.iaload, 1) := by decide +kernel
theorem dX13_postings_154 : decode cX13_postings 154 = .ok (.aload_n 0, 1) := by decide +kernel
theorem dX13_postings_155 : decode cX13_postings 155 = .ok (.getfield 397, 3) := by decide +kernel
theorem dX13_postings_158 : decode cX13_postings 158 = .ok (.getfield 318, 3) := by decide +kernel
theorem dX13_postings_161 : decode cX13_postings 161 = .ok (.if_icmp .lt 9, 3) := by decide +kernel
theorem dX13_postings_164 : decode cX13_postings 164 = .ok (.iinc 3 (-1), 3) := by decide +kernel
theorem dX13_postings_167 : decode cX13_postings 167 = .ok (.goto (-70), 3) := by decide +kernel
theorem dX13_postings_170 : decode cX13_postings 170 = .ok (.iload_n 3, 1) := by decide +kernel
theorem dX13_postings_171 : decode cX13_postings 171 = .ok (.iconst 1, 1) := by decide +kernel
theorem dX13_postings_172 : decode cX13_postings 172 = .ok (.iadd, 1) := by decide +kernel
theorem dX13_postings_173 : decode cX13_postings 173 = .ok (.aload_n 0, 1) := by decide +kernel
theorem dX13_postings_174 : decode cX13_postings 174 = .ok (.getfield 502, 3) := by decide +kernel
theorem dX13_postings_177 : decode cX13_postings 177 = .ok (.if_icmp .ge 16, 3) := by decide +kernel
theorem dX13_postings_180 : decode cX13_postings 180 = .ok (.iinc 3 1, 3) := by decide +kernel
theorem dX13_postings_183 : decode cX13_postings 183 = .ok (.aload_n 0, 1) := by decide +kernel
theorem dX13_postings_184 : decode cX13_postings 184 = .ok (.getfield 66, 3) := by decide +kernel
theorem dX13_postings_187 : decode cX13_postings 187 = .ok (.iload_n 3, 1) := by decide +kernel
theorem dX13_postings_188 : decode cX13_postings 188 = .ok (.iconst (-1), 1) := by decide +kernel
theorem dX13_postings_189 : decode cX13_postings 189 = .ok (.iastore, 1) := by decide +kernel
theorem dX13_postings_190 : decode cX13_postings 190 = .ok (.goto (-93), 3) := by decide +kernel
theorem dX13_postings_193 : decode cX13_postings 193 = .ok (.aload_n 0, 1) := by decide +kernel
theorem dX13_postings_194 : decode cX13_postings 194 = .ok (.invokevirtual 505, 3) := by decide +kernel
theorem dX13_postings_197 : decode cX13_postings 197 = .ok (.istore 4, 2) := by decide +kernel
theorem dX13_postings_199 : decode cX13_postings 199 = .ok (.iload 4, 2) := by decide +kernel
theorem dX13_postings_201 : decode cX13_postings 201 = .ok (.iload_n 2, 1) := by decide +kernel
theorem dX13_postings_202 : decode cX13_postings 202 = .ok (.if_icmp .gt 6, 3) := by decide +kernel
theorem dX13_postings_205 : decode cX13_postings 205 = .ok (.goto (-108), 3) := by decide +kernel
theorem dX13_postings_208 : decode cX13_postings 208 = .ok (.iload 4, 2) := by decide +kernel
theorem dX13_postings_210 : decode cX13_postings 210 = .ok (.istore_n 2, 1) := by decide +kernel
theorem dX13_postings_211 : decode cX13_postings 211 = .ok (.iconst 0, 1) := by decide +kernel
theorem dX13_postings_212 : decode cX13_postings 212 = .ok (.istore 5, 2) := by decide +kernel
theorem dX13_postings_214 : decode cX13_postings 214 = .ok (.iload 5, 2) := by decide +kernel
theorem dX13_postings_216 : decode cX13_postings 216 = .ok (.aload_n 0, 1) := by decide +kernel
theorem dX13_postings_217 : decode cX13_postings 217 = .ok (.getfield 502, 3) := by decide +kernel
theorem dX13_postings_220 : decode cX13_postings 220 = .ok (.if_icmp .ge 23, 3) := by decide +kernel
theorem dX13_postings_223 : decode cX13_postings 223 = .ok (.aload_n 0, 1) := by decide +kernel
theorem dX13_postings_224 : decode cX13_postings 224 = .ok (.getfield 69, 3) := by decide +kernel
theorem dX13_postings_227 : decode cX13_postings 227 = .ok (.iload 5, 2) := by decide +kernel
theorem dX13_postings_229 : decode cX13_postings 229 = .ok (.aload_n 0, 1) := by decide +kernel
theorem dX13_postings_230 : decode cX13_postings 230 = .ok (.getfield 66, 3) := by decide +kernel
theorem dX13_postings_233 : decode cX13_postings 233 = .ok (.iload 5, 2) := by decide +kernel
theorem dX13_postings_235 : decode cX13_postings 235 = .ok (.iaload, 1) := by decide +kernel
theorem dX13_postings_236 : decode cX13_postings 236 = .ok (.iastore, 1) := by decide +kernel
theorem dX13_postings_237 : decode cX13_postings 237 = .ok (.iinc 5 1, 3) := by decide +kernel
theorem dX13_postings_240 : decode cX13_postings 240 = .ok (.goto (-26), 3) := by decide +kernel
theorem dX13_postings_243 : decode cX13_postings 243 = .ok (.goto (-146), 3) := by decide +kernel
theorem dX13_postings_246 : decode cX13_postings 246 = .ok (.iload_n 2, 1) := by decide +kernel
theorem dX13_postings_247 : decode cX13_postings 247 = .ok (.ireturn, 1) := by decide +kernel
theorem dX13_isBusy_0 : decode cX13_isBusy 0 = .ok (.iconst 0, 1) := by decide +kernel
theorem dX13_isBusy_1 : decode cX13_isBusy 1 = .ok (.istore_n 2, 1) := by decide +kernel
theorem dX13_isBusy_2 : decode cX13_isBusy 2 = .ok (.iload_n 2, 1) := by decide +kernel
theorem dX13_isBusy_3 : decode cX13_isBusy 3 = .ok (.iload_n 1, 1) := by decide +kernel
theorem dX13_isBusy_4 : decode cX13_isBusy 4 = .ok (.if_icmp .ge 26, 3) := by decide +kernel
theorem dX13_isBusy_7 : decode cX13_isBusy 7 = .ok (.aload_n 0, 1) := by decide +kernel
theorem dX13_isBusy_8 : decode cX13_isBusy 8 = .ok (.getfield 66, 3) := by decide +kernel
theorem dX13_isBusy_11 : decode cX13_isBusy 11 = .ok (.iload_n 2, 1) := by decide +kernel
theorem dX13_isBusy_12 : decode cX13_isBusy 12 = .ok (.iaload, 1) := by decide +kernel
theorem dX13_isBusy_13 : decode cX13_isBusy 13 = .ok (.aload_n 0, 1) := by decide +kernel
theorem dX13_isBusy_14 : decode cX13_isBusy 14 = .ok (.getfield 66, 3) := by decide +kernel
theorem dX13_isBusy_17 : decode cX13_isBusy 17 = .ok (.iload_n 1, 1) := by decide +kernel
theorem dX13_isBusy_18 : decode cX13_isBusy 18 = .ok (.iaload, 1) := by decide +kernel
theorem dX13_isBusy_19 : decode cX13_isBusy 19 = .ok (.if_icmp .ne 5, 3) := by decide +kernel
theorem dX13_isBusy_22 : decode cX13_isBusy 22 = .ok (.iconst 1, 1) := by decide +kernel
theorem dX13_isBusy_23 : decode cX13_isBusy 23 = .ok (.ireturn, 1) := by decide +kernel
theorem dX13_isBusy_24 : decode cX13_isBusy 24 = .ok (.iinc 2 1, 3) := by decide +kernel
theorem dX13_isBusy_27 : decode cX13_isBusy 27 = .ok (.goto (-25), 3) := by decide +kernel
theorem dX13_isBusy_30 : decode cX13_isBusy 30 = .ok (.iconst 0, 1) := by decide +kernel
theorem dX13_isBusy_31 : decode cX13_isBusy 31 = .ok (.ireturn, 1) := by decide +kernel
theorem dX13_dutyOfAll_0 : decode cX13_dutyOfAll 0 = .ok (.iconst 0, 1) := by decide +kernel
theorem dX13_dutyOfAll_1 : decode cX13_dutyOfAll 1 = .ok (.istore_n 1, 1) := by decide +kernel
theorem dX13_dutyOfAll_2 : decode cX13_dutyOfAll 2 = .ok (.iconst 0, 1) := by decide +kernel
theorem dX13_dutyOfAll_3 : decode cX13_dutyOfAll 3 = .ok (.istore_n 2, 1) := by decide +kernel
theorem dX13_dutyOfAll_4 : decode cX13_dutyOfAll 4 = .ok (.iload_n 2, 1) := by decide +kernel
theorem dX13_dutyOfAll_5 : decode cX13_dutyOfAll 5 = .ok (.bipush 6, 2) := by decide +kernel
theorem dX13_dutyOfAll_7 : decode cX13_dutyOfAll 7 = .ok (.if_icmp .ge 17, 3) := by decide +kernel
theorem dX13_dutyOfAll_10 : decode cX13_dutyOfAll 10 = .ok (.aload_n 0, 1) := by decide +kernel
theorem dX13_dutyOfAll_11 : decode cX13_dutyOfAll 11 = .ok (.getfield 30, 3) := by decide +kernel
theorem dX13_dutyOfAll_14 : decode cX13_dutyOfAll 14 = .ok (.iload_n 2, 1) := by decide +kernel
theorem dX13_dutyOfAll_15 : decode cX13_dutyOfAll 15 = .ok (.bipush (-2), 2) := by decide +kernel
theorem dX13_dutyOfAll_17 : decode cX13_dutyOfAll 17 = .ok (.iastore, 1) := by decide +kernel
theorem dX13_dutyOfAll_18 : decode cX13_dutyOfAll 18 = .ok (.iinc 2 1, 3) := by decide +kernel
theorem dX13_dutyOfAll_21 : decode cX13_dutyOfAll 21 = .ok (.goto (-17), 3) := by decide +kernel
theorem dX13_dutyOfAll_24 : decode cX13_dutyOfAll 24 = .ok (.iconst 0, 1) := by decide +kernel
theorem dX13_dutyOfAll_25 : decode cX13_dutyOfAll 25 = .ok (.istore_n 2, 1) := by decide +kernel
theorem dX13_dutyOfAll_26 : decode cX13_dutyOfAll 26 = .ok (.iload_n 2, 1) := by decide +kernel
theorem dX13_dutyOfAll_27 : decode cX13_dutyOfAll 27 = .ok (.aload_n 0, 1) := by decide +kernel
theorem dX13_dutyOfAll_28 : decode cX13_dutyOfAll 28 = .ok (.getfield 502, 3) := by decide +kernel
theorem dX13_dutyOfAll_31 : decode cX13_dutyOfAll 31 = .ok (.if_icmp .ge 26, 3) := by decide +kernel
theorem dX13_dutyOfAll_34 : decode cX13_dutyOfAll 34 = .ok (.aload_n 0, 1) := by decide +kernel
theorem dX13_dutyOfAll_35 : decode cX13_dutyOfAll 35 = .ok (.getfield 30, 3) := by decide +kernel
theorem dX13_dutyOfAll_38 : decode cX13_dutyOfAll 38 = .ok (.aload_n 0, 1) := by decide +kernel
theorem dX13_dutyOfAll_39 : decode cX13_dutyOfAll 39 = .ok (.getfield 63, 3) := by decide +kernel
theorem dX13_dutyOfAll_42 : decode cX13_dutyOfAll 42 = .ok (.iload_n 2, 1) := by decide +kernel
theorem dX13_dutyOfAll_43 : decode cX13_dutyOfAll 43 = .ok (.iaload, 1) := by decide +kernel
theorem dX13_dutyOfAll_44 : decode cX13_dutyOfAll 44 = .ok (.aload_n 0, 1) := by decide +kernel
theorem dX13_dutyOfAll_45 : decode cX13_dutyOfAll 45 = .ok (.getfield 66, 3) := by decide +kernel
theorem dX13_dutyOfAll_48 : decode cX13_dutyOfAll 48 = .ok (.iload_n 2, 1) := by decide +kernel
theorem dX13_dutyOfAll_49 : decode cX13_dutyOfAll 49 = .ok (.iaload, 1) := by decide +kernel
theorem dX13_dutyOfAll_50 : decode cX13_dutyOfAll 50 = .ok (.iastore, 1) := by decide +kernel
theorem dX13_dutyOfAll_51 : decode cX13_dutyOfAll 51 = .ok (.iinc 2 1, 3) := by decide +kernel
theorem dX13_dutyOfAll_54 : decode cX13_dutyOfAll 54 = .ok (.goto (-28), 3) := by decide +kernel
theorem dX13_dutyOfAll_57 : decode cX13_dutyOfAll 57 = .ok (.iconst 0, 1) := by decide +kernel
theorem dX13_dutyOfAll_58 : decode cX13_dutyOfAll 58 = .ok (.istore_n 2, 1) := by decide +kernel
theorem dX13_dutyOfAll_59 : decode cX13_dutyOfAll 59 = .ok (.iload_n 2, 1) := by decide +kernel
theorem dX13_dutyOfAll_60 : decode cX13_dutyOfAll 60 = .ok (.aload_n 0, 1) := by decide +kernel
theorem dX13_dutyOfAll_61 : decode cX13_dutyOfAll 61 = .ok (.getfield 397, 3) := by decide +kernel
theorem dX13_dutyOfAll_64 : decode cX13_dutyOfAll 64 = .ok (.getfield 343, 3) := by decide +kernel
theorem dX13_dutyOfAll_67 : decode cX13_dutyOfAll 67 = .ok (.if_icmp .ge 29, 3) := by decide +kernel
theorem dX13_dutyOfAll_70 : decode cX13_dutyOfAll 70 = .ok (.iload_n 1, 1) := by decide +kernel
theorem dX13_dutyOfAll_71 : decode cX13_dutyOfAll 71 = .ok (.aload_n 0, 1) := by decide +kernel
theorem dX13_dutyOfAll_72 : decode cX13_dutyOfAll 72 = .ok (.iload_n 2, 1) := by decide +kernel
theorem dX13_dutyOfAll_73 : decode cX13_dutyOfAll 73 = .ok (.invokevirtual 445, 3) := by decide +kernel
theorem dX13_dutyOfAll_76 : decode cX13_dutyOfAll 76 = .ok (.ifCond .eq 11, 3) := by decide +kernel
theorem dX13_dutyOfAll_79 : decode cX13_dutyOfAll 79 = .ok (.aload_n 0, 1) := by decide +kernel
theorem dX13_dutyOfAll_80 : decode cX13_dutyOfAll 80 = .ok (.iload_n 2, 1) := by decide +kernel
theorem dX13_dutyOfAll_81 : decode cX13_dutyOfAll 81 = .ok (.invokevirtual 448, 3) := by decide +kernel
theorem dX13_dutyOfAll_84 : decode cX13_dutyOfAll 84 = .ok (.goto 4, 3) := by decide +kernel
theorem dX13_dutyOfAll_87 : decode cX13_dutyOfAll 87 = .ok (.iconst 0, 1) := by decide +kernel
theorem dX13_dutyOfAll_88 : decode cX13_dutyOfAll 88 = .ok (.iadd, 1) := by decide +kernel
theorem dX13_dutyOfAll_89 : decode cX13_dutyOfAll 89 = .ok (.istore_n 1, 1) := by decide +kernel
theorem dX13_dutyOfAll_90 : decode cX13_dutyOfAll 90 = .ok (.iinc 2 1, 3) := by decide +kernel
theorem dX13_dutyOfAll_93 : decode cX13_dutyOfAll 93 = .ok (.goto (-34), 3) := by decide +kernel
theorem dX13_dutyOfAll_96 : decode cX13_dutyOfAll 96 = .ok (.iload_n 1, 1) := by decide +kernel
theorem dX13_dutyOfAll_97 : decode cX13_dutyOfAll 97 = .ok (.ireturn, 1) := by decide +kernel
theorem dX13_posts_0 : decode cX13_posts 0 = .ok (.aload_n 0, 1) := by decide +kernel
theorem dX13_posts_1 : decode cX13_posts 1 = .ok (.iconst 0, 1) := by decide +kernel
theorem dX13_posts_2 : decode cX13_posts 2 = .ok (.putfield 72, 3) := by decide +kernel
theorem dX13_posts_5 : decode cX13_posts 5 = .ok (.aload_n 0, 1) := by decide +kernel
theorem dX13_posts_6 : decode cX13_posts 6 = .ok (.getfield 397, 3) := by decide +kernel
theorem dX13_posts_9 : decode cX13_posts 9 = .ok (.ifnonnull 11, 3) := by decide +kernel
theorem dX13_posts_12 : decode cX13_posts 12 = .ok (.aload_n 0, 1) := by decide +kernel
theorem dX13_posts_13 : decode cX13_posts 13 = .ok (.iconst 1, 1) := by decide +kernel
theorem dX13_posts_14 : decode cX13_posts 14 = .ok (.invokevirtual 78, 3) := by decide +kernel
theorem dX13_posts_17 : decode cX13_posts 17 = .ok (.goto 11, 3) := by decide +kernel
theorem dX13_posts_20 : decode cX13_posts 20 = .ok (.aload_n 0, 1) := by decide +kernel
theorem dX13_posts_21 : decode cX13_posts 21 = .ok (.aload_n 0, 1) := by decide +kernel
theorem dX13_posts_22 : decode cX13_posts 22 = .ok (.invokevirtual 511, 3) := by decide +kernel
theorem dX13_posts_25 : decode cX13_posts 25 = .ok (.invokevirtual 82, 3) := by decide +kernel
theorem dX13_posts_28 : decode cX13_posts 28 = .ok (.ireturn, 1) := by decide +kernel
theorem dX13_postOf_0 : decode cX13_postOf 0 = .ok (.aload_n 0, 1) := by decide +kernel
theorem dX13_postOf_1 : decode cX13_postOf 1 = .ok (.iconst 0, 1) := by decide +kernel
theorem dX13_postOf_2 : decode cX13_postOf 2 = .ok (.putfield 72, 3) := by decide +kernel
theorem dX13_postOf_5 : decode cX13_postOf 5 = .ok (.aload_n 0, 1) := by decide +kernel
theorem dX13_postOf_6 : decode cX13_postOf 6 = .ok (.iload_n 1, 1) := by decide +kernel
theorem dX13_postOf_7 : decode cX13_postOf 7 = .ok (.invokevirtual 422, 3) := by decide +kernel
theorem dX13_postOf_10 : decode cX13_postOf 10 = .ok (.ifCond .ne 9, 3) := by decide +kernel
theorem dX13_postOf_13 : decode cX13_postOf 13 = .ok (.aload_n 0, 1) := by decide +kernel
theorem dX13_postOf_14 : decode cX13_postOf 14 = .ok (.iconst 1, 1) := by decide +kernel
theorem dX13_postOf_15 : decode cX13_postOf 15 = .ok (.invokevirtual 78, 3) := by decide +kernel
theorem dX13_postOf_18 : decode cX13_postOf 18 = .ok (.ireturn, 1) := by decide +kernel
theorem dX13_postOf_19 : decode cX13_postOf 19 = .ok (.aload_n 0, 1) := by decide +kernel
theorem dX13_postOf_20 : decode cX13_postOf 20 = .ok (.invokevirtual 511, 3) := by decide +kernel
theorem dX13_postOf_23 : decode cX13_postOf 23 = .ok (.pop, 1) := by decide +kernel
theorem dX13_postOf_24 : decode cX13_postOf 24 = .ok (.iconst 0, 1) := by decide +kernel
theorem dX13_postOf_25 : decode cX13_postOf 25 = .ok (.istore_n 2, 1) := by decide +kernel
theorem dX13_postOf_26 : decode cX13_postOf 26 = .ok (.iload_n 2, 1) := by decide +kernel
theorem dX13_postOf_27 : decode cX13_postOf 27 = .ok (.aload_n 0, 1) := by decide +kernel
theorem dX13_postOf_28 : decode cX13_postOf 28 = .ok (.getfield 502, 3) := by decide +kernel
theorem dX13_postOf_31 : decode cX13_postOf 31 = .ok (.if_icmp .ge 30, 3) := by decide +kernel
theorem dX13_postOf_34 : decode cX13_postOf 34 = .ok (.aload_n 0, 1) := by decide +kernel
theorem dX13_postOf_35 : decode cX13_postOf 35 = .ok (.getfield 63, 3) := by decide +kernel
theorem dX13_postOf_38 : decode cX13_postOf 38 = .ok (.iload_n 2, 1) := by decide +kernel
theorem dX13_postOf_39 : decode cX13_postOf 39 = .ok (.iaload, 1) := by decide +kernel
theorem dX13_postOf_40 : decode cX13_postOf 40 = .ok (.iload_n 1, 1) := by decide +kernel
theorem dX13_postOf_41 : decode cX13_postOf 41 = .ok (.if_icmp .ne 14, 3) := by decide +kernel
theorem dX13_postOf_44 : decode cX13_postOf 44 = .ok (.aload_n 0, 1) := by decide +kernel
theorem dX13_postOf_45 : decode cX13_postOf 45 = .ok (.aload_n 0, 1) := by decide +kernel
theorem dX13_postOf_46 : decode cX13_postOf 46 = .ok (.getfield 69, 3) := by decide +kernel
theorem dX13_postOf_49 : decode cX13_postOf 49 = .ok (.iload_n 2, 1) := by decide +kernel
theorem dX13_postOf_50 : decode cX13_postOf 50 = .ok (.iaload, 1) := by decide +kernel
theorem dX13_postOf_51 : decode cX13_postOf 51 = .ok (.invokevirtual 82, 3) := by decide +kernel
theorem dX13_postOf_54 : decode cX13_postOf 54 = .ok (.ireturn, 1) := by decide +kernel
theorem dX13_postOf_55 : decode cX13_postOf 55 = .ok (.iinc 2 1, 3) := by decide +kernel
theorem dX13_postOf_58 : decode cX13_postOf 58 = .ok (.goto (-32), 3) := by decide +kernel
theorem dX13_postOf_61 : decode cX13_postOf 61 = .ok (.aload_n 0, 1) := by decide +kernel
theorem dX13_postOf_62 : decode cX13_postOf 62 = .ok (.bipush (-2), 2) := by decide +kernel
theorem dX13_postOf_64 : decode cX13_postOf 64 = .ok (.invokevirtual 82, 3) := by decide +kernel
theorem dX13_postOf_67 : decode cX13_postOf 67 = .ok (.ireturn, 1) := by decide +kernel
theorem dX13_isRest_0 : decode cX13_isRest 0 = .ok (.aload_n 0, 1) := by decide +kernel
theorem dX13_isRest_1 : decode cX13_isRest 1 = .ok (.getfield 54, 3) := by decide +kernel
theorem dX13_isRest_4 : decode cX13_isRest 4 = .ok (.bipush 6, 2) := by decide +kernel
theorem dX13_isRest_6 : decode cX13_isRest 6 = .ok (.iload_n 2, 1) := by decide +kernel
theorem dX13_isRest_7 : decode cX13_isRest 7 = .ok (.imul, 1) := by decide +kernel
theorem dX13_isRest_8 : decode cX13_isRest 8 = .ok (.iload_n 3, 1) := by decide +kernel
theorem dX13_isRest_9 : decode cX13_isRest 9 = .ok (.iadd, 1) := by decide +kernel
theorem dX13_isRest_10 : decode cX13_isRest 10 = .ok (.iaload, 1) := by decide +kernel
theorem dX13_isRest_11 : decode cX13_isRest 11 = .ok (.istore 4, 2) := by decide +kernel
theorem dX13_isRest_13 : decode cX13_isRest 13 = .ok (.iconst 0, 1) := by decide +kernel
theorem dX13_isRest_14 : decode cX13_isRest 14 = .ok (.istore 5, 2) := by decide +kernel
theorem dX13_isRest_16 : decode cX13_isRest 16 = .ok (.iload 5, 2) := by decide +kernel
theorem dX13_isRest_18 : decode cX13_isRest 18 = .ok (.aload_n 0, 1) := by decide +kernel
theorem dX13_isRest_19 : decode cX13_isRest 19 = .ok (.getfield 450, 3) := by decide +kernel
theorem dX13_isRest_22 : decode cX13_isRest 22 = .ok (.if_icmp .ge 28, 3) := by decide +kernel
theorem dX13_isRest_25 : decode cX13_isRest 25 = .ok (.aload_n 0, 1) := by decide +kernel
theorem dX13_isRest_26 : decode cX13_isRest 26 = .ok (.getfield 54, 3) := by decide +kernel
theorem dX13_isRest_29 : decode cX13_isRest 29 = .ok (.bipush 6, 2) := by decide +kernel
theorem dX13_isRest_31 : decode cX13_isRest 31 = .ok (.iload 5, 2) := by decide +kernel
theorem dX13_isRest_33 : decode cX13_isRest 33 = .ok (.imul, 1) := by decide +kernel
theorem dX13_isRest_34 : decode cX13_isRest 34 = .ok (.iload_n 3, 1) := by decide +kernel
theorem dX13_isRest_35 : decode cX13_isRest 35 = .ok (.iadd, 1) := by decide +kernel
theorem dX13_isRest_36 : decode cX13_isRest 36 = .ok (.iaload, 1) := by decide +kernel
theorem dX13_isRest_37 : decode cX13_isRest 37 = .ok (.iload 4, 2) := by decide +kernel
theorem dX13_isRest_39 : decode cX13_isRest 39 = .ok (.if_icmp .ge 5, 3) := by decide +kernel
theorem dX13_isRest_42 : decode cX13_isRest 42 = .ok (.iconst 0, 1) := by decide +kernel
theorem dX13_isRest_43 : decode cX13_isRest 43 = .ok (.ireturn, 1) := by decide +kernel
theorem dX13_isRest_44 : decode cX13_isRest 44 = .ok (.iinc 5 1, 3) := by decide +kernel
theorem dX13_isRest_47 : decode cX13_isRest 47 = .ok (.goto (-31), 3) := by decide +kernel
theorem dX13_isRest_50 : decode cX13_isRest 50 = .ok (.iconst 0, 1) := by decide +kernel
theorem dX13_isRest_51 : decode cX13_isRest 51 = .ok (.istore 5, 2) := by decide +kernel
theorem dX13_isRest_53 : decode cX13_isRest 53 = .ok (.iload 5, 2) := by decide +kernel
theorem dX13_isRest_55 : decode cX13_isRest 55 = .ok (.aload_n 0, 1) := by decide +kernel
theorem dX13_isRest_56 : decode cX13_isRest 56 = .ok (.getfield 397, 3) := by decide +kernel
theorem dX13_isRest_59 : decode cX13_isRest 59 = .ok (.getfield 230, 3) := by decide +kernel
theorem dX13_isRest_62 : decode cX13_isRest 62 = .ok (.if_icmp .ge 42, 3) := by decide +kernel
theorem dX13_isRest_65 : decode cX13_isRest 65 = .ok (.iload 5, 2) := by decide +kernel
theorem dX13_isRest_67 : decode cX13_isRest 67 = .ok (.aload_n 0, 1) := by decide +kernel
theorem dX13_isRest_68 : decode cX13_isRest 68 = .ok (.getfield 17, 3) := by decide +kernel
theorem dX13_isRest_71 : decode cX13_isRest 71 = .ok (.bipush 24, 2) := by decide +kernel
theorem dX13_isRest_73 : decode cX13_isRest 73 = .ok (.iload_n 1, 1) := by decide +kernel
theorem dX13_isRest_74 : decode cX13_isRest 74 = .ok (.iadd, 1) := by decide +kernel
theorem dX13_isRest_75 : decode cX13_isRest 75 = .ok (.iaload, 1) := by decide +kernel
theorem dX13_isRest_76 : decode cX13_isRest 76 = .ok (.if_icmp .eq 22, 3) := by decide +kernel
theorem dX13_isRest_79 : decode cX13_isRest 79 = .ok (.aload_n 0, 1) := by decide +kernel
theorem dX13_isRest_80 : decode cX13_isRest 80 = .ok (.getfield 54, 3) := by decide +kernel
theorem dX13_isRest_83 : decode cX13_isRest 83 = .ok (.bipush 6, 2) := by decide +kernel
theorem dX13_isRest_85 : decode cX13_isRest 85 = .ok (.iload_n 2, 1) := by decide +kernel
theorem dX13_isRest_86 : decode cX13_isRest 86 = .ok (.imul, 1) := by decide +kernel
theorem dX13_isRest_87 : decode cX13_isRest 87 = .ok (.iload 5, 2) := by decide +kernel
theorem dX13_isRest_89 : decode cX13_isRest 89 = .ok (.iadd, 1) := by decide +kernel
theorem dX13_isRest_90 : decode cX13_isRest 90 = .ok (.iaload, 1) := by decide +kernel
theorem dX13_isRest_91 : decode cX13_isRest 91 = .ok (.iload 4, 2) := by decide +kernel
theorem dX13_isRest_93 : decode cX13_isRest 93 = .ok (.if_icmp .le 5, 3) := by decide +kernel
theorem dX13_isRest_96 : decode cX13_isRest 96 = .ok (.iconst 0, 1) := by decide +kernel
theorem dX13_isRest_97 : decode cX13_isRest 97 = .ok (.ireturn, 1) := by decide +kernel
theorem dX13_isRest_98 : decode cX13_isRest 98 = .ok (.iinc 5 1, 3) := by decide +kernel
theorem dX13_isRest_101 : decode cX13_isRest 101 = .ok (.goto (-48), 3) := by decide +kernel
theorem dX13_isRest_104 : decode cX13_isRest 104 = .ok (.iconst 1, 1) := by decide +kernel
theorem dX13_isRest_105 : decode cX13_isRest 105 = .ok (.ireturn, 1) := by decide +kernel
theorem dX13_asksGame_0 : decode cX13_asksGame 0 = .ok (.aload_n 0, 1) := by decide +kernel
theorem dX13_asksGame_1 : decode cX13_asksGame 1 = .ok (.iload_n 1, 1) := by decide +kernel
theorem dX13_asksGame_2 : decode cX13_asksGame 2 = .ok (.invokevirtual 425, 3) := by decide +kernel
theorem dX13_asksGame_5 : decode cX13_asksGame 5 = .ok (.ifCond .eq 11, 3) := by decide +kernel
theorem dX13_asksGame_8 : decode cX13_asksGame 8 = .ok (.aload_n 0, 1) := by decide +kernel
theorem dX13_asksGame_9 : decode cX13_asksGame 9 = .ok (.iload_n 2, 1) := by decide +kernel
theorem dX13_asksGame_10 : decode cX13_asksGame 10 = .ok (.invokevirtual 422, 3) := by decide +kernel
theorem dX13_asksGame_13 : decode cX13_asksGame 13 = .ok (.ifCond .ne 5, 3) := by decide +kernel
theorem dX13_asksGame_16 : decode cX13_asksGame 16 = .ok (.iconst 1, 1) := by decide +kernel
theorem dX13_asksGame_17 : decode cX13_asksGame 17 = .ok (.ireturn, 1) := by decide +kernel
theorem dX13_asksGame_18 : decode cX13_asksGame 18 = .ok (.aload_n 0, 1) := by decide +kernel
theorem dX13_asksGame_19 : decode cX13_asksGame 19 = .ok (.iload_n 1, 1) := by decide +kernel
theorem dX13_asksGame_20 : decode cX13_asksGame 20 = .ok (.iload_n 2, 1) := by decide +kernel
theorem dX13_asksGame_21 : decode cX13_asksGame 21 = .ok (.invokevirtual 466, 3) := by decide +kernel
theorem dX13_asksGame_24 : decode cX13_asksGame 24 = .ok (.aload_n 0, 1) := by decide +kernel
theorem dX13_asksGame_25 : decode cX13_asksGame 25 = .ok (.getfield 450, 3) := by decide +kernel
theorem dX13_asksGame_28 : decode cX13_asksGame 28 = .ok (.ifCond .eq 14, 3) := by decide +kernel
theorem dX13_asksGame_31 : decode cX13_asksGame 31 = .ok (.aload_n 0, 1) := by decide +kernel
theorem dX13_asksGame_32 : decode cX13_asksGame 32 = .ok (.getfield 397, 3) := by decide +kernel
theorem dX13_asksGame_35 : decode cX13_asksGame 35 = .ok (.getfield 230, 3) := by decide +kernel
theorem dX13_asksGame_38 : decode cX13_asksGame 38 = .ok (.iconst 1, 1) := by decide +kernel
theorem dX13_asksGame_39 : decode cX13_asksGame 39 = .ok (.if_icmp .ne 8, 3) := by decide +kernel
theorem dX13_asksGame_42 : decode cX13_asksGame 42 = .ok (.bipush 6, 2) := by decide +kernel
theorem dX13_asksGame_44 : decode cX13_asksGame 44 = .ok (.goto 4, 3) := by decide +kernel
theorem dX13_asksGame_47 : decode cX13_asksGame 47 = .ok (.iconst 0, 1) := by decide +kernel
theorem dX13_asksGame_48 : decode cX13_asksGame 48 = .ok (.ireturn, 1) := by decide +kernel
theorem dX13_rests_0 : decode cX13_rests 0 = .ok (.aload_n 0, 1) := by decide +kernel
theorem dX13_rests_1 : decode cX13_rests 1 = .ok (.iconst 0, 1) := by decide +kernel
theorem dX13_rests_2 : decode cX13_rests 2 = .ok (.putfield 72, 3) := by decide +kernel
theorem dX13_rests_5 : decode cX13_rests 5 = .ok (.aload_n 0, 1) := by decide +kernel
theorem dX13_rests_6 : decode cX13_rests 6 = .ok (.iload_n 1, 1) := by decide +kernel
theorem dX13_rests_7 : decode cX13_rests 7 = .ok (.iload_n 2, 1) := by decide +kernel
theorem dX13_rests_8 : decode cX13_rests 8 = .ok (.invokevirtual 514, 3) := by decide +kernel
theorem dX13_rests_11 : decode cX13_rests 11 = .ok (.istore_n 3, 1) := by decide +kernel
theorem dX13_rests_12 : decode cX13_rests 12 = .ok (.iload_n 3, 1) := by decide +kernel
theorem dX13_rests_13 : decode cX13_rests 13 = .ok (.ifCond .le 9, 3) := by decide +kernel
theorem dX13_rests_16 : decode cX13_rests 16 = .ok (.aload_n 0, 1) := by decide +kernel
theorem dX13_rests_17 : decode cX13_rests 17 = .ok (.iload_n 3, 1) := by decide +kernel
theorem dX13_rests_18 : decode cX13_rests 18 = .ok (.invokevirtual 78, 3) := by decide +kernel
theorem dX13_rests_21 : decode cX13_rests 21 = .ok (.ireturn, 1) := by decide +kernel
theorem dX13_rests_22 : decode cX13_rests 22 = .ok (.iconst 0, 1) := by decide +kernel
theorem dX13_rests_23 : decode cX13_rests 23 = .ok (.istore 4, 2) := by decide +kernel
theorem dX13_rests_25 : decode cX13_rests 25 = .ok (.iconst 0, 1) := by decide +kernel
theorem dX13_rests_26 : decode cX13_rests 26 = .ok (.istore 5, 2) := by decide +kernel
theorem dX13_rests_28 : decode cX13_rests 28 = .ok (.iload 5, 2) := by decide +kernel
theorem dX13_rests_30 : decode cX13_rests 30 = .ok (.aload_n 0, 1) := by decide +kernel
theorem dX13_rests_31 : decode cX13_rests 31 = .ok (.getfield 450, 3) := by decide +kernel
theorem dX13_rests_34 : decode cX13_rests 34 = .ok (.if_icmp .ge 66, 3) := by decide +kernel
theorem dX13_rests_37 : decode cX13_rests 37 = .ok (.iconst 0, 1) := by decide +kernel
theorem dX13_rests_38 : decode cX13_rests 38 = .ok (.istore 6, 2) := by decide +kernel
theorem dX13_rests_40 : decode cX13_rests 40 = .ok (.iload 6, 2) := by decide +kernel
theorem dX13_rests_42 : decode cX13_rests 42 = .ok (.aload_n 0, 1) := by decide +kernel
theorem dX13_rests_43 : decode cX13_rests 43 = .ok (.getfield 397, 3) := by decide +kernel
theorem dX13_rests_46 : decode cX13_rests 46 = .ok (.getfield 230, 3) := by decide +kernel
theorem dX13_rests_49 : decode cX13_rests 49 = .ok (.if_icmp .ge 45, 3) := by decide +kernel
theorem dX13_rests_52 : decode cX13_rests 52 = .ok (.iload 4, 2) := by decide +kernel
theorem dX13_rests_54 : decode cX13_rests 54 = .ok (.iload 6, 2) := by decide +kernel
theorem dX13_rests_56 : decode cX13_rests 56 = .ok (.aload_n 0, 1) := by decide +kernel
theorem dX13_rests_57 : decode cX13_rests 57 = .ok (.getfield 17, 3) := by decide +kernel
theorem dX13_rests_60 : decode cX13_rests 60 = .ok (.bipush 24, 2) := by decide +kernel
theorem dX13_rests_62 : decode cX13_rests 62 = .ok (.iload_n 1, 1) := by decide +kernel
theorem dX13_rests_63 : decode cX13_rests 63 = .ok (.iadd, 1) := by decide +kernel
theorem dX13_rests_64 : decode cX13_rests 64 = .ok (.iaload, 1) := by decide +kernel
theorem dX13_rests_65 : decode cX13_rests 65 = .ok (.if_icmp .eq 19, 3) := by decide +kernel
theorem dX13_rests_68 : decode cX13_rests 68 = .ok (.aload_n 0, 1) := by decide +kernel
theorem dX13_rests_69 : decode cX13_rests 69 = .ok (.iload_n 1, 1) := by decide +kernel
theorem dX13_rests_70 : decode cX13_rests 70 = .ok (.iload 5, 2) := by decide +kernel
theorem dX13_rests_72 : decode cX13_rests 72 = .ok (.iload 6, 2) := by decide +kernel
theorem dX13_rests_74 : decode cX13_rests 74 = .ok (.invokevirtual 517, 3) := by decide +kernel
theorem dX13_rests_77 : decode cX13_rests 77 = .ok (.ifCond .eq 7, 3) := by decide +kernel
theorem dX13_rests_80 : decode cX13_rests 80 = .ok (.iconst 1, 1) := by decide +kernel
theorem dX13_rests_81 : decode cX13_rests 81 = .ok (.goto 4, 3) := by decide +kernel
theorem dX13_rests_84 : decode cX13_rests 84 = .ok (.iconst 0, 1) := by decide +kernel
theorem dX13_rests_85 : decode cX13_rests 85 = .ok (.iadd, 1) := by decide +kernel
theorem dX13_rests_86 : decode cX13_rests 86 = .ok (.istore 4, 2) := by decide +kernel
theorem dX13_rests_88 : decode cX13_rests 88 = .ok (.iinc 6 1, 3) := by decide +kernel
theorem dX13_rests_91 : decode cX13_rests 91 = .ok (.goto (-51), 3) := by decide +kernel
theorem dX13_rests_94 : decode cX13_rests 94 = .ok (.iinc 5 1, 3) := by decide +kernel
theorem dX13_rests_97 : decode cX13_rests 97 = .ok (.goto (-69), 3) := by decide +kernel
theorem dX13_rests_100 : decode cX13_rests 100 = .ok (.aload_n 0, 1) := by decide +kernel
theorem dX13_rests_101 : decode cX13_rests 101 = .ok (.iload 4, 2) := by decide +kernel
theorem dX13_rests_103 : decode cX13_rests 103 = .ok (.invokevirtual 82, 3) := by decide +kernel
theorem dX13_rests_106 : decode cX13_rests 106 = .ok (.ireturn, 1) := by decide +kernel
theorem dX13_rest_0 : decode cX13_rest 0 = .ok (.aload_n 0, 1) := by decide +kernel
theorem dX13_rest_1 : decode cX13_rest 1 = .ok (.iconst 0, 1) := by decide +kernel
theorem dX13_rest_2 : decode cX13_rest 2 = .ok (.putfield 72, 3) := by decide +kernel
theorem dX13_rest_5 : decode cX13_rest 5 = .ok (.aload_n 0, 1) := by decide +kernel
theorem dX13_rest_6 : decode cX13_rest 6 = .ok (.iload_n 1, 1) := by decide +kernel
theorem dX13_rest_7 : decode cX13_rest 7 = .ok (.iload_n 2, 1) := by decide +kernel
theorem dX13_rest_8 : decode cX13_rest 8 = .ok (.invokevirtual 514, 3) := by decide +kernel
theorem dX13_rest_11 : decode cX13_rest 11 = .ok (.istore_n 3, 1) := by decide +kernel
theorem dX13_rest_12 : decode cX13_rest 12 = .ok (.iload_n 3, 1) := by decide +kernel
theorem dX13_rest_13 : decode cX13_rest 13 = .ok (.ifCond .le 9, 3) := by decide +kernel
theorem dX13_rest_16 : decode cX13_rest 16 = .ok (.aload_n 0, 1) := by decide +kernel
theorem dX13_rest_17 : decode cX13_rest 17 = .ok (.iload_n 3, 1) := by decide +kernel
theorem dX13_rest_18 : decode cX13_rest 18 = .ok (.invokevirtual 78, 3) := by decide +kernel
theorem dX13_rest_21 : decode cX13_rest 21 = .ok (.ireturn, 1) := by decide +kernel
theorem dX13_rest_22 : decode cX13_rest 22 = .ok (.iconst 0, 1) := by decide +kernel
theorem dX13_rest_23 : decode cX13_rest 23 = .ok (.istore 4, 2) := by decide +kernel
theorem dX13_rest_25 : decode cX13_rest 25 = .ok (.iload 4, 2) := by decide +kernel
theorem dX13_rest_27 : decode cX13_rest 27 = .ok (.aload_n 0, 1) := by decide +kernel
theorem dX13_rest_28 : decode cX13_rest 28 = .ok (.getfield 450, 3) := by decide +kernel
theorem dX13_rest_31 : decode cX13_rest 31 = .ok (.if_icmp .ge 74, 3) := by decide +kernel
theorem dX13_rest_34 : decode cX13_rest 34 = .ok (.iconst 0, 1) := by decide +kernel
theorem dX13_rest_35 : decode cX13_rest 35 = .ok (.istore 5, 2) := by decide +kernel
theorem dX13_rest_37 : decode cX13_rest 37 = .ok (.iload 5, 2) := by decide +kernel
theorem dX13_rest_39 : decode cX13_rest 39 = .ok (.aload_n 0, 1) := by decide +kernel
theorem dX13_rest_40 : decode cX13_rest 40 = .ok (.getfield 397, 3) := by decide +kernel
theorem dX13_rest_43 : decode cX13_rest 43 = .ok (.getfield 230, 3) := by decide +kernel
theorem dX13_rest_46 : decode cX13_rest 46 = .ok (.if_icmp .ge 53, 3) := by decide +kernel
theorem dX13_rest_49 : decode cX13_rest 49 = .ok (.iload 5, 2) := by decide +kernel
theorem dX13_rest_51 : decode cX13_rest 51 = .ok (.aload_n 0, 1) := by decide +kernel
theorem dX13_rest_52 : decode cX13_rest 52 = .ok (.getfield 17, 3) := by decide +kernel
theorem dX13_rest_55 : decode cX13_rest 55 = .ok (.bipush 24, 2) := by decide +kernel
theorem dX13_rest_57 : decode cX13_rest 57 = .ok (.iload_n 1, 1) := by decide +kernel
theorem dX13_rest_58 : decode cX13_rest 58 = .ok (.iadd, 1) := by decide +kernel
theorem dX13_rest_59 : decode cX13_rest 59 = .ok (.iaload, 1) := by decide +kernel
theorem dX13_rest_60 : decode cX13_rest 60 = .ok (.if_icmp .eq 33, 3) := by decide +kernel
theorem dX13_rest_63 : decode cX13_rest 63 = .ok (.aload_n 0, 1) := by decide +kernel
theorem dX13_rest_64 : decode cX13_rest 64 = .ok (.iload_n 1, 1) := by decide +kernel
theorem dX13_rest_65 : decode cX13_rest 65 = .ok (.iload 4, 2) := by decide +kernel
theorem dX13_rest_67 : decode cX13_rest 67 = .ok (.iload 5, 2) := by decide +kernel
theorem dX13_rest_69 : decode cX13_rest 69 = .ok (.invokevirtual 517, 3) := by decide +kernel
theorem dX13_rest_72 : decode cX13_rest 72 = .ok (.ifCond .eq 21, 3) := by decide +kernel
theorem dX13_rest_75 : decode cX13_rest 75 = .ok (.aload_n 0, 1) := by decide +kernel
theorem dX13_rest_76 : decode cX13_rest 76 = .ok (.aload_n 0, 1) := by decide +kernel
theorem dX13_rest_77 : decode cX13_rest 77 = .ok (.getfield 54, 3) := by decide +kernel
theorem dX13_rest_80 : decode cX13_rest 80 = .ok (.bipush 6, 2) := by decide +kernel
theorem dX13_rest_82 : decode cX13_rest 82 = .ok (.iload 4, 2) := by decide +kernel
theorem dX13_rest_84 : decode cX13_rest 84 = .ok (.imul, 1) := by decide +kernel
theorem dX13_rest_85 : decode cX13_rest 85 = .ok (.iload 5, 2) := by decide +kernel
theorem dX13_rest_87 : decode cX13_rest 87 = .ok (.iadd, 1) := by decide +kernel
theorem dX13_rest_88 : decode cX13_rest 88 = .ok (.iaload, 1) := by decide +kernel
theorem dX13_rest_89 : decode cX13_rest 89 = .ok (.invokevirtual 82, 3) := by decide +kernel
theorem dX13_rest_92 : decode cX13_rest 92 = .ok (.ireturn, 1) := by decide +kernel
theorem dX13_rest_93 : decode cX13_rest 93 = .ok (.iinc 5 1, 3) := by decide +kernel
theorem dX13_rest_96 : decode cX13_rest 96 = .ok (.goto (-59), 3) := by decide +kernel
theorem dX13_rest_99 : decode cX13_rest 99 = .ok (.iinc 4 1, 3) := by decide +kernel
theorem dX13_rest_102 : decode cX13_rest 102 = .ok (.goto (-77), 3) := by decide +kernel
theorem dX13_rest_105 : decode cX13_rest 105 = .ok (.aload_n 0, 1) := by decide +kernel
theorem dX13_rest_106 : decode cX13_rest 106 = .ok (.bipush (-2), 2) := by decide +kernel
theorem dX13_rest_108 : decode cX13_rest 108 = .ok (.invokevirtual 82, 3) := by decide +kernel
theorem dX13_rest_111 : decode cX13_rest 111 = .ok (.ireturn, 1) := by decide +kernel
theorem dX13_blows_0 : decode cX13_blows 0 = .ok (.iload_n 2, 1) := by decide +kernel
theorem dX13_blows_1 : decode cX13_blows 1 = .ok (.istore 4, 2) := by decide +kernel
theorem dX13_blows_3 : decode cX13_blows 3 = .ok (.aload_n 0, 1) := by decide +kernel
theorem dX13_blows_4 : decode cX13_blows 4 = .ok (.iload_n 1, 1) := by decide +kernel
theorem dX13_blows_5 : decode cX13_blows 5 = .ok (.invokevirtual 428, 3) := by decide +kernel
theorem dX13_blows_8 : decode cX13_blows 8 = .ok (.aload_n 0, 1) := by decide +kernel
theorem dX13_blows_9 : decode cX13_blows 9 = .ok (.invokevirtual 433, 3) := by decide +kernel
theorem dX13_blows_12 : decode cX13_blows 12 = .ok (.iconst 0, 1) := by decide +kernel
theorem dX13_blows_13 : decode cX13_blows 13 = .ok (.istore 5, 2) := by decide +kernel
theorem dX13_blows_15 : decode cX13_blows 15 = .ok (.iload 5, 2) := by decide +kernel
theorem dX13_blows_17 : decode cX13_blows 17 = .ok (.iload_n 3, 1) := by decide +kernel
theorem dX13_blows_18 : decode cX13_blows 18 = .ok (.if_icmp .ge 102, 3) := by decide +kernel
theorem dX13_blows_21 : decode cX13_blows 21 = .ok (.ldc2_w 520, 3) := by decide +kernel
theorem dX13_blows_24 : decode cX13_blows 24 = .ok (.iload 4, 2) := by decide +kernel
theorem dX13_blows_26 : decode cX13_blows 26 = .ok (.i2l, 1) := by decide +kernel
theorem dX13_blows_27 : decode cX13_blows 27 = .ok (.lmul, 1) := by decide +kernel
theorem dX13_blows_28 : decode cX13_blows 28 = .ok (.ldc2_w 522, 3) := by decide +kernel
theorem dX13_blows_31 : decode cX13_blows 31 = .ok (.ladd, 1) := by decide +kernel
theorem dX13_blows_32 : decode cX13_blows 32 = .ok (.ldc2_w 524, 3) := by decide +kernel
theorem dX13_blows_35 : decode cX13_blows 35 = .ok (.lrem, 1) := by decide +kernel
theorem dX13_blows_36 : decode cX13_blows 36 = .ok (.l2i, 1) := by decide +kernel
theorem dX13_blows_37 : decode cX13_blows 37 = .ok (.istore 4, 2) := by decide +kernel
theorem dX13_blows_39 : decode cX13_blows 39 = .ok (.aload_n 0, 1) := by decide +kernel
theorem dX13_blows_40 : decode cX13_blows 40 = .ok (.iconst 1, 1) := by decide +kernel
theorem dX13_blows_41 : decode cX13_blows 41 = .ok (.invokevirtual 431, 3) := by decide +kernel
theorem dX13_blows_44 : decode cX13_blows 44 = .ok (.iconst 0, 1) := by decide +kernel
theorem dX13_blows_45 : decode cX13_blows 45 = .ok (.istore 6, 2) := by decide +kernel
theorem dX13_blows_47 : decode cX13_blows 47 = .ok (.iload 6, 2) := by decide +kernel
theorem dX13_blows_49 : decode cX13_blows 49 = .ok (.aload_n 0, 1) := by decide +kernel
theorem dX13_blows_50 : decode cX13_blows 50 = .ok (.getfield 397, 3) := by decide +kernel
theorem dX13_blows_53 : decode cX13_blows 53 = .ok (.getfield 301, 3) := by decide +kernel
theorem dX13_blows_56 : decode cX13_blows 56 = .ok (.if_icmp .ge 58, 3) := by decide +kernel
theorem dX13_blows_59 : decode cX13_blows 59 = .ok (.aload_n 0, 1) := by decide +kernel
theorem dX13_blows_60 : decode cX13_blows 60 = .ok (.getfield 27, 3) := by decide +kernel
theorem dX13_blows_63 : decode cX13_blows 63 = .ok (.iload 6, 2) := by decide +kernel
theorem dX13_blows_65 : decode cX13_blows 65 = .ok (.aload_n 0, 1) := by decide +kernel
theorem dX13_blows_66 : decode cX13_blows 66 = .ok (.getfield 27, 3) := by decide +kernel
theorem dX13_blows_69 : decode cX13_blows 69 = .ok (.iload 6, 2) := by decide +kernel
theorem dX13_blows_71 : decode cX13_blows 71 = .ok (.iaload, 1) := by decide +kernel
theorem dX13_blows_72 : decode cX13_blows 72 = .ok (.iload 4, 2) := by decide +kernel
theorem dX13_blows_74 : decode cX13_blows 74 = .ok (.aload_n 0, 1) := by decide +kernel
theorem dX13_blows_75 : decode cX13_blows 75 = .ok (.getfield 397, 3) := by decide +kernel
theorem dX13_blows_78 : decode cX13_blows 78 = .ok (.getfield 189, 3) := by decide +kernel
theorem dX13_blows_81 : decode cX13_blows 81 = .ok (.irem, 1) := by decide +kernel
theorem dX13_blows_82 : decode cX13_blows 82 = .ok (.if_icmp .le 24, 3) := by decide +kernel
theorem dX13_blows_85 : decode cX13_blows 85 = .ok (.aload_n 0, 1) := by decide +kernel
theorem dX13_blows_86 : decode cX13_blows 86 = .ok (.getfield 27, 3) := by decide +kernel
theorem dX13_blows_89 : decode cX13_blows 89 = .ok (.iload 6, 2) := by decide +kernel
theorem dX13_blows_91 : decode cX13_blows 91 = .ok (.iaload, 1) := by decide +kernel
theorem dX13_blows_92 : decode cX13_blows 92 = .ok (.iload 4, 2) := by decide +kernel
theorem dX13_blows_94 : decode cX13_blows 94 = .ok (.aload_n 0, 1) := by decide +kernel
theorem dX13_blows_95 : decode cX13_blows 95 = .ok (.getfield 397, 3) := by decide +kernel
theorem dX13_blows_98 : decode cX13_blows 98 = .ok (.getfield 189, 3) := by decide +kernel
theorem dX13_blows_101 : decode cX13_blows 101 = .ok (.irem, 1) := by decide +kernel
theorem dX13_blows_102 : decode cX13_blows 102 = .ok (.isub, 1) := by decide +kernel
theorem dX13_blows_103 : decode cX13_blows 103 = .ok (.goto 4, 3) := by decide +kernel
theorem dX13_blows_106 : decode cX13_blows 106 = .ok (.iconst 0, 1) := by decide +kernel
theorem dX13_blows_107 : decode cX13_blows 107 = .ok (.iastore, 1) := by decide +kernel
theorem dX13_blows_108 : decode cX13_blows 108 = .ok (.iinc 6 1, 3) := by decide +kernel
theorem dX13_blows_111 : decode cX13_blows 111 = .ok (.goto (-64), 3) := by decide +kernel
theorem dX13_blows_114 : decode cX13_blows 114 = .ok (.iinc 5 1, 3) := by decide +kernel
theorem dX13_blows_117 : decode cX13_blows 117 = .ok (.goto (-102), 3) := by decide +kernel
theorem dX13_blows_120 : decode cX13_blows 120 = .ok (.return_, 1) := by decide +kernel
theorem dX13_refusesWinds_0 : decode cX13_refusesWinds 0 = .ok (.iload_n 1, 1) := by decide +kernel
theorem dX13_refusesWinds_1 : decode cX13_refusesWinds 1 = .ok (.ifCond .ne 7, 3) := by decide +kernel
theorem dX13_refusesWinds_4 : decode cX13_refusesWinds 4 = .ok (.iconst 1, 1) := by decide +kernel
theorem dX13_refusesWinds_5 : decode cX13_refusesWinds 5 = .ok (.goto 29, 3) := by decide +kernel
theorem dX13_refusesWinds_8 : decode cX13_refusesWinds 8 = .ok (.iload_n 2, 1) := by decide +kernel
theorem dX13_refusesWinds_9 : decode cX13_refusesWinds 9 = .ok (.iconst 0, 1) := by decide +kernel
theorem dX13_refusesWinds_10 : decode cX13_refusesWinds 10 = .ok (.ldc_w 526, 3) := by decide +kernel
theorem dX13_refusesWinds_13 : decode cX13_refusesWinds 13 = .ok (.invokestatic 150, 3) := by decide +kernel
theorem dX13_refusesWinds_16 : decode cX13_refusesWinds 16 = .ok (.ifCond .eq 17, 3) := by decide +kernel
theorem dX13_refusesWinds_19 : decode cX13_refusesWinds 19 = .ok (.iload_n 3, 1) := by decide +kernel
theorem dX13_refusesWinds_20 : decode cX13_refusesWinds 20 = .ok (.iconst 0, 1) := by decide +kernel
theorem dX13_refusesWinds_21 : decode cX13_refusesWinds 21 = .ok (.bipush 99, 2) := by decide +kernel
theorem dX13_refusesWinds_23 : decode cX13_refusesWinds 23 = .ok (.invokestatic 150, 3) := by decide +kernel
theorem dX13_refusesWinds_26 : decode cX13_refusesWinds 26 = .ok (.ifCond .eq 7, 3) := by decide +kernel
theorem dX13_refusesWinds_29 : decode cX13_refusesWinds 29 = .ok (.iconst 0, 1) := by decide +kernel
theorem dX13_refusesWinds_30 : decode cX13_refusesWinds 30 = .ok (.goto 4, 3) := by decide +kernel
theorem dX13_refusesWinds_33 : decode cX13_refusesWinds 33 = .ok (.iconst 2, 1) := by decide +kernel
theorem dX13_refusesWinds_34 : decode cX13_refusesWinds 34 = .ok (.ireturn, 1) := by decide +kernel
theorem dX13_winds_0 : decode cX13_winds 0 = .ok (.aload_n 0, 1) := by decide +kernel
theorem dX13_winds_1 : decode cX13_winds 1 = .ok (.iconst 0, 1) := by decide +kernel
theorem dX13_winds_2 : decode cX13_winds 2 = .ok (.putfield 72, 3) := by decide +kernel
theorem dX13_winds_5 : decode cX13_winds 5 = .ok (.aload_n 0, 1) := by decide +kernel
theorem dX13_winds_6 : decode cX13_winds 6 = .ok (.aload_n 0, 1) := by decide +kernel
theorem dX13_winds_7 : decode cX13_winds 7 = .ok (.iload_n 1, 1) := by decide +kernel
theorem dX13_winds_8 : decode cX13_winds 8 = .ok (.invokevirtual 425, 3) := by decide +kernel
theorem dX13_winds_11 : decode cX13_winds 11 = .ok (.iload_n 2, 1) := by decide +kernel
theorem dX13_winds_12 : decode cX13_winds 12 = .ok (.iload_n 3, 1) := by decide +kernel
theorem dX13_winds_13 : decode cX13_winds 13 = .ok (.invokevirtual 527, 3) := by decide +kernel
theorem dX13_winds_16 : decode cX13_winds 16 = .ok (.istore 4, 2) := by decide +kernel
theorem dX13_winds_18 : decode cX13_winds 18 = .ok (.iload 4, 2) := by decide +kernel
theorem dX13_winds_20 : decode cX13_winds 20 = .ok (.ifCond .le 10, 3) := by decide +kernel
theorem dX13_winds_23 : decode cX13_winds 23 = .ok (.aload_n 0, 1) := by decide +kernel
theorem dX13_winds_24 : decode cX13_winds 24 = .ok (.iload 4, 2) := by decide +kernel
theorem dX13_winds_26 : decode cX13_winds 26 = .ok (.invokevirtual 78, 3) := by decide +kernel
theorem dX13_winds_29 : decode cX13_winds 29 = .ok (.ireturn, 1) := by decide +kernel
theorem dX13_winds_30 : decode cX13_winds 30 = .ok (.aload_n 0, 1) := by decide +kernel
theorem dX13_winds_31 : decode cX13_winds 31 = .ok (.iload_n 1, 1) := by decide +kernel
theorem dX13_winds_32 : decode cX13_winds 32 = .ok (.iload_n 2, 1) := by decide +kernel
theorem dX13_winds_33 : decode cX13_winds 33 = .ok (.iload_n 3, 1) := by decide +kernel
theorem dX13_winds_34 : decode cX13_winds 34 = .ok (.invokevirtual 530, 3) := by decide +kernel
theorem dX13_winds_37 : decode cX13_winds 37 = .ok (.iconst 0, 1) := by decide +kernel
theorem dX13_winds_38 : decode cX13_winds 38 = .ok (.istore 5, 2) := by decide +kernel
theorem dX13_winds_40 : decode cX13_winds 40 = .ok (.iconst 0, 1) := by decide +kernel
theorem dX13_winds_41 : decode cX13_winds 41 = .ok (.istore 6, 2) := by decide +kernel
theorem dX13_winds_43 : decode cX13_winds 43 = .ok (.iload 6, 2) := by decide +kernel
theorem dX13_winds_45 : decode cX13_winds 45 = .ok (.aload_n 0, 1) := by decide +kernel
theorem dX13_winds_46 : decode cX13_winds 46 = .ok (.getfield 397, 3) := by decide +kernel
theorem dX13_winds_49 : decode cX13_winds 49 = .ok (.getfield 301, 3) := by decide +kernel
theorem dX13_winds_52 : decode cX13_winds 52 = .ok (.if_icmp .ge 23, 3) := by decide +kernel
theorem dX13_winds_55 : decode cX13_winds 55 = .ok (.iload 5, 2) := by decide +kernel
theorem dX13_winds_57 : decode cX13_winds 57 = .ok (.aload_n 0, 1) := by decide +kernel
theorem dX13_winds_58 : decode cX13_winds 58 = .ok (.getfield 27, 3) := by decide +kernel
theorem dX13_winds_61 : decode cX13_winds 61 = .ok (.iload 6, 2) := by decide +kernel
theorem dX13_winds_63 : decode cX13_winds 63 = .ok (.iaload, 1) := by decide +kernel
theorem dX13_winds_64 : decode cX13_winds 64 = .ok (.iconst 2, 1) := by decide +kernel
theorem dX13_winds_65 : decode cX13_winds 65 = .ok (.idiv, 1) := by decide +kernel
theorem dX13_winds_66 : decode cX13_winds 66 = .ok (.iadd, 1) := by decide +kernel
theorem dX13_winds_67 : decode cX13_winds 67 = .ok (.istore 5, 2) := by decide +kernel
theorem dX13_winds_69 : decode cX13_winds 69 = .ok (.iinc 6 1, 3) := by decide +kernel
theorem dX13_winds_72 : decode cX13_winds 72 = .ok (.goto (-29), 3) := by decide +kernel
theorem dX13_winds_75 : decode cX13_winds 75 = .ok (.aload_n 0, 1) := by decide +kernel
theorem dX13_winds_76 : decode cX13_winds 76 = .ok (.iload 5, 2) := by decide +kernel
theorem dX13_winds_78 : decode cX13_winds 78 = .ok (.invokevirtual 82, 3) := by decide +kernel
theorem dX13_winds_81 : decode cX13_winds 81 = .ok (.ireturn, 1) := by decide +kernel
theorem dX13_windDuty_0 : decode cX13_windDuty 0 = .ok (.aload_n 0, 1) := by decide +kernel
theorem dX13_windDuty_1 : decode cX13_windDuty 1 = .ok (.iconst 0, 1) := by decide +kernel
theorem dX13_windDuty_2 : decode cX13_windDuty 2 = .ok (.putfield 72, 3) := by decide +kernel
theorem dX13_windDuty_5 : decode cX13_windDuty 5 = .ok (.aload_n 0, 1) := by decide +kernel
theorem dX13_windDuty_6 : decode cX13_windDuty 6 = .ok (.aload_n 0, 1) := by decide +kernel
theorem dX13_windDuty_7 : decode cX13_windDuty 7 = .ok (.iload_n 1, 1) := by decide +kernel
theorem dX13_windDuty_8 : decode cX13_windDuty 8 = .ok (.invokevirtual 425, 3) := by decide +kernel
theorem dX13_windDuty_11 : decode cX13_windDuty 11 = .ok (.ifCond .eq 15, 3) := by decide +kernel
theorem dX13_windDuty_14 : decode cX13_windDuty 14 = .ok (.aload_n 0, 1) := by decide +kernel
theorem dX13_windDuty_15 : decode cX13_windDuty 15 = .ok (.iload_n 2, 1) := by decide +kernel
theorem dX13_windDuty_16 : decode cX13_windDuty 16 = .ok (.invokevirtual 422, 3) := by decide +kernel
theorem dX13_windDuty_19 : decode cX13_windDuty 19 = .ok (.ifCond .eq 7, 3) := by decide +kernel
theorem dX13_windDuty_22 : decode cX13_windDuty 22 = .ok (.iconst 1, 1) := by decide +kernel
theorem dX13_windDuty_23 : decode cX13_windDuty 23 = .ok (.goto 4, 3) := by decide +kernel
theorem dX13_windDuty_26 : decode cX13_windDuty 26 = .ok (.iconst 0, 1) := by decide +kernel
theorem dX13_windDuty_27 : decode cX13_windDuty 27 = .ok (.iload_n 3, 1) := by decide +kernel
theorem dX13_windDuty_28 : decode cX13_windDuty 28 = .ok (.iload 4, 2) := by decide +kernel
theorem dX13_windDuty_30 : decode cX13_windDuty 30 = .ok (.invokevirtual 527, 3) := by decide +kernel
theorem dX13_windDuty_33 : decode cX13_windDuty 33 = .ok (.istore 5, 2) := by decide +kernel
theorem dX13_windDuty_35 : decode cX13_windDuty 35 = .ok (.iload 5, 2) := by decide +kernel
theorem dX13_windDuty_37 : decode cX13_windDuty 37 = .ok (.ifCond .le 10, 3) := by decide +kernel
theorem dX13_windDuty_40 : decode cX13_windDuty 40 = .ok (.aload_n 0, 1) := by decide +kernel
theorem dX13_windDuty_41 : decode cX13_windDuty 41 = .ok (.iload 5, 2) := by decide +kernel
theorem dX13_windDuty_43 : decode cX13_windDuty 43 = .ok (.invokevirtual 78, 3) := by decide +kernel
theorem dX13_windDuty_46 : decode cX13_windDuty 46 = .ok (.ireturn, 1) := by decide +kernel
theorem dX13_windDuty_47 : decode cX13_windDuty 47 = .ok (.aload_n 0, 1) := by decide +kernel
theorem dX13_windDuty_48 : decode cX13_windDuty 48 = .ok (.iload_n 1, 1) := by decide +kernel
theorem dX13_windDuty_49 : decode cX13_windDuty 49 = .ok (.iload_n 3, 1) := by decide +kernel
theorem dX13_windDuty_50 : decode cX13_windDuty 50 = .ok (.iload 4, 2) := by decide +kernel
theorem dX13_windDuty_52 : decode cX13_windDuty 52 = .ok (.invokevirtual 530, 3) := by decide +kernel
theorem dX13_windDuty_55 : decode cX13_windDuty 55 = .ok (.aload_n 0, 1) := by decide +kernel
theorem dX13_windDuty_56 : decode cX13_windDuty 56 = .ok (.aload_n 0, 1) := by decide +kernel
theorem dX13_windDuty_57 : decode cX13_windDuty 57 = .ok (.iload_n 1, 1) := by decide +kernel
theorem dX13_windDuty_58 : decode cX13_windDuty 58 = .ok (.iload_n 2, 1) := by decide +kernel
theorem dX13_windDuty_59 : decode cX13_windDuty 59 = .ok (.invokevirtual 442, 3) := by decide +kernel
theorem dX13_windDuty_62 : decode cX13_windDuty 62 = .ok (.invokevirtual 82, 3) := by decide +kernel
theorem dX13_windDuty_65 : decode cX13_windDuty 65 = .ok (.ireturn, 1) := by decide +kernel
theorem dX13_remembers_0 : decode cX13_remembers 0 = .ok (.aload_n 0, 1) := by decide +kernel
theorem dX13_remembers_1 : decode cX13_remembers 1 = .ok (.getfield 399, 3) := by decide +kernel
theorem dX13_remembers_4 : decode cX13_remembers 4 = .ok (.bipush 16, 2) := by decide +kernel
theorem dX13_remembers_6 : decode cX13_remembers 6 = .ok (.if_icmp .ne 43, 3) := by decide +kernel
theorem dX13_remembers_9 : decode cX13_remembers 9 = .ok (.iconst 0, 1) := by decide +kernel
theorem dX13_remembers_10 : decode cX13_remembers 10 = .ok (.istore_n 1, 1) := by decide +kernel
theorem dX13_remembers_11 : decode cX13_remembers 11 = .ok (.iload_n 1, 1) := by decide +kernel
theorem dX13_remembers_12 : decode cX13_remembers 12 = .ok (.sipush 540, 3) := by decide +kernel
theorem dX13_remembers_15 : decode cX13_remembers 15 = .ok (.if_icmp .ge 24, 3) := by decide +kernel
theorem dX13_remembers_18 : decode cX13_remembers 18 = .ok (.aload_n 0, 1) := by decide +kernel
theorem dX13_remembers_19 : decode cX13_remembers 19 = .ok (.getfield 21, 3) := by decide +kernel
theorem dX13_remembers_22 : decode cX13_remembers 22 = .ok (.iload_n 1, 1) := by decide +kernel
theorem dX13_remembers_23 : decode cX13_remembers 23 = .ok (.aload_n 0, 1) := by decide +kernel
theorem dX13_remembers_24 : decode cX13_remembers 24 = .ok (.getfield 21, 3) := by decide +kernel
theorem dX13_remembers_27 : decode cX13_remembers 27 = .ok (.iload_n 1, 1) := by decide +kernel
theorem dX13_remembers_28 : decode cX13_remembers 28 = .ok (.bipush 36, 2) := by decide +kernel
theorem dX13_remembers_30 : decode cX13_remembers 30 = .ok (.iadd, 1) := by decide +kernel
theorem dX13_remembers_31 : decode cX13_remembers 31 = .ok (.iaload, 1) := by decide +kernel
theorem dX13_remembers_32 : decode cX13_remembers 32 = .ok (.iastore, 1) := by decide +kernel
theorem dX13_remembers_33 : decode cX13_remembers 33 = .ok (.iinc 1 1, 3) := by decide +kernel
theorem dX13_remembers_36 : decode cX13_remembers 36 = .ok (.goto (-25), 3) := by decide +kernel
theorem dX13_remembers_39 : decode cX13_remembers 39 = .ok (.aload_n 0, 1) := by decide +kernel
theorem dX13_remembers_40 : decode cX13_remembers 40 = .ok (.dup, 1) := by decide +kernel
theorem dX13_remembers_41 : decode cX13_remembers 41 = .ok (.getfield 399, 3) := by decide +kernel
theorem dX13_remembers_44 : decode cX13_remembers 44 = .ok (.iconst 1, 1) := by decide +kernel
theorem dX13_remembers_45 : decode cX13_remembers 45 = .ok (.isub, 1) := by decide +kernel
theorem dX13_remembers_46 : decode cX13_remembers 46 = .ok (.putfield 399, 3) := by decide +kernel
theorem dX13_remembers_49 : decode cX13_remembers 49 = .ok (.iconst 0, 1) := by decide +kernel
theorem dX13_remembers_50 : decode cX13_remembers 50 = .ok (.istore_n 1, 1) := by decide +kernel
theorem dX13_remembers_51 : decode cX13_remembers 51 = .ok (.iload_n 1, 1) := by decide +kernel
theorem dX13_remembers_52 : decode cX13_remembers 52 = .ok (.bipush 36, 2) := by decide +kernel
theorem dX13_remembers_54 : decode cX13_remembers 54 = .ok (.if_icmp .ge 29, 3) := by decide +kernel
theorem dX13_remembers_57 : decode cX13_remembers 57 = .ok (.aload_n 0, 1) := by decide +kernel
theorem dX13_remembers_58 : decode cX13_remembers 58 = .ok (.getfield 21, 3) := by decide +kernel
theorem dX13_remembers_61 : decode cX13_remembers 61 = .ok (.bipush 36, 2) := by decide +kernel
theorem dX13_remembers_63 : decode cX13_remembers 63 = .ok (.aload_n 0, 1) := by decide +kernel
theorem dX13_remembers_64 : decode cX13_remembers 64 = .ok (.getfield 399, 3) := by decide +kernel
theorem dX13_remembers_67 : decode cX13_remembers 67 = .ok (.imul, 1) := by decide +kernel
theorem dX13_remembers_68 : decode cX13_remembers 68 = .ok (.iload_n 1, 1) := by decide +kernel
theorem dX13_remembers_69 : decode cX13_remembers 69 = .ok (.iadd, 1) := by decide +kernel
theorem dX13_remembers_70 : decode cX13_remembers 70 = .ok (.aload_n 0, 1) := by decide +kernel
theorem dX13_remembers_71 : decode cX13_remembers 71 = .ok (.getfield 17, 3) := by decide +kernel
theorem dX13_remembers_74 : decode cX13_remembers 74 = .ok (.iload_n 1, 1) := by decide +kernel
theorem dX13_remembers_75 : decode cX13_remembers 75 = .ok (.iaload, 1) := by decide +kernel
theorem dX13_remembers_76 : decode cX13_remembers 76 = .ok (.iastore, 1) := by decide +kernel
theorem dX13_remembers_77 : decode cX13_remembers 77 = .ok (.iinc 1 1, 3) := by decide +kernel
theorem dX13_remembers_80 : decode cX13_remembers 80 = .ok (.goto (-29), 3) := by decide +kernel
theorem dX13_remembers_83 : decode cX13_remembers 83 = .ok (.aload_n 0, 1) := by decide +kernel
theorem dX13_remembers_84 : decode cX13_remembers 84 = .ok (.dup, 1) := by decide +kernel
theorem dX13_remembers_85 : decode cX13_remembers 85 = .ok (.getfield 399, 3) := by decide +kernel
theorem dX13_remembers_88 : decode cX13_remembers 88 = .ok (.iconst 1, 1) := by decide +kernel
theorem dX13_remembers_89 : decode cX13_remembers 89 = .ok (.iadd, 1) := by decide +kernel
theorem dX13_remembers_90 : decode cX13_remembers 90 = .ok (.putfield 399, 3) := by decide +kernel
theorem dX13_remembers_93 : decode cX13_remembers 93 = .ok (.return_, 1) := by decide +kernel
theorem dX13_goesBy_0 : decode cX13_goesBy 0 = .ok (.aload_n 0, 1) := by decide +kernel
theorem dX13_goesBy_1 : decode cX13_goesBy 1 = .ok (.iload_n 1, 1) := by decide +kernel
theorem dX13_goesBy_2 : decode cX13_goesBy 2 = .ok (.invokevirtual 428, 3) := by decide +kernel
theorem dX13_goesBy_5 : decode cX13_goesBy 5 = .ok (.aload_n 0, 1) := by decide +kernel
theorem dX13_goesBy_6 : decode cX13_goesBy 6 = .ok (.iload_n 2, 1) := by decide +kernel
theorem dX13_goesBy_7 : decode cX13_goesBy 7 = .ok (.invokevirtual 431, 3) := by decide +kernel
theorem dX13_goesBy_10 : decode cX13_goesBy 10 = .ok (.iconst 0, 1) := by decide +kernel
theorem dX13_goesBy_11 : decode cX13_goesBy 11 = .ok (.istore_n 3, 1) := by decide +kernel
theorem dX13_goesBy_12 : decode cX13_goesBy 12 = .ok (.iload_n 3, 1) := by decide +kernel
theorem dX13_goesBy_13 : decode cX13_goesBy 13 = .ok (.bipush 6, 2) := by decide +kernel
theorem dX13_goesBy_15 : decode cX13_goesBy 15 = .ok (.if_icmp .ge 26, 3) := by decide +kernel
theorem dX13_goesBy_18 : decode cX13_goesBy 18 = .ok (.aload_n 0, 1) := by decide +kernel
theorem dX13_goesBy_19 : decode cX13_goesBy 19 = .ok (.getfield 17, 3) := by decide +kernel
theorem dX13_goesBy_22 : decode cX13_goesBy 22 = .ok (.bipush 6, 2) := by decide +kernel
theorem dX13_goesBy_24 : decode cX13_goesBy 24 = .ok (.iload_n 1, 1) := by decide +kernel
theorem dX13_goesBy_25 : decode cX13_goesBy 25 = .ok (.imul, 1) := by decide +kernel
theorem dX13_goesBy_26 : decode cX13_goesBy 26 = .ok (.iload_n 3, 1) := by decide +kernel
theorem dX13_goesBy_27 : decode cX13_goesBy 27 = .ok (.iadd, 1) := by decide +kernel
theorem dX13_goesBy_28 : decode cX13_goesBy 28 = .ok (.aload_n 0, 1) := by decide +kernel
theorem dX13_goesBy_29 : decode cX13_goesBy 29 = .ok (.getfield 27, 3) := by decide +kernel
theorem dX13_goesBy_32 : decode cX13_goesBy 32 = .ok (.iload_n 3, 1) := by decide +kernel
theorem dX13_goesBy_33 : decode cX13_goesBy 33 = .ok (.iaload, 1) := by decide +kernel
theorem dX13_goesBy_34 : decode cX13_goesBy 34 = .ok (.iastore, 1) := by decide +kernel
theorem dX13_goesBy_35 : decode cX13_goesBy 35 = .ok (.iinc 3 1, 3) := by decide +kernel
theorem dX13_goesBy_38 : decode cX13_goesBy 38 = .ok (.goto (-26), 3) := by decide +kernel
theorem dX13_goesBy_41 : decode cX13_goesBy 41 = .ok (.aload_n 0, 1) := by decide +kernel
theorem dX13_goesBy_42 : decode cX13_goesBy 42 = .ok (.getfield 17, 3) := by decide +kernel
theorem dX13_goesBy_45 : decode cX13_goesBy 45 = .ok (.bipush 32, 2) := by decide +kernel
theorem dX13_goesBy_47 : decode cX13_goesBy 47 = .ok (.iload_n 1, 1) := by decide +kernel
theorem dX13_goesBy_48 : decode cX13_goesBy 48 = .ok (.iadd, 1) := by decide +kernel
theorem dX13_goesBy_49 : decode cX13_goesBy 49 = .ok (.dup2, 1) := by decide +kernel
theorem dX13_goesBy_50 : decode cX13_goesBy 50 = .ok (.iaload, 1) := by decide +kernel
theorem dX13_goesBy_51 : decode cX13_goesBy 51 = .ok (.iload_n 2, 1) := by decide +kernel
theorem dX13_goesBy_52 : decode cX13_goesBy 52 = .ok (.iadd, 1) := by decide +kernel
theorem dX13_goesBy_53 : decode cX13_goesBy 53 = .ok (.iastore, 1) := by decide +kernel
theorem dX13_goesBy_54 : decode cX13_goesBy 54 = .ok (.return_, 1) := by decide +kernel
theorem dX13_waits_0 : decode cX13_waits 0 = .ok (.aload_n 0, 1) := by decide +kernel
theorem dX13_waits_1 : decode cX13_waits 1 = .ok (.iconst 0, 1) := by decide +kernel
theorem dX13_waits_2 : decode cX13_waits 2 = .ok (.putfield 72, 3) := by decide +kernel
theorem dX13_waits_5 : decode cX13_waits 5 = .ok (.aload_n 0, 1) := by decide +kernel
theorem dX13_waits_6 : decode cX13_waits 6 = .ok (.iload_n 1, 1) := by decide +kernel
theorem dX13_waits_7 : decode cX13_waits 7 = .ok (.invokevirtual 425, 3) := by decide +kernel
theorem dX13_waits_10 : decode cX13_waits 10 = .ok (.ifCond .ne 9, 3) := by decide +kernel
theorem dX13_waits_13 : decode cX13_waits 13 = .ok (.aload_n 0, 1) := by decide +kernel
theorem dX13_waits_14 : decode cX13_waits 14 = .ok (.iconst 1, 1) := by decide +kernel
theorem dX13_waits_15 : decode cX13_waits 15 = .ok (.invokevirtual 78, 3) := by decide +kernel
theorem dX13_waits_18 : decode cX13_waits 18 = .ok (.ireturn, 1) := by decide +kernel
theorem dX13_waits_19 : decode cX13_waits 19 = .ok (.iload_n 2, 1) := by decide +kernel
theorem dX13_waits_20 : decode cX13_waits 20 = .ok (.iconst 1, 1) := by decide +kernel
theorem dX13_waits_21 : decode cX13_waits 21 = .ok (.bipush 99, 2) := by decide +kernel
theorem dX13_waits_23 : decode cX13_waits 23 = .ok (.invokestatic 150, 3) := by decide +kernel
theorem dX13_waits_26 : decode cX13_waits 26 = .ok (.ifCond .ne 9, 3) := by decide +kernel
theorem dX13_waits_29 : decode cX13_waits 29 = .ok (.aload_n 0, 1) := by decide +kernel
theorem dX13_waits_30 : decode cX13_waits 30 = .ok (.iconst 2, 1) := by decide +kernel
theorem dX13_waits_31 : decode cX13_waits 31 = .ok (.invokevirtual 78, 3) := by decide +kernel
theorem dX13_waits_34 : decode cX13_waits 34 = .ok (.ireturn, 1) := by decide +kernel
theorem dX13_waits_35 : decode cX13_waits 35 = .ok (.aload_n 0, 1) := by decide +kernel
theorem dX13_waits_36 : decode cX13_waits 36 = .ok (.invokevirtual 534, 3) := by decide +kernel
theorem dX13_waits_39 : decode cX13_waits 39 = .ok (.aload_n 0, 1) := by decide +kernel
theorem dX13_waits_40 : decode cX13_waits 40 = .ok (.iload_n 1, 1) := by decide +kernel
theorem dX13_waits_41 : decode cX13_waits 41 = .ok (.iload_n 2, 1) := by decide +kernel
theorem dX13_waits_42 : decode cX13_waits 42 = .ok (.invokevirtual 537, 3) := by decide +kernel
theorem dX13_waits_45 : decode cX13_waits 45 = .ok (.aload_n 0, 1) := by decide +kernel
theorem dX13_waits_46 : decode cX13_waits 46 = .ok (.aload_n 0, 1) := by decide +kernel
theorem dX13_waits_47 : decode cX13_waits 47 = .ok (.getfield 17, 3) := by decide +kernel
theorem dX13_waits_50 : decode cX13_waits 50 = .ok (.bipush 32, 2) := by decide +kernel
theorem dX13_waits_52 : decode cX13_waits 52 = .ok (.iload_n 1, 1) := by decide +kernel
theorem dX13_waits_53 : decode cX13_waits 53 = .ok (.iadd, 1) := by decide +kernel
theorem dX13_waits_54 : decode cX13_waits 54 = .ok (.iaload, 1) := by decide +kernel
theorem dX13_waits_55 : decode cX13_waits 55 = .ok (.invokevirtual 82, 3) := by decide +kernel
theorem dX13_waits_58 : decode cX13_waits 58 = .ok (.ireturn, 1) := by decide +kernel
theorem dX13_go_0 : decode cX13_go 0 = .ok (.aload_n 0, 1) := by decide +kernel
theorem dX13_go_1 : decode cX13_go 1 = .ok (.iconst 0, 1) := by decide +kernel
theorem dX13_go_2 : decode cX13_go 2 = .ok (.putfield 72, 3) := by decide +kernel
theorem dX13_go_5 : decode cX13_go 5 = .ok (.aload_n 0, 1) := by decide +kernel
theorem dX13_go_6 : decode cX13_go 6 = .ok (.iload_n 1, 1) := by decide +kernel
theorem dX13_go_7 : decode cX13_go 7 = .ok (.invokevirtual 425, 3) := by decide +kernel
theorem dX13_go_10 : decode cX13_go 10 = .ok (.ifCond .eq 11, 3) := by decide +kernel
theorem dX13_go_13 : decode cX13_go 13 = .ok (.aload_n 0, 1) := by decide +kernel
theorem dX13_go_14 : decode cX13_go 14 = .ok (.iload_n 2, 1) := by decide +kernel
theorem dX13_go_15 : decode cX13_go 15 = .ok (.invokevirtual 422, 3) := by decide +kernel
theorem dX13_go_18 : decode cX13_go 18 = .ok (.ifCond .ne 9, 3) := by decide +kernel
theorem dX13_go_21 : decode cX13_go 21 = .ok (.aload_n 0, 1) := by decide +kernel
theorem dX13_go_22 : decode cX13_go 22 = .ok (.iconst 1, 1) := by decide +kernel
theorem dX13_go_23 : decode cX13_go 23 = .ok (.invokevirtual 78, 3) := by decide +kernel
theorem dX13_go_26 : decode cX13_go 26 = .ok (.ireturn, 1) := by decide +kernel
theorem dX13_go_27 : decode cX13_go 27 = .ok (.aload_n 0, 1) := by decide +kernel
theorem dX13_go_28 : decode cX13_go 28 = .ok (.getfield 397, 3) := by decide +kernel
theorem dX13_go_31 : decode cX13_go 31 = .ok (.getfield 334, 3) := by decide +kernel
theorem dX13_go_34 : decode cX13_go 34 = .ok (.bipush 6, 2) := by decide +kernel
theorem dX13_go_36 : decode cX13_go 36 = .ok (.aload_n 0, 1) := by decide +kernel
theorem dX13_go_37 : decode cX13_go 37 = .ok (.getfield 17, 3) := by decide +kernel
theorem dX13_go_40 : decode cX13_go 40 = .ok (.bipush 24, 2) := by decide +kernel
theorem dX13_go_42 : decode cX13_go 42 = .ok (.iload_n 1, 1) := by decide +kernel
theorem dX13_go_43 : decode cX13_go 43 = .ok (.iadd, 1) := by decide +kernel
theorem dX13_go_44 : decode cX13_go 44 = .ok (.iaload, 1) := by decide +kernel
theorem dX13_go_45 : decode cX13_go 45 = .ok (.imul, 1) := by decide +kernel
theorem dX13_go_46 : decode cX13_go 46 = .ok (.iload_n 2, 1) := by decide +kernel
theorem dX13_go_47 : decode cX13_go 47 = .ok (.iadd, 1) := by decide +kernel
theorem dX13_go_48 : decode cX13_go 48 = .ok (.iaload, 1) := by decide +kernel
theorem dX13_go_49 : decode cX13_go 49 = .ok (.istore_n 3, 1) := by decide +kernel
theorem dX13_go_50 : decode cX13_go 50 = .ok (.iload_n 3, 1) := by decide +kernel
theorem dX13_go_51 : decode cX13_go 51 = .ok (.ifCond .ne 9, 3) := by decide +kernel
theorem dX13_go_54 : decode cX13_go 54 = .ok (.aload_n 0, 1) := by decide +kernel
theorem dX13_go_55 : decode cX13_go 55 = .ok (.iconst 5, 1) := by decide +kernel
theorem dX13_go_56 : decode cX13_go 56 = .ok (.invokevirtual 78, 3) := by decide +kernel
theorem dX13_go_59 : decode cX13_go 59 = .ok (.ireturn, 1) := by decide +kernel
theorem dX13_go_60 : decode cX13_go 60 = .ok (.aload_n 0, 1) := by decide +kernel
theorem dX13_go_61 : decode cX13_go 61 = .ok (.invokevirtual 534, 3) := by decide +kernel
theorem dX13_go_64 : decode cX13_go 64 = .ok (.aload_n 0, 1) := by decide +kernel
theorem dX13_go_65 : decode cX13_go 65 = .ok (.iload_n 1, 1) := by decide +kernel
theorem dX13_go_66 : decode cX13_go 66 = .ok (.iload_n 3, 1) := by decide +kernel
theorem dX13_go_67 : decode cX13_go 67 = .ok (.invokevirtual 537, 3) := by decide +kernel
theorem dX13_go_70 : decode cX13_go 70 = .ok (.aload_n 0, 1) := by decide +kernel
theorem dX13_go_71 : decode cX13_go 71 = .ok (.invokevirtual 433, 3) := by decide +kernel
theorem dX13_go_74 : decode cX13_go 74 = .ok (.aload_n 0, 1) := by decide +kernel
theorem dX13_go_75 : decode cX13_go 75 = .ok (.getfield 17, 3) := by decide +kernel
theorem dX13_go_78 : decode cX13_go 78 = .ok (.bipush 24, 2) := by decide +kernel
theorem dX13_go_80 : decode cX13_go 80 = .ok (.iload_n 1, 1) := by decide +kernel
theorem dX13_go_81 : decode cX13_go 81 = .ok (.iadd, 1) := by decide +kernel
theorem dX13_go_82 : decode cX13_go 82 = .ok (.iload_n 2, 1) := by decide +kernel
theorem dX13_go_83 : decode cX13_go 83 = .ok (.iastore, 1) := by decide +kernel
theorem dX13_go_84 : decode cX13_go 84 = .ok (.aload_n 0, 1) := by decide +kernel
theorem dX13_go_85 : decode cX13_go 85 = .ok (.iload_n 1, 1) := by decide +kernel
theorem dX13_go_86 : decode cX13_go 86 = .ok (.iload_n 2, 1) := by decide +kernel
theorem dX13_go_87 : decode cX13_go 87 = .ok (.invokevirtual 442, 3) := by decide +kernel
theorem dX13_go_90 : decode cX13_go 90 = .ok (.istore 4, 2) := by decide +kernel
theorem dX13_go_92 : decode cX13_go 92 = .ok (.aload_n 0, 1) := by decide +kernel
theorem dX13_go_93 : decode cX13_go 93 = .ok (.getfield 17, 3) := by decide +kernel
theorem dX13_go_96 : decode cX13_go 96 = .ok (.bipush 28, 2) := by decide +kernel
theorem dX13_go_98 : decode cX13_go 98 = .ok (.iload_n 1, 1) := by decide +kernel
theorem dX13_go_99 : decode cX13_go 99 = .ok (.iadd, 1) := by decide +kernel
theorem dX13_go_100 : decode cX13_go 100 = .ok (.dup2, 1) := by decide +kernel
theorem dX13_go_101 : decode cX13_go 101 = .ok (.iaload, 1) := by decide +kernel
theorem dX13_go_102 : decode cX13_go 102 = .ok (.iload 4, 2) := by decide +kernel
theorem dX13_go_104 : decode cX13_go 104 = .ok (.iadd, 1) := by decide +kernel
theorem dX13_go_105 : decode cX13_go 105 = .ok (.iastore, 1) := by decide +kernel
theorem dX13_go_106 : decode cX13_go 106 = .ok (.aload_n 0, 1) := by decide +kernel
theorem dX13_go_107 : decode cX13_go 107 = .ok (.iload 4, 2) := by decide +kernel
theorem dX13_go_109 : decode cX13_go 109 = .ok (.invokevirtual 82, 3) := by decide +kernel
theorem dX13_go_112 : decode cX13_go 112 = .ok (.ireturn, 1) := by decide +kernel
theorem dX13_spray_0 : decode cX13_spray 0 = .ok (.aload_n 0, 1) := by decide +kernel
theorem dX13_spray_1 : decode cX13_spray 1 = .ok (.iconst 0, 1) := by decide +kernel
theorem dX13_spray_2 : decode cX13_spray 2 = .ok (.putfield 72, 3) := by decide +kernel
theorem dX13_spray_5 : decode cX13_spray 5 = .ok (.aload_n 0, 1) := by decide +kernel
theorem dX13_spray_6 : decode cX13_spray 6 = .ok (.iload_n 1, 1) := by decide +kernel
theorem dX13_spray_7 : decode cX13_spray 7 = .ok (.invokevirtual 425, 3) := by decide +kernel
theorem dX13_spray_10 : decode cX13_spray 10 = .ok (.ifCond .eq 11, 3) := by decide +kernel
theorem dX13_spray_13 : decode cX13_spray 13 = .ok (.aload_n 0, 1) := by decide +kernel
theorem dX13_spray_14 : decode cX13_spray 14 = .ok (.iload_n 2, 1) := by decide +kernel
theorem dX13_spray_15 : decode cX13_spray 15 = .ok (.invokevirtual 419, 3) := by decide +kernel
theorem dX13_spray_18 : decode cX13_spray 18 = .ok (.ifCond .ne 9, 3) := by decide +kernel
theorem dX13_spray_21 : decode cX13_spray 21 = .ok (.aload_n 0, 1) := by decide +kernel
theorem dX13_spray_22 : decode cX13_spray 22 = .ok (.iconst 1, 1) := by decide +kernel
theorem dX13_spray_23 : decode cX13_spray 23 = .ok (.invokevirtual 540, 3) := by decide +kernel
theorem dX13_spray_26 : decode cX13_spray 26 = .ok (.ireturn, 1) := by decide +kernel
theorem dX13_spray_27 : decode cX13_spray 27 = .ok (.iload_n 3, 1) := by decide +kernel
theorem dX13_spray_28 : decode cX13_spray 28 = .ok (.iconst 0, 1) := by decide +kernel
theorem dX13_spray_29 : decode cX13_spray 29 = .ok (.bipush 99, 2) := by decide +kernel
theorem dX13_spray_31 : decode cX13_spray 31 = .ok (.invokestatic 150, 3) := by decide +kernel
theorem dX13_spray_34 : decode cX13_spray 34 = .ok (.ifCond .ne 9, 3) := by decide +kernel
theorem dX13_spray_37 : decode cX13_spray 37 = .ok (.aload_n 0, 1) := by decide +kernel
theorem dX13_spray_38 : decode cX13_spray 38 = .ok (.iconst 2, 1) := by decide +kernel
theorem dX13_spray_39 : decode cX13_spray 39 = .ok (.invokevirtual 540, 3) := by decide +kernel
theorem dX13_spray_42 : decode cX13_spray 42 = .ok (.ireturn, 1) := by decide +kernel
theorem dX13_spray_43 : decode cX13_spray 43 = .ok (.aload_n 0, 1) := by decide +kernel
theorem dX13_spray_44 : decode cX13_spray 44 = .ok (.getfield 17, 3) := by decide +kernel
theorem dX13_spray_47 : decode cX13_spray 47 = .ok (.bipush 6, 2) := by decide +kernel
theorem dX13_spray_49 : decode cX13_spray 49 = .ok (.iload_n 1, 1) := by decide +kernel
theorem dX13_spray_50 : decode cX13_spray 50 = .ok (.imul, 1) := by decide +kernel
theorem dX13_spray_51 : decode cX13_spray 51 = .ok (.iload_n 2, 1) := by decide +kernel
theorem dX13_spray_52 : decode cX13_spray 52 = .ok (.iadd, 1) := by decide +kernel
theorem dX13_spray_53 : decode cX13_spray 53 = .ok (.iaload, 1) := by decide +kernel
theorem dX13_spray_54 : decode cX13_spray 54 = .ok (.iconst 2, 1) := by decide +kernel
theorem dX13_spray_55 : decode cX13_spray 55 = .ok (.iload_n 3, 1) := by decide +kernel
theorem dX13_spray_56 : decode cX13_spray 56 = .ok (.imul, 1) := by decide +kernel
theorem dX13_spray_57 : decode cX13_spray 57 = .ok (.if_icmp .ne 9, 3) := by decide +kernel
theorem dX13_spray_60 : decode cX13_spray 60 = .ok (.aload_n 0, 1) := by decide +kernel
theorem dX13_spray_61 : decode cX13_spray 61 = .ok (.iconst 5, 1) := by decide +kernel
theorem dX13_spray_62 : decode cX13_spray 62 = .ok (.invokevirtual 540, 3) := by decide +kernel
theorem dX13_spray_65 : decode cX13_spray 65 = .ok (.ireturn, 1) := by decide +kernel
theorem dX13_spray_66 : decode cX13_spray 66 = .ok (.aload_n 0, 1) := by decide +kernel
theorem dX13_spray_67 : decode cX13_spray 67 = .ok (.invokevirtual 534, 3) := by decide +kernel
theorem dX13_spray_70 : decode cX13_spray 70 = .ok (.aload_n 0, 1) := by decide +kernel
theorem dX13_spray_71 : decode cX13_spray 71 = .ok (.getfield 17, 3) := by decide +kernel
theorem dX13_spray_74 : decode cX13_spray 74 = .ok (.bipush 6, 2) := by decide +kernel
theorem dX13_spray_76 : decode cX13_spray 76 = .ok (.iload_n 1, 1) := by decide +kernel
theorem dX13_spray_77 : decode cX13_spray 77 = .ok (.imul, 1) := by decide +kernel
theorem dX13_spray_78 : decode cX13_spray 78 = .ok (.iload_n 2, 1) := by decide +kernel
theorem dX13_spray_79 : decode cX13_spray 79 = .ok (.iadd, 1) := by decide +kernel
theorem dX13_spray_80 : decode cX13_spray 80 = .ok (.iconst 2, 1) := by decide +kernel
theorem dX13_spray_81 : decode cX13_spray 81 = .ok (.iload_n 3, 1) := by decide +kernel
theorem dX13_spray_82 : decode cX13_spray 82 = .ok (.imul, 1) := by decide +kernel
theorem dX13_spray_83 : decode cX13_spray 83 = .ok (.iastore, 1) := by decide +kernel
theorem dX13_spray_84 : decode cX13_spray 84 = .ok (.aload_n 0, 1) := by decide +kernel
theorem dX13_spray_85 : decode cX13_spray 85 = .ok (.invokevirtual 543, 3) := by decide +kernel
theorem dX13_spray_88 : decode cX13_spray 88 = .ok (.ireturn, 1) := by decide +kernel
theorem dX13_wash_0 : decode cX13_wash 0 = .ok (.aload_n 0, 1) := by decide +kernel
theorem dX13_wash_1 : decode cX13_wash 1 = .ok (.iconst 0, 1) := by decide +kernel
theorem dX13_wash_2 : decode cX13_wash 2 = .ok (.putfield 72, 3) := by decide +kernel
theorem dX13_wash_5 : decode cX13_wash 5 = .ok (.aload_n 0, 1) := by decide +kernel
theorem dX13_wash_6 : decode cX13_wash 6 = .ok (.iload_n 1, 1) := by decide +kernel
theorem dX13_wash_7 : decode cX13_wash 7 = .ok (.invokevirtual 425, 3) := by decide +kernel
theorem dX13_wash_10 : decode cX13_wash 10 = .ok (.ifCond .ne 9, 3) := by decide +kernel
theorem dX13_wash_13 : decode cX13_wash 13 = .ok (.aload_n 0, 1) := by decide +kernel
theorem dX13_wash_14 : decode cX13_wash 14 = .ok (.iconst 1, 1) := by decide +kernel
theorem dX13_wash_15 : decode cX13_wash 15 = .ok (.invokevirtual 540, 3) := by decide +kernel
theorem dX13_wash_18 : decode cX13_wash 18 = .ok (.ireturn, 1) := by decide +kernel
theorem dX13_wash_19 : decode cX13_wash 19 = .ok (.iconst 0, 1) := by decide +kernel
theorem dX13_wash_20 : decode cX13_wash 20 = .ok (.istore_n 2, 1) := by decide +kernel
theorem dX13_wash_21 : decode cX13_wash 21 = .ok (.iconst 0, 1) := by decide +kernel
theorem dX13_wash_22 : decode cX13_wash 22 = .ok (.istore_n 3, 1) := by decide +kernel
theorem dX13_wash_23 : decode cX13_wash 23 = .ok (.iload_n 3, 1) := by decide +kernel
theorem dX13_wash_24 : decode cX13_wash 24 = .ok (.bipush 6, 2) := by decide +kernel
theorem dX13_wash_26 : decode cX13_wash 26 = .ok (.if_icmp .ge 33, 3) := by decide +kernel
theorem dX13_wash_29 : decode cX13_wash 29 = .ok (.iload_n 2, 1) := by decide +kernel
theorem dX13_wash_30 : decode cX13_wash 30 = .ok (.ifCond .ne 17, 3) := by decide +kernel
theorem dX13_wash_33 : decode cX13_wash 33 = .ok (.aload_n 0, 1) := by decide +kernel
theorem dX13_wash_34 : decode cX13_wash 34 = .ok (.getfield 17, 3) := by decide +kernel
theorem dX13_wash_37 : decode cX13_wash 37 = .ok (.bipush 6, 2) := by decide +kernel
theorem dX13_wash_39 : decode cX13_wash 39 = .ok (.iload_n 1, 1) := by decide +kernel
theorem dX13_wash_40 : decode cX13_wash 40 = .ok (.imul, 1) := by decide +kernel
theorem dX13_wash_41 : decode cX13_wash 41 = .ok (.iload_n 3, 1) := by decide +kernel
theorem dX13_wash_42 : decode cX13_wash 42 = .ok (.iadd, 1) := by decide +kernel
theorem dX13_wash_43 : decode cX13_wash 43 = .ok (.iaload, 1) := by decide +kernel
theorem dX13_wash_44 : decode cX13_wash 44 = .ok (.ifCond .le 7, 3) := by decide +kernel
theorem dX13_wash_47 : decode cX13_wash 47 = .ok (.iconst 1, 1) := by decide +kernel
theorem dX13_wash_48 : decode cX13_wash 48 = .ok (.goto 4, 3) := by decide +kernel
theorem dX13_wash_51 : decode cX13_wash 51 = .ok (.iconst 0, 1) := by decide +kernel
theorem dX13_wash_52 : decode cX13_wash 52 = .ok (.istore_n 2, 1) := by decide +kernel
theorem dX13_wash_53 : decode cX13_wash 53 = .ok (.iinc 3 1, 3) := by decide +kernel
theorem dX13_wash_56 : decode cX13_wash 56 = .ok (.goto (-33), 3) := by decide +kernel
theorem dX13_wash_59 : decode cX13_wash 59 = .ok (.iload_n 2, 1) := by decide +kernel
theorem dX13_wash_60 : decode cX13_wash 60 = .ok (.ifCond .ne 9, 3) := by decide +kernel
theorem dX13_wash_63 : decode cX13_wash 63 = .ok (.aload_n 0, 1) := by decide +kernel
theorem dX13_wash_64 : decode cX13_wash 64 = .ok (.iconst 5, 1) := by decide +kernel
theorem dX13_wash_65 : decode cX13_wash 65 = .ok (.invokevirtual 540, 3) := by decide +kernel
theorem dX13_wash_68 : decode cX13_wash 68 = .ok (.ireturn, 1) := by decide +kernel
theorem dX13_wash_69 : decode cX13_wash 69 = .ok (.aload_n 0, 1) := by decide +kernel
theorem dX13_wash_70 : decode cX13_wash 70 = .ok (.invokevirtual 534, 3) := by decide +kernel
theorem dX13_wash_73 : decode cX13_wash 73 = .ok (.iconst 0, 1) := by decide +kernel
theorem dX13_wash_74 : decode cX13_wash 74 = .ok (.istore_n 3, 1) := by decide +kernel
theorem dX13_wash_75 : decode cX13_wash 75 = .ok (.iload_n 3, 1) := by decide +kernel
theorem dX13_wash_76 : decode cX13_wash 76 = .ok (.bipush 6, 2) := by decide +kernel
theorem dX13_wash_78 : decode cX13_wash 78 = .ok (.if_icmp .ge 24, 3) := by decide +kernel
theorem dX13_wash_81 : decode cX13_wash 81 = .ok (.aload_n 0, 1) := by decide +kernel
theorem dX13_wash_82 : decode cX13_wash 82 = .ok (.getfield 17, 3) := by decide +kernel
theorem dX13_wash_85 : decode cX13_wash 85 = .ok (.bipush 6, 2) := by decide +kernel
theorem dX13_wash_87 : decode cX13_wash 87 = .ok (.iload_n 1, 1) := by decide +kernel
theorem dX13_wash_88 : decode cX13_wash 88 = .ok (.imul, 1) := by decide +kernel
theorem dX13_wash_89 : decode cX13_wash 89 = .ok (.iload_n 3, 1) := by decide +kernel
theorem dX13_wash_90 : decode cX13_wash 90 = .ok (.iadd, 1) := by decide +kernel
theorem dX13_wash_91 : decode cX13_wash 91 = .ok (.dup2, 1) := by decide +kernel
theorem dX13_wash_92 : decode cX13_wash 92 = .ok (.iaload, 1) := by decide +kernel
theorem dX13_wash_93 : decode cX13_wash 93 = .ok (.iconst 2, 1) := by decide +kernel
theorem dX13_wash_94 : decode cX13_wash 94 = .ok (.idiv, 1) := by decide +kernel
theorem dX13_wash_95 : decode cX13_wash 95 = .ok (.iastore, 1) := by decide +kernel
theorem dX13_wash_96 : decode cX13_wash 96 = .ok (.iinc 3 1, 3) := by decide +kernel
theorem dX13_wash_99 : decode cX13_wash 99 = .ok (.goto (-24), 3) := by decide +kernel
theorem dX13_wash_102 : decode cX13_wash 102 = .ok (.aload_n 0, 1) := by decide +kernel
theorem dX13_wash_103 : decode cX13_wash 103 = .ok (.invokevirtual 543, 3) := by decide +kernel
theorem dX13_wash_106 : decode cX13_wash 106 = .ok (.ireturn, 1) := by decide +kernel
theorem dX13_undo_0 : decode cX13_undo 0 = .ok (.aload_n 0, 1) := by decide +kernel
theorem dX13_undo_1 : decode cX13_undo 1 = .ok (.iconst 0, 1) := by decide +kernel
theorem dX13_undo_2 : decode cX13_undo 2 = .ok (.putfield 72, 3) := by decide +kernel
theorem dX13_undo_5 : decode cX13_undo 5 = .ok (.aload_n 0, 1) := by decide +kernel
theorem dX13_undo_6 : decode cX13_undo 6 = .ok (.getfield 397, 3) := by decide +kernel
theorem dX13_undo_9 : decode cX13_undo 9 = .ok (.ifnull 10, 3) := by decide +kernel
theorem dX13_undo_12 : decode cX13_undo 12 = .ok (.aload_n 0, 1) := by decide +kernel
theorem dX13_undo_13 : decode cX13_undo 13 = .ok (.getfield 399, 3) := by decide +kernel
theorem dX13_undo_16 : decode cX13_undo 16 = .ok (.ifCond .ne 10, 3) := by decide +kernel
theorem dX13_undo_19 : decode cX13_undo 19 = .ok (.aload_n 0, 1) := by decide +kernel
theorem dX13_undo_20 : decode cX13_undo 20 = .ok (.bipush 6, 2) := by decide +kernel
theorem dX13_undo_22 : decode cX13_undo 22 = .ok (.invokevirtual 540, 3) := by decide +kernel
theorem dX13_undo_25 : decode cX13_undo 25 = .ok (.ireturn, 1) := by decide +kernel
theorem dX13_undo_26 : decode cX13_undo 26 = .ok (.aload_n 0, 1) := by decide +kernel
theorem dX13_undo_27 : decode cX13_undo 27 = .ok (.dup, 1) := by decide +kernel
theorem dX13_undo_28 : decode cX13_undo 28 = .ok (.getfield 399, 3) := by decide +kernel
theorem dX13_undo_31 : decode cX13_undo 31 = .ok (.iconst 1, 1) := by decide +kernel
theorem dX13_undo_32 : decode cX13_undo 32 = .ok (.isub, 1) := by decide +kernel
theorem dX13_undo_33 : decode cX13_undo 33 = .ok (.putfield 399, 3) := by decide +kernel
theorem dX13_undo_36 : decode cX13_undo 36 = .ok (.iconst 0, 1) := by decide +kernel
theorem dX13_undo_37 : decode cX13_undo 37 = .ok (.istore_n 1, 1) := by decide +kernel
theorem dX13_undo_38 : decode cX13_undo 38 = .ok (.iload_n 1, 1) := by decide +kernel
theorem dX13_undo_39 : decode cX13_undo 39 = .ok (.bipush 36, 2) := by decide +kernel
theorem dX13_undo_41 : decode cX13_undo 41 = .ok (.if_icmp .ge 29, 3) := by decide +kernel
theorem dX13_undo_44 : decode cX13_undo 44 = .ok (.aload_n 0, 1) := by decide +kernel
theorem dX13_undo_45 : decode cX13_undo 45 = .ok (.getfield 17, 3) := by decide +kernel
theorem dX13_undo_48 : decode cX13_undo 48 = .ok (.iload_n 1, 1) := by decide +kernel
theorem dX13_undo_49 : decode cX13_undo 49 = .ok (.aload_n 0, 1) := by decide +kernel
theorem dX13_undo_50 : decode cX13_undo 50 = .ok (.getfield 21, 3) := by decide +kernel
theorem dX13_undo_53 : decode cX13_undo 53 = .ok (.bipush 36, 2) := by decide +kernel
theorem dX13_undo_55 : decode cX13_undo 55 = .ok (.aload_n 0, 1) := by decide +kernel
theorem dX13_undo_56 : decode cX13_undo 56 = .ok (.getfield 399, 3) := by decide +kernel
theorem dX13_undo_59 : decode cX13_undo 59 = .ok (.imul, 1) := by decide +kernel
theorem dX13_undo_60 : decode cX13_undo 60 = .ok (.iload_n 1, 1) := by decide +kernel
theorem dX13_undo_61 : decode cX13_undo 61 = .ok (.iadd, 1) := by decide +kernel
theorem dX13_undo_62 : decode cX13_undo 62 = .ok (.iaload, 1) := by decide +kernel
theorem dX13_undo_63 : decode cX13_undo 63 = .ok (.iastore, 1) := by decide +kernel
theorem dX13_undo_64 : decode cX13_undo 64 = .ok (.iinc 1 1, 3) := by decide +kernel
theorem dX13_undo_67 : decode cX13_undo 67 = .ok (.goto (-29), 3) := by decide +kernel
theorem dX13_undo_70 : decode cX13_undo 70 = .ok (.aload_n 0, 1) := by decide +kernel
theorem dX13_undo_71 : decode cX13_undo 71 = .ok (.invokevirtual 543, 3) := by decide +kernel
theorem dX13_undo_74 : decode cX13_undo 74 = .ok (.ireturn, 1) := by decide +kernel
theorem dX13_mark_0 : decode cX13_mark 0 = .ok (.aload_n 0, 1) := by decide +kernel
theorem dX13_mark_1 : decode cX13_mark 1 = .ok (.iconst 0, 1) := by decide +kernel
theorem dX13_mark_2 : decode cX13_mark 2 = .ok (.putfield 72, 3) := by decide +kernel
theorem dX13_mark_5 : decode cX13_mark 5 = .ok (.aload_n 0, 1) := by decide +kernel
theorem dX13_mark_6 : decode cX13_mark 6 = .ok (.getfield 397, 3) := by decide +kernel
theorem dX13_mark_9 : decode cX13_mark 9 = .ok (.ifnonnull 9, 3) := by decide +kernel
theorem dX13_mark_12 : decode cX13_mark 12 = .ok (.aload_n 0, 1) := by decide +kernel
theorem dX13_mark_13 : decode cX13_mark 13 = .ok (.iconst 1, 1) := by decide +kernel
theorem dX13_mark_14 : decode cX13_mark 14 = .ok (.invokevirtual 78, 3) := by decide +kernel
theorem dX13_mark_17 : decode cX13_mark 17 = .ok (.ireturn, 1) := by decide +kernel
theorem dX13_mark_18 : decode cX13_mark 18 = .ok (.aload_n 0, 1) := by decide +kernel
theorem dX13_mark_19 : decode cX13_mark 19 = .ok (.getfield 402, 3) := by decide +kernel
theorem dX13_mark_22 : decode cX13_mark 22 = .ok (.iconst 3, 1) := by decide +kernel
theorem dX13_mark_23 : decode cX13_mark 23 = .ok (.if_icmp .ne 9, 3) := by decide +kernel
theorem dX13_mark_26 : decode cX13_mark 26 = .ok (.aload_n 0, 1) := by decide +kernel
theorem dX13_mark_27 : decode cX13_mark 27 = .ok (.iconst 3, 1) := by decide +kernel
theorem dX13_mark_28 : decode cX13_mark 28 = .ok (.invokevirtual 78, 3) := by decide +kernel
theorem dX13_mark_31 : decode cX13_mark 31 = .ok (.ireturn, 1) := by decide +kernel
theorem dX13_mark_32 : decode cX13_mark 32 = .ok (.iconst 0, 1) := by decide +kernel
theorem dX13_mark_33 : decode cX13_mark 33 = .ok (.istore_n 1, 1) := by decide +kernel
theorem dX13_mark_34 : decode cX13_mark 34 = .ok (.iload_n 1, 1) := by decide +kernel
theorem dX13_mark_35 : decode cX13_mark 35 = .ok (.bipush 36, 2) := by decide +kernel
theorem dX13_mark_37 : decode cX13_mark 37 = .ok (.if_icmp .ge 29, 3) := by decide +kernel
theorem dX13_mark_40 : decode cX13_mark 40 = .ok (.aload_n 0, 1) := by decide +kernel
theorem dX13_mark_41 : decode cX13_mark 41 = .ok (.getfield 24, 3) := by decide +kernel
theorem dX13_mark_44 : decode cX13_mark 44 = .ok (.bipush 36, 2) := by decide +kernel
theorem dX13_mark_46 : decode cX13_mark 46 = .ok (.aload_n 0, 1) := by decide +kernel
theorem dX13_mark_47 : decode cX13_mark 47 = .ok (.getfield 402, 3) := by decide +kernel
theorem dX13_mark_50 : decode cX13_mark 50 = .ok (.imul, 1) := by decide +kernel
theorem dX13_mark_51 : decode cX13_mark 51 = .ok (.iload_n 1, 1) := by decide +kernel
theorem dX13_mark_52 : decode cX13_mark 52 = .ok (.iadd, 1) := by decide +kernel
theorem dX13_mark_53 : decode cX13_mark 53 = .ok (.aload_n 0, 1) := by decide +kernel
theorem dX13_mark_54 : decode cX13_mark 54 = .ok (.getfield 17, 3) := by decide +kernel
theorem dX13_mark_57 : decode cX13_mark 57 = .ok (.iload_n 1, 1) := by decide +kernel
theorem dX13_mark_58 : decode cX13_mark 58 = .ok (.iaload, 1) := by decide +kernel
theorem dX13_mark_59 : decode cX13_mark 59 = .ok (.iastore, 1) := by decide +kernel
theorem dX13_mark_60 : decode cX13_mark 60 = .ok (.iinc 1 1, 3) := by decide +kernel
theorem dX13_mark_63 : decode cX13_mark 63 = .ok (.goto (-29), 3) := by decide +kernel
theorem dX13_mark_66 : decode cX13_mark 66 = .ok (.aload_n 0, 1) := by decide +kernel
theorem dX13_mark_67 : decode cX13_mark 67 = .ok (.dup, 1) := by decide +kernel
theorem dX13_mark_68 : decode cX13_mark 68 = .ok (.getfield 402, 3) := by decide +kernel
theorem dX13_mark_71 : decode cX13_mark 71 = .ok (.iconst 1, 1) := by decide +kernel
theorem dX13_mark_72 : decode cX13_mark 72 = .ok (.iadd, 1) := by decide +kernel
theorem dX13_mark_73 : decode cX13_mark 73 = .ok (.putfield 402, 3) := by decide +kernel
theorem dX13_mark_76 : decode cX13_mark 76 = .ok (.aload_n 0, 1) := by decide +kernel
theorem dX13_mark_77 : decode cX13_mark 77 = .ok (.aload_n 0, 1) := by decide +kernel
theorem dX13_mark_78 : decode cX13_mark 78 = .ok (.getfield 402, 3) := by decide +kernel
theorem dX13_mark_81 : decode cX13_mark 81 = .ok (.iconst 1, 1) := by decide +kernel
theorem dX13_mark_82 : decode cX13_mark 82 = .ok (.isub, 1) := by decide +kernel
theorem dX13_mark_83 : decode cX13_mark 83 = .ok (.invokevirtual 82, 3) := by decide +kernel
theorem dX13_mark_86 : decode cX13_mark 86 = .ok (.ireturn, 1) := by decide +kernel
theorem dX13_back_0 : decode cX13_back 0 = .ok (.aload_n 0, 1) := by decide +kernel
theorem dX13_back_1 : decode cX13_back 1 = .ok (.iconst 0, 1) := by decide +kernel
theorem dX13_back_2 : decode cX13_back 2 = .ok (.putfield 72, 3) := by decide +kernel
theorem dX13_back_5 : decode cX13_back 5 = .ok (.aload_n 0, 1) := by decide +kernel
theorem dX13_back_6 : decode cX13_back 6 = .ok (.getfield 397, 3) := by decide +kernel
theorem dX13_back_9 : decode cX13_back 9 = .ok (.ifnull 15, 3) := by decide +kernel
theorem dX13_back_12 : decode cX13_back 12 = .ok (.iload_n 1, 1) := by decide +kernel
theorem dX13_back_13 : decode cX13_back 13 = .ok (.ifCond .lt 11, 3) := by decide +kernel
theorem dX13_back_16 : decode cX13_back 16 = .ok (.iload_n 1, 1) := by decide +kernel
theorem dX13_back_17 : decode cX13_back 17 = .ok (.aload_n 0, 1) := by decide +kernel
theorem dX13_back_18 : decode cX13_back 18 = .ok (.getfield 402, 3) := by decide +kernel
theorem dX13_back_21 : decode cX13_back 21 = .ok (.if_icmp .lt 9, 3) := by decide +kernel
theorem dX13_back_24 : decode cX13_back 24 = .ok (.aload_n 0, 1) := by decide +kernel
theorem dX13_back_25 : decode cX13_back 25 = .ok (.iconst 1, 1) := by decide +kernel
theorem dX13_back_26 : decode cX13_back 26 = .ok (.invokevirtual 540, 3) := by decide +kernel
theorem dX13_back_29 : decode cX13_back 29 = .ok (.ireturn, 1) := by decide +kernel
theorem dX13_back_30 : decode cX13_back 30 = .ok (.iconst 0, 1) := by decide +kernel
theorem dX13_back_31 : decode cX13_back 31 = .ok (.istore_n 2, 1) := by decide +kernel
theorem dX13_back_32 : decode cX13_back 32 = .ok (.iload_n 2, 1) := by decide +kernel
theorem dX13_back_33 : decode cX13_back 33 = .ok (.bipush 36, 2) := by decide +kernel
theorem dX13_back_35 : decode cX13_back 35 = .ok (.if_icmp .ge 26, 3) := by decide +kernel
theorem dX13_back_38 : decode cX13_back 38 = .ok (.aload_n 0, 1) := by decide +kernel
theorem dX13_back_39 : decode cX13_back 39 = .ok (.getfield 17, 3) := by decide +kernel
theorem dX13_back_42 : decode cX13_back 42 = .ok (.iload_n 2, 1) := by decide +kernel
theorem dX13_back_43 : decode cX13_back 43 = .ok (.aload_n 0, 1) := by decide +kernel
theorem dX13_back_44 : decode cX13_back 44 = .ok (.getfield 24, 3) := by decide +kernel
theorem dX13_back_47 : decode cX13_back 47 = .ok (.bipush 36, 2) := by decide +kernel
theorem dX13_back_49 : decode cX13_back 49 = .ok (.iload_n 1, 1) := by decide +kernel
theorem dX13_back_50 : decode cX13_back 50 = .ok (.imul, 1) := by decide +kernel
theorem dX13_back_51 : decode cX13_back 51 = .ok (.iload_n 2, 1) := by decide +kernel
theorem dX13_back_52 : decode cX13_back 52 = .ok (.iadd, 1) := by decide +kernel
theorem dX13_back_53 : decode cX13_back 53 = .ok (.iaload, 1) := by decide +kernel
theorem dX13_back_54 : decode cX13_back 54 = .ok (.iastore, 1) := by decide +kernel
theorem dX13_back_55 : decode cX13_back 55 = .ok (.iinc 2 1, 3) := by decide +kernel
theorem dX13_back_58 : decode cX13_back 58 = .ok (.goto (-26), 3) := by decide +kernel
theorem dX13_back_61 : decode cX13_back 61 = .ok (.aload_n 0, 1) := by decide +kernel
theorem dX13_back_62 : decode cX13_back 62 = .ok (.iconst 0, 1) := by decide +kernel
theorem dX13_back_63 : decode cX13_back 63 = .ok (.putfield 399, 3) := by decide +kernel
theorem dX13_back_66 : decode cX13_back 66 = .ok (.aload_n 0, 1) := by decide +kernel
theorem dX13_back_67 : decode cX13_back 67 = .ok (.invokevirtual 543, 3) := by decide +kernel
theorem dX13_back_70 : decode cX13_back 70 = .ok (.ireturn, 1) := by decide +kernel
theorem dX13_led_0 : decode cX13_led 0 = .ok (.aload_n 0, 1) := by decide +kernel
theorem dX13_led_1 : decode cX13_led 1 = .ok (.iconst 0, 1) := by decide +kernel
theorem dX13_led_2 : decode cX13_led 2 = .ok (.putfield 72, 3) := by decide +kernel
theorem dX13_led_5 : decode cX13_led 5 = .ok (.iconst 0, 1) := by decide +kernel
theorem dX13_led_6 : decode cX13_led 6 = .ok (.istore_n 2, 1) := by decide +kernel
theorem dX13_led_7 : decode cX13_led 7 = .ok (.aload_n 0, 1) := by decide +kernel
theorem dX13_led_8 : decode cX13_led 8 = .ok (.getfield 397, 3) := by decide +kernel
theorem dX13_led_11 : decode cX13_led 11 = .ok (.ifnull 7, 3) := by decide +kernel
theorem dX13_led_14 : decode cX13_led 14 = .ok (.aload_n 0, 1) := by decide +kernel
theorem dX13_led_15 : decode cX13_led 15 = .ok (.invokevirtual 433, 3) := by decide +kernel
theorem dX13_led_18 : decode cX13_led 18 = .ok (.iconst 0, 1) := by decide +kernel
theorem dX13_led_19 : decode cX13_led 19 = .ok (.istore_n 3, 1) := by decide +kernel
theorem dX13_led_20 : decode cX13_led 20 = .ok (.aload_n 0, 1) := by decide +kernel
theorem dX13_led_21 : decode cX13_led 21 = .ok (.getfield 397, 3) := by decide +kernel
theorem dX13_led_24 : decode cX13_led 24 = .ok (.ifnull 55, 3) := by decide +kernel
theorem dX13_led_27 : decode cX13_led 27 = .ok (.iload_n 3, 1) := by decide +kernel
theorem dX13_led_28 : decode cX13_led 28 = .ok (.aload_n 0, 1) := by decide +kernel
theorem dX13_led_29 : decode cX13_led 29 = .ok (.getfield 397, 3) := by decide +kernel
theorem dX13_led_32 : decode cX13_led 32 = .ok (.getfield 343, 3) := by decide +kernel
theorem dX13_led_35 : decode cX13_led 35 = .ok (.if_icmp .ge 44, 3) := by decide +kernel
theorem dX13_led_38 : decode cX13_led 38 = .ok (.aload_n 0, 1) := by decide +kernel
theorem dX13_led_39 : decode cX13_led 39 = .ok (.iload_n 3, 1) := by decide +kernel
theorem dX13_led_40 : decode cX13_led 40 = .ok (.invokevirtual 428, 3) := by decide +kernel
theorem dX13_led_43 : decode cX13_led 43 = .ok (.aload_n 0, 1) := by decide +kernel
theorem dX13_led_44 : decode cX13_led 44 = .ok (.iload_n 3, 1) := by decide +kernel
theorem dX13_led_45 : decode cX13_led 45 = .ok (.aload_n 0, 1) := by decide +kernel
theorem dX13_led_46 : decode cX13_led 46 = .ok (.getfield 17, 3) := by decide +kernel
theorem dX13_led_49 : decode cX13_led 49 = .ok (.bipush 24, 2) := by decide +kernel
theorem dX13_led_51 : decode cX13_led 51 = .ok (.iload_n 3, 1) := by decide +kernel
theorem dX13_led_52 : decode cX13_led 52 = .ok (.iadd, 1) := by decide +kernel
theorem dX13_led_53 : decode cX13_led 53 = .ok (.iaload, 1) := by decide +kernel
theorem dX13_led_54 : decode cX13_led 54 = .ok (.invokevirtual 442, 3) := by decide +kernel
theorem dX13_led_57 : decode cX13_led 57 = .ok (.ifCond .ne 6, 3) := by decide +kernel
theorem dX13_led_60 : decode cX13_led 60 = .ok (.goto 13, 3) := by decide +kernel
theorem dX13_led_63 : decode cX13_led 63 = .ok (.iload_n 2, 1) := by decide +kernel
theorem dX13_led_64 : decode cX13_led 64 = .ok (.iload_n 1, 1) := by decide +kernel
theorem dX13_led_65 : decode cX13_led 65 = .ok (.if_icmp .ne 5, 3) := by decide +kernel
theorem dX13_led_68 : decode cX13_led 68 = .ok (.iload_n 3, 1) := by decide +kernel
theorem dX13_led_69 : decode cX13_led 69 = .ok (.ireturn, 1) := by decide +kernel
theorem dX13_led_70 : decode cX13_led 70 = .ok (.iinc 2 1, 3) := by decide +kernel
theorem dX13_led_73 : decode cX13_led 73 = .ok (.iinc 3 1, 3) := by decide +kernel
theorem dX13_led_76 : decode cX13_led 76 = .ok (.goto (-56), 3) := by decide +kernel
theorem dX13_led_79 : decode cX13_led 79 = .ok (.aload_n 0, 1) := by decide +kernel
theorem dX13_led_80 : decode cX13_led 80 = .ok (.iconst 1, 1) := by decide +kernel
theorem dX13_led_81 : decode cX13_led 81 = .ok (.putfield 72, 3) := by decide +kernel
theorem dX13_led_84 : decode cX13_led 84 = .ok (.iconst 0, 1) := by decide +kernel
theorem dX13_led_85 : decode cX13_led 85 = .ok (.ireturn, 1) := by decide +kernel
theorem dX13_size_0 : decode cX13_size 0 = .ok (.aload_n 0, 1) := by decide +kernel
theorem dX13_size_1 : decode cX13_size 1 = .ok (.iconst 0, 1) := by decide +kernel
theorem dX13_size_2 : decode cX13_size 2 = .ok (.putfield 72, 3) := by decide +kernel
theorem dX13_size_5 : decode cX13_size 5 = .ok (.iload_n 1, 1) := by decide +kernel
theorem dX13_size_6 : decode cX13_size 6 = .ok (.bipush 13, 2) := by decide +kernel
theorem dX13_size_8 : decode cX13_size 8 = .ok (.if_icmp .ne 8, 3) := by decide +kernel
theorem dX13_size_11 : decode cX13_size 11 = .ok (.aload_n 0, 1) := by decide +kernel
theorem dX13_size_12 : decode cX13_size 12 = .ok (.getfield 390, 3) := by decide +kernel
theorem dX13_size_15 : decode cX13_size 15 = .ok (.ireturn, 1) := by decide +kernel
theorem dX13_size_16 : decode cX13_size 16 = .ok (.iload_n 1, 1) := by decide +kernel
theorem dX13_size_17 : decode cX13_size 17 = .ok (.iconst 0, 1) := by decide +kernel
theorem dX13_size_18 : decode cX13_size 18 = .ok (.bipush 12, 2) := by decide +kernel
theorem dX13_size_20 : decode cX13_size 20 = .ok (.invokestatic 150, 3) := by decide +kernel
theorem dX13_size_23 : decode cX13_size 23 = .ok (.ifCond .ne 5, 3) := by decide +kernel
theorem dX13_size_26 : decode cX13_size 26 = .ok (.iconst (-1), 1) := by decide +kernel
theorem dX13_size_27 : decode cX13_size 27 = .ok (.ireturn, 1) := by decide +kernel
theorem dX13_size_28 : decode cX13_size 28 = .ok (.aload_n 0, 1) := by decide +kernel
theorem dX13_size_29 : decode cX13_size 29 = .ok (.getfield 397, 3) := by decide +kernel
theorem dX13_size_32 : decode cX13_size 32 = .ok (.ifnonnull 5, 3) := by decide +kernel
theorem dX13_size_35 : decode cX13_size 35 = .ok (.iconst 0, 1) := by decide +kernel
theorem dX13_size_36 : decode cX13_size 36 = .ok (.ireturn, 1) := by decide +kernel
theorem dX13_size_37 : decode cX13_size 37 = .ok (.iload_n 1, 1) := by decide +kernel
theorem dX13_size_38 : decode cX13_size 38 = .ok (.tableswitch 155 0 11 #[62, 70, 78, 86, 94, 102, 110, 118, 126, 134, 142, 150], 62) := by decide +kernel
theorem dX13_size_100 : decode cX13_size 100 = .ok (.aload_n 0, 1) := by decide +kernel
theorem dX13_size_101 : decode cX13_size 101 = .ok (.getfield 397, 3) := by decide +kernel
theorem dX13_size_104 : decode cX13_size 104 = .ok (.getfield 189, 3) := by decide +kernel
theorem dX13_size_107 : decode cX13_size 107 = .ok (.ireturn, 1) := by decide +kernel
theorem dX13_size_108 : decode cX13_size 108 = .ok (.aload_n 0, 1) := by decide +kernel
theorem dX13_size_109 : decode cX13_size 109 = .ok (.getfield 397, 3) := by decide +kernel
theorem dX13_size_112 : decode cX13_size 112 = .ok (.getfield 227, 3) := by decide +kernel
theorem dX13_size_115 : decode cX13_size 115 = .ok (.ireturn, 1) := by decide +kernel
theorem dX13_size_116 : decode cX13_size 116 = .ok (.aload_n 0, 1) := by decide +kernel
theorem dX13_size_117 : decode cX13_size 117 = .ok (.getfield 397, 3) := by decide +kernel
theorem dX13_size_120 : decode cX13_size 120 = .ok (.getfield 301, 3) := by decide +kernel
theorem dX13_size_123 : decode cX13_size 123 = .ok (.ireturn, 1) := by decide +kernel
theorem dX13_size_124 : decode cX13_size 124 = .ok (.aload_n 0, 1) := by decide +kernel
theorem dX13_size_125 : decode cX13_size 125 = .ok (.getfield 397, 3) := by decide +kernel
theorem dX13_size_128 : decode cX13_size 128 = .ok (.getfield 318, 3) := by decide +kernel
theorem dX13_size_131 : decode cX13_size 131 = .ok (.ireturn, 1) := by decide +kernel
theorem dX13_size_132 : decode cX13_size 132 = .ok (.aload_n 0, 1) := by decide +kernel
theorem dX13_size_133 : decode cX13_size 133 = .ok (.getfield 397, 3) := by decide +kernel
theorem dX13_size_136 : decode cX13_size 136 = .ok (.getfield 230, 3) := by decide +kernel
theorem dX13_size_139 : decode cX13_size 139 = .ok (.ireturn, 1) := by decide +kernel
theorem dX13_size_140 : decode cX13_size 140 = .ok (.aload_n 0, 1) := by decide +kernel
theorem dX13_size_141 : decode cX13_size 141 = .ok (.getfield 397, 3) := by decide +kernel
theorem dX13_size_144 : decode cX13_size 144 = .ok (.getfield 331, 3) := by decide +kernel
theorem dX13_size_147 : decode cX13_size 147 = .ok (.ireturn, 1) := by decide +kernel
theorem dX13_size_148 : decode cX13_size 148 = .ok (.aload_n 0, 1) := by decide +kernel
theorem dX13_size_149 : decode cX13_size 149 = .ok (.getfield 397, 3) := by decide +kernel
theorem dX13_size_152 : decode cX13_size 152 = .ok (.getfield 338, 3) := by decide +kernel
theorem dX13_size_155 : decode cX13_size 155 = .ok (.ireturn, 1) := by decide +kernel
theorem dX13_size_156 : decode cX13_size 156 = .ok (.aload_n 0, 1) := by decide +kernel
theorem dX13_size_157 : decode cX13_size 157 = .ok (.getfield 397, 3) := by decide +kernel
theorem dX13_size_160 : decode cX13_size 160 = .ok (.getfield 343, 3) := by decide +kernel
theorem dX13_size_163 : decode cX13_size 163 = .ok (.ireturn, 1) := by decide +kernel
theorem dX13_size_164 : decode cX13_size 164 = .ok (.aload_n 0, 1) := by decide +kernel
theorem dX13_size_165 : decode cX13_size 165 = .ok (.getfield 397, 3) := by decide +kernel
theorem dX13_size_168 : decode cX13_size 168 = .ok (.getfield 375, 3) := by decide +kernel
theorem dX13_size_171 : decode cX13_size 171 = .ok (.ireturn, 1) := by decide +kernel
theorem dX13_size_172 : decode cX13_size 172 = .ok (.aload_n 0, 1) := by decide +kernel
theorem dX13_size_173 : decode cX13_size 173 = .ok (.getfield 397, 3) := by decide +kernel
theorem dX13_size_176 : decode cX13_size 176 = .ok (.getfield 378, 3) := by decide +kernel
theorem dX13_size_179 : decode cX13_size 179 = .ok (.ireturn, 1) := by decide +kernel
theorem dX13_size_180 : decode cX13_size 180 = .ok (.aload_n 0, 1) := by decide +kernel
theorem dX13_size_181 : decode cX13_size 181 = .ok (.getfield 397, 3) := by decide +kernel
theorem dX13_size_184 : decode cX13_size 184 = .ok (.getfield 387, 3) := by decide +kernel
theorem dX13_size_187 : decode cX13_size 187 = .ok (.ireturn, 1) := by decide +kernel
theorem dX13_size_188 : decode cX13_size 188 = .ok (.aload_n 0, 1) := by decide +kernel
theorem dX13_size_189 : decode cX13_size 189 = .ok (.getfield 399, 3) := by decide +kernel
theorem dX13_size_192 : decode cX13_size 192 = .ok (.ireturn, 1) := by decide +kernel
theorem dX13_size_193 : decode cX13_size 193 = .ok (.aload_n 0, 1) := by decide +kernel
theorem dX13_size_194 : decode cX13_size 194 = .ok (.getfield 402, 3) := by decide +kernel
theorem dX13_size_197 : decode cX13_size 197 = .ok (.ireturn, 1) := by decide +kernel
theorem dX13_trouble_0 : decode cX13_trouble 0 = .ok (.aload_n 0, 1) := by decide +kernel
theorem dX13_trouble_1 : decode cX13_trouble 1 = .ok (.iconst 0, 1) := by decide +kernel
theorem dX13_trouble_2 : decode cX13_trouble 2 = .ok (.putfield 72, 3) := by decide +kernel
theorem dX13_trouble_5 : decode cX13_trouble 5 = .ok (.aload_n 0, 1) := by decide +kernel
theorem dX13_trouble_6 : decode cX13_trouble 6 = .ok (.getfield 75, 3) := by decide +kernel
theorem dX13_trouble_9 : decode cX13_trouble 9 = .ok (.ireturn, 1) := by decide +kernel
theorem dJ9_max_7cf53_0 : decode cJ9_max_7cf53 0 = .ok (.iload_n 0, 1) := by decide +kernel
theorem dJ9_max_7cf53_1 : decode cJ9_max_7cf53 1 = .ok (.iload_n 1, 1) := by decide +kernel
theorem dJ9_max_7cf53_2 : decode cJ9_max_7cf53 2 = .ok (.if_icmp .lt 7, 3) := by decide +kernel
theorem dJ9_max_7cf53_5 : decode cJ9_max_7cf53 5 = .ok (.iload_n 0, 1) := by decide +kernel
theorem dJ9_max_7cf53_6 : decode cJ9_max_7cf53 6 = .ok (.goto 4, 3) := by decide +kernel
theorem dJ9_max_7cf53_9 : decode cJ9_max_7cf53 9 = .ok (.iload_n 1, 1) := by decide +kernel
theorem dJ9_max_7cf53_10 : decode cJ9_max_7cf53 10 = .ok (.ireturn, 1) := by decide +kernel
theorem dJ9_min_7cf53_0 : decode cJ9_min_7cf53 0 = .ok (.iload_n 0, 1) := by decide +kernel
theorem dJ9_min_7cf53_1 : decode cJ9_min_7cf53 1 = .ok (.iload_n 1, 1) := by decide +kernel
theorem dJ9_min_7cf53_2 : decode cJ9_min_7cf53 2 = .ok (.if_icmp .gt 7, 3) := by decide +kernel
theorem dJ9_min_7cf53_5 : decode cJ9_min_7cf53 5 = .ok (.iload_n 0, 1) := by decide +kernel
theorem dJ9_min_7cf53_6 : decode cJ9_min_7cf53 6 = .ok (.goto 4, 3) := by decide +kernel
theorem dJ9_min_7cf53_9 : decode cJ9_min_7cf53 9 = .ok (.iload_n 1, 1) := by decide +kernel
theorem dJ9_min_7cf53_10 : decode cJ9_min_7cf53 10 = .ok (.ireturn, 1) := by decide +kernel
theorem dJ0_length_8abf5_0 : decode cJ0_length_8abf5 0 = .ok (.aload_n 0, 1) := by decide +kernel
theorem dJ0_length_8abf5_1 : decode cJ0_length_8abf5 1 = .ok (.getfield 9, 3) := by decide +kernel
theorem dJ0_length_8abf5_4 : decode cJ0_length_8abf5 4 = .ok (.arraylength, 1) := by decide +kernel
theorem dJ0_length_8abf5_5 : decode cJ0_length_8abf5 5 = .ok (.aload_n 0, 1) := by decide +kernel
theorem dJ0_length_8abf5_6 : decode cJ0_length_8abf5 6 = .ok (.invokevirtual 335, 3) := by decide +kernel
theorem dJ0_length_8abf5_9 : decode cJ0_length_8abf5 9 = .ok (.ishr, 1) := by decide +kernel
theorem dJ0_length_8abf5_10 : decode cJ0_length_8abf5 10 = .ok (.ireturn, 1) := by decide +kernel
theorem dJ0_charAt_5068e_0 : decode cJ0_charAt_5068e 0 = .ok (.aload_n 0, 1) := by decide +kernel
theorem dJ0_charAt_5068e_1 : decode cJ0_charAt_5068e 1 = .ok (.invokevirtual 492, 3) := by decide +kernel
theorem dJ0_charAt_5068e_4 : decode cJ0_charAt_5068e 4 = .ok (.ifCond .eq 12, 3) := by decide +kernel
theorem dJ0_charAt_5068e_7 : decode cJ0_charAt_5068e 7 = .ok (.aload_n 0, 1) := by decide +kernel
theorem dJ0_charAt_5068e_8 : decode cJ0_charAt_5068e 8 = .ok (.getfield 9, 3) := by decide +kernel
theorem dJ0_charAt_5068e_11 : decode cJ0_charAt_5068e 11 = .ok (.iload_n 1, 1) := by decide +kernel
theorem dJ0_charAt_5068e_12 : decode cJ0_charAt_5068e 12 = .ok (.invokestatic 495, 3) := by decide +kernel
theorem dJ0_charAt_5068e_15 : decode cJ0_charAt_5068e 15 = .ok (.ireturn, 1) := by decide +kernel
theorem dJ0_charAt_5068e_16 : decode cJ0_charAt_5068e 16 = .ok (.aload_n 0, 1) := by decide +kernel
theorem dJ0_charAt_5068e_17 : decode cJ0_charAt_5068e 17 = .ok (.getfield 9, 3) := by decide +kernel
theorem dJ0_charAt_5068e_20 : decode cJ0_charAt_5068e 20 = .ok (.iload_n 1, 1) := by decide +kernel
theorem dJ0_charAt_5068e_21 : decode cJ0_charAt_5068e 21 = .ok (.invokestatic 498, 3) := by decide +kernel
theorem dJ0_charAt_5068e_24 : decode cJ0_charAt_5068e 24 = .ok (.ireturn, 1) := by decide +kernel
theorem dJ0_coder_7d493_0 : decode cJ0_coder_7d493 0 = .ok (.getstatic 38, 3) := by decide +kernel
theorem dJ0_coder_7d493_3 : decode cJ0_coder_7d493 3 = .ok (.ifCond .eq 10, 3) := by decide +kernel
theorem dJ0_coder_7d493_6 : decode cJ0_coder_7d493 6 = .ok (.aload_n 0, 1) := by decide +kernel
theorem dJ0_coder_7d493_7 : decode cJ0_coder_7d493 7 = .ok (.getfield 15, 3) := by decide +kernel
theorem dJ0_coder_7d493_10 : decode cJ0_coder_7d493 10 = .ok (.goto 4, 3) := by decide +kernel
theorem dJ0_coder_7d493_13 : decode cJ0_coder_7d493 13 = .ok (.iconst 1, 1) := by decide +kernel
theorem dJ0_coder_7d493_14 : decode cJ0_coder_7d493 14 = .ok (.ireturn, 1) := by decide +kernel
theorem dJ0_isLatin1_aae02_0 : decode cJ0_isLatin1_aae02 0 = .ok (.getstatic 38, 3) := by decide +kernel
theorem dJ0_isLatin1_aae02_3 : decode cJ0_isLatin1_aae02 3 = .ok (.ifCond .eq 14, 3) := by decide +kernel
theorem dJ0_isLatin1_aae02_6 : decode cJ0_isLatin1_aae02 6 = .ok (.aload_n 0, 1) := by decide +kernel
theorem dJ0_isLatin1_aae02_7 : decode cJ0_isLatin1_aae02 7 = .ok (.getfield 15, 3) := by decide +kernel
theorem dJ0_isLatin1_aae02_10 : decode cJ0_isLatin1_aae02 10 = .ok (.ifCond .ne 7, 3) := by decide +kernel
theorem dJ0_isLatin1_aae02_13 : decode cJ0_isLatin1_aae02 13 = .ok (.iconst 1, 1) := by decide +kernel
theorem dJ0_isLatin1_aae02_14 : decode cJ0_isLatin1_aae02 14 = .ok (.goto 4, 3) := by decide +kernel
theorem dJ0_isLatin1_aae02_17 : decode cJ0_isLatin1_aae02 17 = .ok (.iconst 0, 1) := by decide +kernel
theorem dJ0_isLatin1_aae02_18 : decode cJ0_isLatin1_aae02 18 = .ok (.ireturn, 1) := by decide +kernel
theorem dJ0_checkIndex_df160_0 : decode cJ0_checkIndex_df160 0 = .ok (.iload_n 0, 1) := by decide +kernel
theorem dJ0_checkIndex_df160_1 : decode cJ0_checkIndex_df160 1 = .ok (.iload_n 1, 1) := by decide +kernel
theorem dJ0_checkIndex_df160_2 : decode cJ0_checkIndex_df160 2 = .ok (.getstatic 1053, 3) := by decide +kernel
theorem dJ0_checkIndex_df160_5 : decode cJ0_checkIndex_df160 5 = .ok (.invokestatic 1059, 3) := by decide +kernel
theorem dJ0_checkIndex_df160_8 : decode cJ0_checkIndex_df160 8 = .ok (.pop, 1) := by decide +kernel
theorem dJ0_checkIndex_df160_9 : decode cJ0_checkIndex_df160 9 = .ok (.return_, 1) := by decide +kernel
theorem dJ1_charAt_3b067_0 : decode cJ1_charAt_3b067 0 = .ok (.iload_n 1, 1) := by decide +kernel
theorem dJ1_charAt_3b067_1 : decode cJ1_charAt_3b067 1 = .ok (.aload_n 0, 1) := by decide +kernel
theorem dJ1_charAt_3b067_2 : decode cJ1_charAt_3b067 2 = .ok (.arraylength, 1) := by decide +kernel
theorem dJ1_charAt_3b067_3 : decode cJ1_charAt_3b067 3 = .ok (.invokestatic 9, 3) := by decide +kernel
theorem dJ1_charAt_3b067_6 : decode cJ1_charAt_3b067 6 = .ok (.aload_n 0, 1) := by decide +kernel
theorem dJ1_charAt_3b067_7 : decode cJ1_charAt_3b067 7 = .ok (.iload_n 1, 1) := by decide +kernel
theorem dJ1_charAt_3b067_8 : decode cJ1_charAt_3b067 8 = .ok (.baload, 1) := by decide +kernel
theorem dJ1_charAt_3b067_9 : decode cJ1_charAt_3b067 9 = .ok (.sipush 255, 3) := by decide +kernel
theorem dJ1_charAt_3b067_12 : decode cJ1_charAt_3b067 12 = .ok (.iand, 1) := by decide +kernel
theorem dJ1_charAt_3b067_13 : decode cJ1_charAt_3b067 13 = .ok (.i2c, 1) := by decide +kernel
theorem dJ1_charAt_3b067_14 : decode cJ1_charAt_3b067 14 = .ok (.ireturn, 1) := by decide +kernel
theorem dJ2_getChar_3b067_0 : decode cJ2_getChar_3b067 0 = .ok (.getstatic 44, 3) := by decide +kernel
theorem dJ2_getChar_3b067_3 : decode cJ2_getChar_3b067 3 = .ok (.ifCond .ne 25, 3) := by decide +kernel
theorem dJ2_getChar_3b067_6 : decode cJ2_getChar_3b067 6 = .ok (.iload_n 1, 1) := by decide +kernel
theorem dJ2_getChar_3b067_7 : decode cJ2_getChar_3b067 7 = .ok (.ifCond .lt 11, 3) := by decide +kernel
theorem dJ2_getChar_3b067_10 : decode cJ2_getChar_3b067 10 = .ok (.iload_n 1, 1) := by decide +kernel
theorem dJ2_getChar_3b067_11 : decode cJ2_getChar_3b067 11 = .ok (.aload_n 0, 1) := by decide +kernel
theorem dJ2_getChar_3b067_12 : decode cJ2_getChar_3b067 12 = .ok (.invokestatic 48, 3) := by decide +kernel
theorem dJ2_getChar_3b067_15 : decode cJ2_getChar_3b067 15 = .ok (.if_icmp .lt 13, 3) := by decide +kernel
theorem dJ2_getChar_3b067_18 : decode cJ2_getChar_3b067 18 = .ok (.new 52, 3) := by decide +kernel
theorem dJ2_getChar_3b067_21 : decode cJ2_getChar_3b067 21 = .ok (.dup, 1) := by decide +kernel
theorem dJ2_getChar_3b067_22 : decode cJ2_getChar_3b067 22 = .ok (.ldc 54, 2) := by decide +kernel
theorem dJ2_getChar_3b067_24 : decode cJ2_getChar_3b067 24 = .ok (.invokespecial 56, 3) := by decide +kernel
theorem dJ2_getChar_3b067_27 : decode cJ2_getChar_3b067 27 = .ok (.athrow, 1) := by decide +kernel
theorem dJ2_getChar_3b067_28 : decode cJ2_getChar_3b067 28 = .ok (.iload_n 1, 1) := by decide +kernel
theorem dJ2_getChar_3b067_29 : decode cJ2_getChar_3b067 29 = .ok (.iconst 1, 1) := by decide +kernel
theorem dJ2_getChar_3b067_30 : decode cJ2_getChar_3b067 30 = .ok (.ishl, 1) := by decide +kernel
theorem dJ2_getChar_3b067_31 : decode cJ2_getChar_3b067 31 = .ok (.istore_n 1, 1) := by decide +kernel
theorem dJ2_getChar_3b067_32 : decode cJ2_getChar_3b067 32 = .ok (.aload_n 0, 1) := by decide +kernel
theorem dJ2_getChar_3b067_33 : decode cJ2_getChar_3b067 33 = .ok (.iload_n 1, 1) := by decide +kernel
theorem dJ2_getChar_3b067_34 : decode cJ2_getChar_3b067 34 = .ok (.iinc 1 1, 3) := by decide +kernel
theorem dJ2_getChar_3b067_37 : decode cJ2_getChar_3b067 37 = .ok (.baload, 1) := by decide +kernel
theorem dJ2_getChar_3b067_38 : decode cJ2_getChar_3b067 38 = .ok (.sipush 255, 3) := by decide +kernel
theorem dJ2_getChar_3b067_41 : decode cJ2_getChar_3b067 41 = .ok (.iand, 1) := by decide +kernel
