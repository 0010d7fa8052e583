theorem dX11_windDuty_108 : decode cX11_windDuty 108 = .ok (.getfield 149, 3) := by decide +kernel
theorem dX11_windDuty_111 : decode cX11_windDuty 111 = .ok (.invokevirtual 303, 3) := by decide +kernel
theorem dX11_windDuty_114 : decode cX11_windDuty 114 = .ok (.invokevirtual 307, 3) := by decide +kernel
theorem dX11_windDuty_117 : decode cX11_windDuty 117 = .ok (.invokevirtual 127, 3) := by decide +kernel
theorem dX11_windDuty_120 : decode cX11_windDuty 120 = .ok (.ireturn, 1) := by decide +kernel
theorem dX11_waits_0 : decode cX11_waits 0 = .ok (.aload_n 0, 1) := by decide +kernel
theorem dX11_waits_1 : decode cX11_waits 1 = .ok (.bipush 7, 2) := by decide +kernel
theorem dX11_waits_3 : decode cX11_waits 3 = .ok (.iload_n 1, 1) := by decide +kernel
theorem dX11_waits_4 : decode cX11_waits 4 = .ok (.invokevirtual 133, 3) := by decide +kernel
theorem dX11_waits_7 : decode cX11_waits 7 = .ok (.ifCond .ne 9, 3) := by decide +kernel
theorem dX11_waits_10 : decode cX11_waits 10 = .ok (.aload_n 0, 1) := by decide +kernel
theorem dX11_waits_11 : decode cX11_waits 11 = .ok (.iconst 1, 1) := by decide +kernel
theorem dX11_waits_12 : decode cX11_waits 12 = .ok (.invokevirtual 102, 3) := by decide +kernel
theorem dX11_waits_15 : decode cX11_waits 15 = .ok (.ireturn, 1) := by decide +kernel
theorem dX11_waits_16 : decode cX11_waits 16 = .ok (.iload_n 2, 1) := by decide +kernel
theorem dX11_waits_17 : decode cX11_waits 17 = .ok (.iconst 1, 1) := by decide +kernel
theorem dX11_waits_18 : decode cX11_waits 18 = .ok (.bipush 99, 2) := by decide +kernel
theorem dX11_waits_20 : decode cX11_waits 20 = .ok (.invokestatic 206, 3) := by decide +kernel
theorem dX11_waits_23 : decode cX11_waits 23 = .ok (.ifCond .ne 9, 3) := by decide +kernel
theorem dX11_waits_26 : decode cX11_waits 26 = .ok (.aload_n 0, 1) := by decide +kernel
theorem dX11_waits_27 : decode cX11_waits 27 = .ok (.iconst 2, 1) := by decide +kernel
theorem dX11_waits_28 : decode cX11_waits 28 = .ok (.invokevirtual 102, 3) := by decide +kernel
theorem dX11_waits_31 : decode cX11_waits 31 = .ok (.ireturn, 1) := by decide +kernel
theorem dX11_waits_32 : decode cX11_waits 32 = .ok (.aload_n 0, 1) := by decide +kernel
theorem dX11_waits_33 : decode cX11_waits 33 = .ok (.getfield 41, 3) := by decide +kernel
theorem dX11_waits_36 : decode cX11_waits 36 = .ok (.iload_n 1, 1) := by decide +kernel
theorem dX11_waits_37 : decode cX11_waits 37 = .ok (.invokevirtual 310, 3) := by decide +kernel
theorem dX11_waits_40 : decode cX11_waits 40 = .ok (.aload_n 0, 1) := by decide +kernel
theorem dX11_waits_41 : decode cX11_waits 41 = .ok (.aload_n 0, 1) := by decide +kernel
theorem dX11_waits_42 : decode cX11_waits 42 = .ok (.getfield 41, 3) := by decide +kernel
theorem dX11_waits_45 : decode cX11_waits 45 = .ok (.getfield 155, 3) := by decide +kernel
theorem dX11_waits_48 : decode cX11_waits 48 = .ok (.iload_n 1, 1) := by decide +kernel
theorem dX11_waits_49 : decode cX11_waits 49 = .ok (.aaload, 1) := by decide +kernel
theorem dX11_waits_50 : decode cX11_waits 50 = .ok (.iload_n 2, 1) := by decide +kernel
theorem dX11_waits_51 : decode cX11_waits 51 = .ok (.invokevirtual 313, 3) := by decide +kernel
theorem dX11_waits_54 : decode cX11_waits 54 = .ok (.aload_n 0, 1) := by decide +kernel
theorem dX11_waits_55 : decode cX11_waits 55 = .ok (.aload_n 0, 1) := by decide +kernel
theorem dX11_waits_56 : decode cX11_waits 56 = .ok (.getfield 41, 3) := by decide +kernel
theorem dX11_waits_59 : decode cX11_waits 59 = .ok (.getfield 155, 3) := by decide +kernel
theorem dX11_waits_62 : decode cX11_waits 62 = .ok (.iload_n 1, 1) := by decide +kernel
theorem dX11_waits_63 : decode cX11_waits 63 = .ok (.aaload, 1) := by decide +kernel
theorem dX11_waits_64 : decode cX11_waits 64 = .ok (.getfield 173, 3) := by decide +kernel
theorem dX11_waits_67 : decode cX11_waits 67 = .ok (.invokevirtual 127, 3) := by decide +kernel
theorem dX11_waits_70 : decode cX11_waits 70 = .ok (.ireturn, 1) := by decide +kernel
theorem dX11_go_0 : decode cX11_go 0 = .ok (.aload_n 0, 1) := by decide +kernel
theorem dX11_go_1 : decode cX11_go 1 = .ok (.bipush 7, 2) := by decide +kernel
theorem dX11_go_3 : decode cX11_go 3 = .ok (.iload_n 1, 1) := by decide +kernel
theorem dX11_go_4 : decode cX11_go 4 = .ok (.invokevirtual 133, 3) := by decide +kernel
theorem dX11_go_7 : decode cX11_go 7 = .ok (.ifCond .eq 12, 3) := by decide +kernel
theorem dX11_go_10 : decode cX11_go 10 = .ok (.aload_n 0, 1) := by decide +kernel
theorem dX11_go_11 : decode cX11_go 11 = .ok (.iconst 4, 1) := by decide +kernel
theorem dX11_go_12 : decode cX11_go 12 = .ok (.iload_n 2, 1) := by decide +kernel
theorem dX11_go_13 : decode cX11_go 13 = .ok (.invokevirtual 133, 3) := by decide +kernel
theorem dX11_go_16 : decode cX11_go 16 = .ok (.ifCond .ne 9, 3) := by decide +kernel
theorem dX11_go_19 : decode cX11_go 19 = .ok (.aload_n 0, 1) := by decide +kernel
theorem dX11_go_20 : decode cX11_go 20 = .ok (.iconst 1, 1) := by decide +kernel
theorem dX11_go_21 : decode cX11_go 21 = .ok (.invokevirtual 102, 3) := by decide +kernel
theorem dX11_go_24 : decode cX11_go 24 = .ok (.ireturn, 1) := by decide +kernel
theorem dX11_go_25 : decode cX11_go 25 = .ok (.aload_n 0, 1) := by decide +kernel
theorem dX11_go_26 : decode cX11_go 26 = .ok (.getfield 41, 3) := by decide +kernel
theorem dX11_go_29 : decode cX11_go 29 = .ok (.getfield 155, 3) := by decide +kernel
theorem dX11_go_32 : decode cX11_go 32 = .ok (.iload_n 1, 1) := by decide +kernel
theorem dX11_go_33 : decode cX11_go 33 = .ok (.aaload, 1) := by decide +kernel
theorem dX11_go_34 : decode cX11_go 34 = .ok (.astore_n 3, 1) := by decide +kernel
theorem dX11_go_35 : decode cX11_go 35 = .ok (.aload_n 0, 1) := by decide +kernel
theorem dX11_go_36 : decode cX11_go 36 = .ok (.getfield 16, 3) := by decide +kernel
theorem dX11_go_39 : decode cX11_go 39 = .ok (.getfield 176, 3) := by decide +kernel
theorem dX11_go_42 : decode cX11_go 42 = .ok (.aload_n 3, 1) := by decide +kernel
theorem dX11_go_43 : decode cX11_go 43 = .ok (.getfield 165, 3) := by decide +kernel
theorem dX11_go_46 : decode cX11_go 46 = .ok (.aaload, 1) := by decide +kernel
theorem dX11_go_47 : decode cX11_go 47 = .ok (.iload_n 2, 1) := by decide +kernel
theorem dX11_go_48 : decode cX11_go 48 = .ok (.iaload, 1) := by decide +kernel
theorem dX11_go_49 : decode cX11_go 49 = .ok (.istore 4, 2) := by decide +kernel
theorem dX11_go_51 : decode cX11_go 51 = .ok (.iload 4, 2) := by decide +kernel
theorem dX11_go_53 : decode cX11_go 53 = .ok (.ifCond .ne 9, 3) := by decide +kernel
theorem dX11_go_56 : decode cX11_go 56 = .ok (.aload_n 0, 1) := by decide +kernel
theorem dX11_go_57 : decode cX11_go 57 = .ok (.iconst 5, 1) := by decide +kernel
theorem dX11_go_58 : decode cX11_go 58 = .ok (.invokevirtual 102, 3) := by decide +kernel
theorem dX11_go_61 : decode cX11_go 61 = .ok (.ireturn, 1) := by decide +kernel
theorem dX11_go_62 : decode cX11_go 62 = .ok (.aload_n 0, 1) := by decide +kernel
theorem dX11_go_63 : decode cX11_go 63 = .ok (.getfield 41, 3) := by decide +kernel
theorem dX11_go_66 : decode cX11_go 66 = .ok (.iload_n 1, 1) := by decide +kernel
theorem dX11_go_67 : decode cX11_go 67 = .ok (.invokevirtual 310, 3) := by decide +kernel
theorem dX11_go_70 : decode cX11_go 70 = .ok (.aload_n 0, 1) := by decide +kernel
theorem dX11_go_71 : decode cX11_go 71 = .ok (.aload_n 3, 1) := by decide +kernel
theorem dX11_go_72 : decode cX11_go 72 = .ok (.iload 4, 2) := by decide +kernel
theorem dX11_go_74 : decode cX11_go 74 = .ok (.invokevirtual 313, 3) := by decide +kernel
theorem dX11_go_77 : decode cX11_go 77 = .ok (.aload_n 3, 1) := by decide +kernel
theorem dX11_go_78 : decode cX11_go 78 = .ok (.iload_n 2, 1) := by decide +kernel
theorem dX11_go_79 : decode cX11_go 79 = .ok (.putfield 165, 3) := by decide +kernel
theorem dX11_go_82 : decode cX11_go 82 = .ok (.aload_n 0, 1) := by decide +kernel
theorem dX11_go_83 : decode cX11_go 83 = .ok (.iload_n 1, 1) := by decide +kernel
theorem dX11_go_84 : decode cX11_go 84 = .ok (.iload_n 2, 1) := by decide +kernel
theorem dX11_go_85 : decode cX11_go 85 = .ok (.iconst 0, 1) := by decide +kernel
theorem dX11_go_86 : decode cX11_go 86 = .ok (.invokevirtual 202, 3) := by decide +kernel
theorem dX11_go_89 : decode cX11_go 89 = .ok (.istore 5, 2) := by decide +kernel
theorem dX11_go_91 : decode cX11_go 91 = .ok (.aload_n 3, 1) := by decide +kernel
theorem dX11_go_92 : decode cX11_go 92 = .ok (.dup, 1) := by decide +kernel
theorem dX11_go_93 : decode cX11_go 93 = .ok (.getfield 170, 3) := by decide +kernel
theorem dX11_go_96 : decode cX11_go 96 = .ok (.iload 5, 2) := by decide +kernel
theorem dX11_go_98 : decode cX11_go 98 = .ok (.iadd, 1) := by decide +kernel
theorem dX11_go_99 : decode cX11_go 99 = .ok (.putfield 170, 3) := by decide +kernel
theorem dX11_go_102 : decode cX11_go 102 = .ok (.aload_n 0, 1) := by decide +kernel
theorem dX11_go_103 : decode cX11_go 103 = .ok (.iload 5, 2) := by decide +kernel
theorem dX11_go_105 : decode cX11_go 105 = .ok (.invokevirtual 127, 3) := by decide +kernel
theorem dX11_go_108 : decode cX11_go 108 = .ok (.ireturn, 1) := by decide +kernel
theorem dX11_spray_0 : decode cX11_spray 0 = .ok (.aload_n 0, 1) := by decide +kernel
theorem dX11_spray_1 : decode cX11_spray 1 = .ok (.bipush 7, 2) := by decide +kernel
theorem dX11_spray_3 : decode cX11_spray 3 = .ok (.iload_n 1, 1) := by decide +kernel
theorem dX11_spray_4 : decode cX11_spray 4 = .ok (.invokevirtual 133, 3) := by decide +kernel
theorem dX11_spray_7 : decode cX11_spray 7 = .ok (.ifCond .eq 12, 3) := by decide +kernel
theorem dX11_spray_10 : decode cX11_spray 10 = .ok (.aload_n 0, 1) := by decide +kernel
theorem dX11_spray_11 : decode cX11_spray 11 = .ok (.iconst 2, 1) := by decide +kernel
theorem dX11_spray_12 : decode cX11_spray 12 = .ok (.iload_n 2, 1) := by decide +kernel
theorem dX11_spray_13 : decode cX11_spray 13 = .ok (.invokevirtual 133, 3) := by decide +kernel
theorem dX11_spray_16 : decode cX11_spray 16 = .ok (.ifCond .ne 9, 3) := by decide +kernel
theorem dX11_spray_19 : decode cX11_spray 19 = .ok (.aload_n 0, 1) := by decide +kernel
theorem dX11_spray_20 : decode cX11_spray 20 = .ok (.iconst 1, 1) := by decide +kernel
theorem dX11_spray_21 : decode cX11_spray 21 = .ok (.invokevirtual 317, 3) := by decide +kernel
theorem dX11_spray_24 : decode cX11_spray 24 = .ok (.ireturn, 1) := by decide +kernel
theorem dX11_spray_25 : decode cX11_spray 25 = .ok (.iload_n 3, 1) := by decide +kernel
theorem dX11_spray_26 : decode cX11_spray 26 = .ok (.iconst 0, 1) := by decide +kernel
theorem dX11_spray_27 : decode cX11_spray 27 = .ok (.bipush 99, 2) := by decide +kernel
theorem dX11_spray_29 : decode cX11_spray 29 = .ok (.invokestatic 206, 3) := by decide +kernel
theorem dX11_spray_32 : decode cX11_spray 32 = .ok (.ifCond .ne 9, 3) := by decide +kernel
theorem dX11_spray_35 : decode cX11_spray 35 = .ok (.aload_n 0, 1) := by decide +kernel
theorem dX11_spray_36 : decode cX11_spray 36 = .ok (.iconst 2, 1) := by decide +kernel
theorem dX11_spray_37 : decode cX11_spray 37 = .ok (.invokevirtual 317, 3) := by decide +kernel
theorem dX11_spray_40 : decode cX11_spray 40 = .ok (.ireturn, 1) := by decide +kernel
theorem dX11_spray_41 : decode cX11_spray 41 = .ok (.aload_n 0, 1) := by decide +kernel
theorem dX11_spray_42 : decode cX11_spray 42 = .ok (.getfield 41, 3) := by decide +kernel
theorem dX11_spray_45 : decode cX11_spray 45 = .ok (.getfield 155, 3) := by decide +kernel
theorem dX11_spray_48 : decode cX11_spray 48 = .ok (.iload_n 1, 1) := by decide +kernel
theorem dX11_spray_49 : decode cX11_spray 49 = .ok (.aaload, 1) := by decide +kernel
theorem dX11_spray_50 : decode cX11_spray 50 = .ok (.astore 4, 2) := by decide +kernel
theorem dX11_spray_52 : decode cX11_spray 52 = .ok (.aload 4, 2) := by decide +kernel
theorem dX11_spray_54 : decode cX11_spray 54 = .ok (.getfield 183, 3) := by decide +kernel
theorem dX11_spray_57 : decode cX11_spray 57 = .ok (.iload_n 2, 1) := by decide +kernel
theorem dX11_spray_58 : decode cX11_spray 58 = .ok (.iaload, 1) := by decide +kernel
theorem dX11_spray_59 : decode cX11_spray 59 = .ok (.iconst 2, 1) := by decide +kernel
theorem dX11_spray_60 : decode cX11_spray 60 = .ok (.iload_n 3, 1) := by decide +kernel
theorem dX11_spray_61 : decode cX11_spray 61 = .ok (.imul, 1) := by decide +kernel
theorem dX11_spray_62 : decode cX11_spray 62 = .ok (.if_icmp .ne 9, 3) := by decide +kernel
theorem dX11_spray_65 : decode cX11_spray 65 = .ok (.aload_n 0, 1) := by decide +kernel
theorem dX11_spray_66 : decode cX11_spray 66 = .ok (.iconst 5, 1) := by decide +kernel
theorem dX11_spray_67 : decode cX11_spray 67 = .ok (.invokevirtual 317, 3) := by decide +kernel
theorem dX11_spray_70 : decode cX11_spray 70 = .ok (.ireturn, 1) := by decide +kernel
theorem dX11_spray_71 : decode cX11_spray 71 = .ok (.aload_n 0, 1) := by decide +kernel
theorem dX11_spray_72 : decode cX11_spray 72 = .ok (.getfield 41, 3) := by decide +kernel
theorem dX11_spray_75 : decode cX11_spray 75 = .ok (.iload_n 1, 1) := by decide +kernel
theorem dX11_spray_76 : decode cX11_spray 76 = .ok (.invokevirtual 310, 3) := by decide +kernel
theorem dX11_spray_79 : decode cX11_spray 79 = .ok (.aload 4, 2) := by decide +kernel
theorem dX11_spray_81 : decode cX11_spray 81 = .ok (.getfield 183, 3) := by decide +kernel
theorem dX11_spray_84 : decode cX11_spray 84 = .ok (.iload_n 2, 1) := by decide +kernel
theorem dX11_spray_85 : decode cX11_spray 85 = .ok (.iconst 2, 1) := by decide +kernel
theorem dX11_spray_86 : decode cX11_spray 86 = .ok (.iload_n 3, 1) := by decide +kernel
theorem dX11_spray_87 : decode cX11_spray 87 = .ok (.imul, 1) := by decide +kernel
theorem dX11_spray_88 : decode cX11_spray 88 = .ok (.iastore, 1) := by decide +kernel
theorem dX11_spray_89 : decode cX11_spray 89 = .ok (.aload_n 0, 1) := by decide +kernel
theorem dX11_spray_90 : decode cX11_spray 90 = .ok (.invokevirtual 320, 3) := by decide +kernel
theorem dX11_spray_93 : decode cX11_spray 93 = .ok (.ireturn, 1) := by decide +kernel
theorem dX11_wash_0 : decode cX11_wash 0 = .ok (.aload_n 0, 1) := by decide +kernel
theorem dX11_wash_1 : decode cX11_wash 1 = .ok (.bipush 7, 2) := by decide +kernel
theorem dX11_wash_3 : decode cX11_wash 3 = .ok (.iload_n 1, 1) := by decide +kernel
theorem dX11_wash_4 : decode cX11_wash 4 = .ok (.invokevirtual 133, 3) := by decide +kernel
theorem dX11_wash_7 : decode cX11_wash 7 = .ok (.ifCond .ne 9, 3) := by decide +kernel
theorem dX11_wash_10 : decode cX11_wash 10 = .ok (.aload_n 0, 1) := by decide +kernel
theorem dX11_wash_11 : decode cX11_wash 11 = .ok (.iconst 1, 1) := by decide +kernel
theorem dX11_wash_12 : decode cX11_wash 12 = .ok (.invokevirtual 317, 3) := by decide +kernel
theorem dX11_wash_15 : decode cX11_wash 15 = .ok (.ireturn, 1) := by decide +kernel
theorem dX11_wash_16 : decode cX11_wash 16 = .ok (.aload_n 0, 1) := by decide +kernel
theorem dX11_wash_17 : decode cX11_wash 17 = .ok (.getfield 41, 3) := by decide +kernel
theorem dX11_wash_20 : decode cX11_wash 20 = .ok (.getfield 155, 3) := by decide +kernel
theorem dX11_wash_23 : decode cX11_wash 23 = .ok (.iload_n 1, 1) := by decide +kernel
theorem dX11_wash_24 : decode cX11_wash 24 = .ok (.aaload, 1) := by decide +kernel
theorem dX11_wash_25 : decode cX11_wash 25 = .ok (.astore_n 2, 1) := by decide +kernel
theorem dX11_wash_26 : decode cX11_wash 26 = .ok (.aload_n 2, 1) := by decide +kernel
theorem dX11_wash_27 : decode cX11_wash 27 = .ok (.invokevirtual 323, 3) := by decide +kernel
theorem dX11_wash_30 : decode cX11_wash 30 = .ok (.ifCond .ne 9, 3) := by decide +kernel
theorem dX11_wash_33 : decode cX11_wash 33 = .ok (.aload_n 0, 1) := by decide +kernel
theorem dX11_wash_34 : decode cX11_wash 34 = .ok (.iconst 5, 1) := by decide +kernel
theorem dX11_wash_35 : decode cX11_wash 35 = .ok (.invokevirtual 317, 3) := by decide +kernel
theorem dX11_wash_38 : decode cX11_wash 38 = .ok (.ireturn, 1) := by decide +kernel
theorem dX11_wash_39 : decode cX11_wash 39 = .ok (.aload_n 0, 1) := by decide +kernel
theorem dX11_wash_40 : decode cX11_wash 40 = .ok (.getfield 41, 3) := by decide +kernel
theorem dX11_wash_43 : decode cX11_wash 43 = .ok (.iload_n 1, 1) := by decide +kernel
theorem dX11_wash_44 : decode cX11_wash 44 = .ok (.invokevirtual 310, 3) := by decide +kernel
theorem dX11_wash_47 : decode cX11_wash 47 = .ok (.iconst 0, 1) := by decide +kernel
theorem dX11_wash_48 : decode cX11_wash 48 = .ok (.istore_n 3, 1) := by decide +kernel
theorem dX11_wash_49 : decode cX11_wash 49 = .ok (.iload_n 3, 1) := by decide +kernel
theorem dX11_wash_50 : decode cX11_wash 50 = .ok (.bipush 6, 2) := by decide +kernel
theorem dX11_wash_52 : decode cX11_wash 52 = .ok (.if_icmp .ge 23, 3) := by decide +kernel
theorem dX11_wash_55 : decode cX11_wash 55 = .ok (.aload_n 2, 1) := by decide +kernel
theorem dX11_wash_56 : decode cX11_wash 56 = .ok (.getfield 183, 3) := by decide +kernel
theorem dX11_wash_59 : decode cX11_wash 59 = .ok (.iload_n 3, 1) := by decide +kernel
theorem dX11_wash_60 : decode cX11_wash 60 = .ok (.aload_n 2, 1) := by decide +kernel
theorem dX11_wash_61 : decode cX11_wash 61 = .ok (.getfield 183, 3) := by decide +kernel
theorem dX11_wash_64 : decode cX11_wash 64 = .ok (.iload_n 3, 1) := by decide +kernel
theorem dX11_wash_65 : decode cX11_wash 65 = .ok (.iaload, 1) := by decide +kernel
theorem dX11_wash_66 : decode cX11_wash 66 = .ok (.iconst 2, 1) := by decide +kernel
theorem dX11_wash_67 : decode cX11_wash 67 = .ok (.idiv, 1) := by decide +kernel
theorem dX11_wash_68 : decode cX11_wash 68 = .ok (.iastore, 1) := by decide +kernel
theorem dX11_wash_69 : decode cX11_wash 69 = .ok (.iinc 3 1, 3) := by decide +kernel
theorem dX11_wash_72 : decode cX11_wash 72 = .ok (.goto (-23), 3) := by decide +kernel
theorem dX11_wash_75 : decode cX11_wash 75 = .ok (.aload_n 0, 1) := by decide +kernel
theorem dX11_wash_76 : decode cX11_wash 76 = .ok (.invokevirtual 320, 3) := by decide +kernel
theorem dX11_wash_79 : decode cX11_wash 79 = .ok (.ireturn, 1) := by decide +kernel
theorem dX11_undo_0 : decode cX11_undo 0 = .ok (.aload_n 0, 1) := by decide +kernel
theorem dX11_undo_1 : decode cX11_undo 1 = .ok (.getfield 41, 3) := by decide +kernel
theorem dX11_undo_4 : decode cX11_undo 4 = .ok (.invokevirtual 326, 3) := by decide +kernel
theorem dX11_undo_7 : decode cX11_undo 7 = .ok (.ifCond .ne 10, 3) := by decide +kernel
theorem dX11_undo_10 : decode cX11_undo 10 = .ok (.aload_n 0, 1) := by decide +kernel
theorem dX11_undo_11 : decode cX11_undo 11 = .ok (.bipush 6, 2) := by decide +kernel
theorem dX11_undo_13 : decode cX11_undo 13 = .ok (.invokevirtual 317, 3) := by decide +kernel
theorem dX11_undo_16 : decode cX11_undo 16 = .ok (.ireturn, 1) := by decide +kernel
theorem dX11_undo_17 : decode cX11_undo 17 = .ok (.aload_n 0, 1) := by decide +kernel
theorem dX11_undo_18 : decode cX11_undo 18 = .ok (.invokevirtual 320, 3) := by decide +kernel
theorem dX11_undo_21 : decode cX11_undo 21 = .ok (.ireturn, 1) := by decide +kernel
theorem dX11_mark_0 : decode cX11_mark 0 = .ok (.aload_n 0, 1) := by decide +kernel
theorem dX11_mark_1 : decode cX11_mark 1 = .ok (.getfield 16, 3) := by decide +kernel
theorem dX11_mark_4 : decode cX11_mark 4 = .ok (.invokevirtual 227, 3) := by decide +kernel
theorem dX11_mark_7 : decode cX11_mark 7 = .ok (.ifCond .ne 9, 3) := by decide +kernel
theorem dX11_mark_10 : decode cX11_mark 10 = .ok (.aload_n 0, 1) := by decide +kernel
theorem dX11_mark_11 : decode cX11_mark 11 = .ok (.iconst 1, 1) := by decide +kernel
theorem dX11_mark_12 : decode cX11_mark 12 = .ok (.invokevirtual 102, 3) := by decide +kernel
theorem dX11_mark_15 : decode cX11_mark 15 = .ok (.ireturn, 1) := by decide +kernel
theorem dX11_mark_16 : decode cX11_mark 16 = .ok (.aload_n 0, 1) := by decide +kernel
theorem dX11_mark_17 : decode cX11_mark 17 = .ok (.getfield 41, 3) := by decide +kernel
theorem dX11_mark_20 : decode cX11_mark 20 = .ok (.invokevirtual 329, 3) := by decide +kernel
theorem dX11_mark_23 : decode cX11_mark 23 = .ok (.istore_n 1, 1) := by decide +kernel
theorem dX11_mark_24 : decode cX11_mark 24 = .ok (.iload_n 1, 1) := by decide +kernel
theorem dX11_mark_25 : decode cX11_mark 25 = .ok (.iconst (-1), 1) := by decide +kernel
theorem dX11_mark_26 : decode cX11_mark 26 = .ok (.if_icmp .ne 11, 3) := by decide +kernel
theorem dX11_mark_29 : decode cX11_mark 29 = .ok (.aload_n 0, 1) := by decide +kernel
theorem dX11_mark_30 : decode cX11_mark 30 = .ok (.iconst 3, 1) := by decide +kernel
theorem dX11_mark_31 : decode cX11_mark 31 = .ok (.invokevirtual 102, 3) := by decide +kernel
theorem dX11_mark_34 : decode cX11_mark 34 = .ok (.goto 8, 3) := by decide +kernel
theorem dX11_mark_37 : decode cX11_mark 37 = .ok (.aload_n 0, 1) := by decide +kernel
theorem dX11_mark_38 : decode cX11_mark 38 = .ok (.iload_n 1, 1) := by decide +kernel
theorem dX11_mark_39 : decode cX11_mark 39 = .ok (.invokevirtual 127, 3) := by decide +kernel
theorem dX11_mark_42 : decode cX11_mark 42 = .ok (.ireturn, 1) := by decide +kernel
theorem dX11_back_0 : decode cX11_back 0 = .ok (.aload_n 0, 1) := by decide +kernel
theorem dX11_back_1 : decode cX11_back 1 = .ok (.getfield 41, 3) := by decide +kernel
theorem dX11_back_4 : decode cX11_back 4 = .ok (.iload_n 1, 1) := by decide +kernel
theorem dX11_back_5 : decode cX11_back 5 = .ok (.invokevirtual 332, 3) := by decide +kernel
theorem dX11_back_8 : decode cX11_back 8 = .ok (.ifCond .ne 9, 3) := by decide +kernel
theorem dX11_back_11 : decode cX11_back 11 = .ok (.aload_n 0, 1) := by decide +kernel
theorem dX11_back_12 : decode cX11_back 12 = .ok (.iconst 1, 1) := by decide +kernel
theorem dX11_back_13 : decode cX11_back 13 = .ok (.invokevirtual 317, 3) := by decide +kernel
theorem dX11_back_16 : decode cX11_back 16 = .ok (.ireturn, 1) := by decide +kernel
theorem dX11_back_17 : decode cX11_back 17 = .ok (.aload_n 0, 1) := by decide +kernel
theorem dX11_back_18 : decode cX11_back 18 = .ok (.invokevirtual 320, 3) := by decide +kernel
theorem dX11_back_21 : decode cX11_back 21 = .ok (.ireturn, 1) := by decide +kernel
theorem dX11_led_0 : decode cX11_led 0 = .ok (.iconst 0, 1) := by decide +kernel
theorem dX11_led_1 : decode cX11_led 1 = .ok (.istore_n 2, 1) := by decide +kernel
theorem dX11_led_2 : decode cX11_led 2 = .ok (.iconst 0, 1) := by decide +kernel
theorem dX11_led_3 : decode cX11_led 3 = .ok (.istore_n 3, 1) := by decide +kernel
theorem dX11_led_4 : decode cX11_led 4 = .ok (.iload_n 3, 1) := by decide +kernel
theorem dX11_led_5 : decode cX11_led 5 = .ok (.aload_n 0, 1) := by decide +kernel
theorem dX11_led_6 : decode cX11_led 6 = .ok (.getfield 16, 3) := by decide +kernel
theorem dX11_led_9 : decode cX11_led 9 = .ok (.getfield 124, 3) := by decide +kernel
theorem dX11_led_12 : decode cX11_led 12 = .ok (.bipush 7, 2) := by decide +kernel
theorem dX11_led_14 : decode cX11_led 14 = .ok (.iaload, 1) := by decide +kernel
theorem dX11_led_15 : decode cX11_led 15 = .ok (.if_icmp .ge 40, 3) := by decide +kernel
theorem dX11_led_18 : decode cX11_led 18 = .ok (.aload_n 0, 1) := by decide +kernel
theorem dX11_led_19 : decode cX11_led 19 = .ok (.iload_n 3, 1) := by decide +kernel
theorem dX11_led_20 : decode cX11_led 20 = .ok (.aload_n 0, 1) := by decide +kernel
theorem dX11_led_21 : decode cX11_led 21 = .ok (.getfield 41, 3) := by decide +kernel
theorem dX11_led_24 : decode cX11_led 24 = .ok (.getfield 155, 3) := by decide +kernel
theorem dX11_led_27 : decode cX11_led 27 = .ok (.iload_n 3, 1) := by decide +kernel
theorem dX11_led_28 : decode cX11_led 28 = .ok (.aaload, 1) := by decide +kernel
theorem dX11_led_29 : decode cX11_led 29 = .ok (.getfield 165, 3) := by decide +kernel
theorem dX11_led_32 : decode cX11_led 32 = .ok (.iconst 0, 1) := by decide +kernel
theorem dX11_led_33 : decode cX11_led 33 = .ok (.invokevirtual 202, 3) := by decide +kernel
theorem dX11_led_36 : decode cX11_led 36 = .ok (.ifCond .le 13, 3) := by decide +kernel
theorem dX11_led_39 : decode cX11_led 39 = .ok (.iload_n 2, 1) := by decide +kernel
theorem dX11_led_40 : decode cX11_led 40 = .ok (.iload_n 1, 1) := by decide +kernel
theorem dX11_led_41 : decode cX11_led 41 = .ok (.if_icmp .ne 5, 3) := by decide +kernel
theorem dX11_led_44 : decode cX11_led 44 = .ok (.iload_n 3, 1) := by decide +kernel
theorem dX11_led_45 : decode cX11_led 45 = .ok (.ireturn, 1) := by decide +kernel
theorem dX11_led_46 : decode cX11_led 46 = .ok (.iinc 2 1, 3) := by decide +kernel
theorem dX11_led_49 : decode cX11_led 49 = .ok (.iinc 3 1, 3) := by decide +kernel
theorem dX11_led_52 : decode cX11_led 52 = .ok (.goto (-48), 3) := by decide +kernel
theorem dX11_led_55 : decode cX11_led 55 = .ok (.new 335, 3) := by decide +kernel
theorem dX11_led_58 : decode cX11_led 58 = .ok (.dup, 1) := by decide +kernel
theorem dX11_led_59 : decode cX11_led 59 = .ok (.invokespecial 337, 3) := by decide +kernel
theorem dX11_led_62 : decode cX11_led 62 = .ok (.athrow, 1) := by decide +kernel
theorem dX11_size_0 : decode cX11_size 0 = .ok (.iload_n 1, 1) := by decide +kernel
theorem dX11_size_1 : decode cX11_size 1 = .ok (.iconst 0, 1) := by decide +kernel
theorem dX11_size_2 : decode cX11_size 2 = .ok (.bipush 10, 2) := by decide +kernel
theorem dX11_size_4 : decode cX11_size 4 = .ok (.invokestatic 206, 3) := by decide +kernel
theorem dX11_size_7 : decode cX11_size 7 = .ok (.ifCond .eq 13, 3) := by decide +kernel
theorem dX11_size_10 : decode cX11_size 10 = .ok (.aload_n 0, 1) := by decide +kernel
theorem dX11_size_11 : decode cX11_size 11 = .ok (.getfield 16, 3) := by decide +kernel
theorem dX11_size_14 : decode cX11_size 14 = .ok (.getfield 124, 3) := by decide +kernel
theorem dX11_size_17 : decode cX11_size 17 = .ok (.iload_n 1, 1) := by decide +kernel
theorem dX11_size_18 : decode cX11_size 18 = .ok (.iaload, 1) := by decide +kernel
theorem dX11_size_19 : decode cX11_size 19 = .ok (.ireturn, 1) := by decide +kernel
theorem dX11_size_20 : decode cX11_size 20 = .ok (.iload_n 1, 1) := by decide +kernel
theorem dX11_size_21 : decode cX11_size 21 = .ok (.tableswitch 48 11 13 #[27, 35, 43], 27) := by decide +kernel
theorem dX11_size_48 : decode cX11_size 48 = .ok (.aload_n 0, 1) := by decide +kernel
theorem dX11_size_49 : decode cX11_size 49 = .ok (.getfield 41, 3) := by decide +kernel
theorem dX11_size_52 : decode cX11_size 52 = .ok (.getfield 338, 3) := by decide +kernel
theorem dX11_size_55 : decode cX11_size 55 = .ok (.ireturn, 1) := by decide +kernel
theorem dX11_size_56 : decode cX11_size 56 = .ok (.aload_n 0, 1) := by decide +kernel
theorem dX11_size_57 : decode cX11_size 57 = .ok (.getfield 41, 3) := by decide +kernel
theorem dX11_size_60 : decode cX11_size 60 = .ok (.getfield 341, 3) := by decide +kernel
theorem dX11_size_63 : decode cX11_size 63 = .ok (.ireturn, 1) := by decide +kernel
theorem dX11_size_64 : decode cX11_size 64 = .ok (.aload_n 0, 1) := by decide +kernel
theorem dX11_size_65 : decode cX11_size 65 = .ok (.getfield 95, 3) := by decide +kernel
theorem dX11_size_68 : decode cX11_size 68 = .ok (.ireturn, 1) := by decide +kernel
theorem dX11_size_69 : decode cX11_size 69 = .ok (.iconst (-1), 1) := by decide +kernel
theorem dX11_size_70 : decode cX11_size 70 = .ok (.ireturn, 1) := by decide +kernel
theorem dX11_trouble_0 : decode cX11_trouble 0 = .ok (.aload_n 0, 1) := by decide +kernel
theorem dX11_trouble_1 : decode cX11_trouble 1 = .ok (.getfield 130, 3) := by decide +kernel
theorem dX11_trouble_4 : decode cX11_trouble 4 = .ok (.ireturn, 1) := by decide +kernel
theorem dX11_answer_0 : decode cX11_answer 0 = .ok (.aload_n 0, 1) := by decide +kernel
theorem dX11_answer_1 : decode cX11_answer 1 = .ok (.iconst 0, 1) := by decide +kernel
theorem dX11_answer_2 : decode cX11_answer 2 = .ok (.putfield 130, 3) := by decide +kernel
theorem dX11_answer_5 : decode cX11_answer 5 = .ok (.iload_n 1, 1) := by decide +kernel
theorem dX11_answer_6 : decode cX11_answer 6 = .ok (.ireturn, 1) := by decide +kernel
theorem dX11_refuse_0 : decode cX11_refuse 0 = .ok (.aload_n 0, 1) := by decide +kernel
theorem dX11_refuse_1 : decode cX11_refuse 1 = .ok (.iload_n 1, 1) := by decide +kernel
theorem dX11_refuse_2 : decode cX11_refuse 2 = .ok (.putfield 130, 3) := by decide +kernel
theorem dX11_refuse_5 : decode cX11_refuse 5 = .ok (.iconst (-1), 1) := by decide +kernel
theorem dX11_refuse_6 : decode cX11_refuse 6 = .ok (.ireturn, 1) := by decide +kernel
theorem dX11_agree_0 : decode cX11_agree 0 = .ok (.aload_n 0, 1) := by decide +kernel
theorem dX11_agree_1 : decode cX11_agree 1 = .ok (.iconst 0, 1) := by decide +kernel
theorem dX11_agree_2 : decode cX11_agree 2 = .ok (.putfield 130, 3) := by decide +kernel
theorem dX11_agree_5 : decode cX11_agree 5 = .ok (.iconst 1, 1) := by decide +kernel
theorem dX11_agree_6 : decode cX11_agree 6 = .ok (.ireturn, 1) := by decide +kernel
theorem dX11_deny_0 : decode cX11_deny 0 = .ok (.aload_n 0, 1) := by decide +kernel
theorem dX11_deny_1 : decode cX11_deny 1 = .ok (.iload_n 1, 1) := by decide +kernel
theorem dX11_deny_2 : decode cX11_deny 2 = .ok (.putfield 130, 3) := by decide +kernel
theorem dX11_deny_5 : decode cX11_deny 5 = .ok (.iconst 0, 1) := by decide +kernel
theorem dX11_deny_6 : decode cX11_deny 6 = .ok (.ireturn, 1) := by decide +kernel
theorem dX11_isOne_0 : decode cX11_isOne 0 = .ok (.iload_n 2, 1) := by decide +kernel
theorem dX11_isOne_1 : decode cX11_isOne 1 = .ok (.ifCond .lt 20, 3) := by decide +kernel
theorem dX11_isOne_4 : decode cX11_isOne 4 = .ok (.iload_n 2, 1) := by decide +kernel
theorem dX11_isOne_5 : decode cX11_isOne 5 = .ok (.aload_n 0, 1) := by decide +kernel
theorem dX11_isOne_6 : decode cX11_isOne 6 = .ok (.getfield 16, 3) := by decide +kernel
theorem dX11_isOne_9 : decode cX11_isOne 9 = .ok (.getfield 124, 3) := by decide +kernel
theorem dX11_isOne_12 : decode cX11_isOne 12 = .ok (.iload_n 1, 1) := by decide +kernel
theorem dX11_isOne_13 : decode cX11_isOne 13 = .ok (.iaload, 1) := by decide +kernel
theorem dX11_isOne_14 : decode cX11_isOne 14 = .ok (.if_icmp .ge 7, 3) := by decide +kernel
theorem dX11_isOne_17 : decode cX11_isOne 17 = .ok (.iconst 1, 1) := by decide +kernel
theorem dX11_isOne_18 : decode cX11_isOne 18 = .ok (.goto 4, 3) := by decide +kernel
theorem dX11_isOne_21 : decode cX11_isOne 21 = .ok (.iconst 0, 1) := by decide +kernel
theorem dX11_isOne_22 : decode cX11_isOne 22 = .ok (.ireturn, 1) := by decide +kernel
theorem dX11_isWithin_0 : decode cX11_isWithin 0 = .ok (.iload_n 0, 1) := by decide +kernel
theorem dX11_isWithin_1 : decode cX11_isWithin 1 = .ok (.iload_n 1, 1) := by decide +kernel
theorem dX11_isWithin_2 : decode cX11_isWithin 2 = .ok (.if_icmp .lt 12, 3) := by decide +kernel
theorem dX11_isWithin_5 : decode cX11_isWithin 5 = .ok (.iload_n 0, 1) := by decide +kernel
theorem dX11_isWithin_6 : decode cX11_isWithin 6 = .ok (.iload_n 2, 1) := by decide +kernel
theorem dX11_isWithin_7 : decode cX11_isWithin 7 = .ok (.if_icmp .gt 7, 3) := by decide +kernel
theorem dX11_isWithin_10 : decode cX11_isWithin 10 = .ok (.iconst 1, 1) := by decide +kernel
theorem dX11_isWithin_11 : decode cX11_isWithin 11 = .ok (.goto 4, 3) := by decide +kernel
theorem dX11_isWithin_14 : decode cX11_isWithin 14 = .ok (.iconst 0, 1) := by decide +kernel
theorem dX11_isWithin_15 : decode cX11_isWithin 15 = .ok (.ireturn, 1) := by decide +kernel
theorem dX11_whyNotBehind_0 : decode cX11_whyNotBehind 0 = .ok (.aload_n 0, 1) := by decide +kernel
theorem dX11_whyNotBehind_1 : decode cX11_whyNotBehind 1 = .ok (.bipush 7, 2) := by decide +kernel
theorem dX11_whyNotBehind_3 : decode cX11_whyNotBehind 3 = .ok (.iload_n 1, 1) := by decide +kernel
theorem dX11_whyNotBehind_4 : decode cX11_whyNotBehind 4 = .ok (.invokevirtual 133, 3) := by decide +kernel
theorem dX11_whyNotBehind_7 : decode cX11_whyNotBehind 7 = .ok (.ifCond .eq 12, 3) := by decide +kernel
theorem dX11_whyNotBehind_10 : decode cX11_whyNotBehind 10 = .ok (.aload_n 0, 1) := by decide +kernel
theorem dX11_whyNotBehind_11 : decode cX11_whyNotBehind 11 = .ok (.iload_n 2, 1) := by decide +kernel
theorem dX11_whyNotBehind_12 : decode cX11_whyNotBehind 12 = .ok (.iload_n 3, 1) := by decide +kernel
theorem dX11_whyNotBehind_13 : decode cX11_whyNotBehind 13 = .ok (.invokevirtual 133, 3) := by decide +kernel
theorem dX11_whyNotBehind_16 : decode cX11_whyNotBehind 16 = .ok (.ifCond .ne 5, 3) := by decide +kernel
theorem dX11_whyNotBehind_19 : decode cX11_whyNotBehind 19 = .ok (.iconst 1, 1) := by decide +kernel
theorem dX11_whyNotBehind_20 : decode cX11_whyNotBehind 20 = .ok (.ireturn, 1) := by decide +kernel
theorem dX11_whyNotBehind_21 : decode cX11_whyNotBehind 21 = .ok (.iload 4, 2) := by decide +kernel
theorem dX11_whyNotBehind_23 : decode cX11_whyNotBehind 23 = .ok (.iconst 0, 1) := by decide +kernel
theorem dX11_whyNotBehind_24 : decode cX11_whyNotBehind 24 = .ok (.bipush 99, 2) := by decide +kernel
theorem dX11_whyNotBehind_26 : decode cX11_whyNotBehind 26 = .ok (.invokestatic 206, 3) := by decide +kernel
theorem dX11_whyNotBehind_29 : decode cX11_whyNotBehind 29 = .ok (.ifCond .eq 7, 3) := by decide +kernel
theorem dX11_whyNotBehind_32 : decode cX11_whyNotBehind 32 = .ok (.iconst 0, 1) := by decide +kernel
theorem dX11_whyNotBehind_33 : decode cX11_whyNotBehind 33 = .ok (.goto 4, 3) := by decide +kernel
theorem dX11_whyNotBehind_36 : decode cX11_whyNotBehind 36 = .ok (.iconst 2, 1) := by decide +kernel
theorem dX11_whyNotBehind_37 : decode cX11_whyNotBehind 37 = .ok (.ireturn, 1) := by decide +kernel
theorem dX11_lay_0 : decode cX11_lay 0 = .ok (.bipush 24, 2) := by decide +kernel
theorem dX11_lay_2 : decode cX11_lay 2 = .ok (.istore_n 2, 1) := by decide +kernel
theorem dX11_lay_3 : decode cX11_lay 3 = .ok (.iload_n 2, 1) := by decide +kernel
theorem dX11_lay_4 : decode cX11_lay 4 = .ok (.ifCond .lt 45, 3) := by decide +kernel
theorem dX11_lay_7 : decode cX11_lay 7 = .ok (.aload_n 0, 1) := by decide +kernel
theorem dX11_lay_8 : decode cX11_lay 8 = .ok (.getfield 95, 3) := by decide +kernel
theorem dX11_lay_11 : decode cX11_lay 11 = .ok (.sipush 1100, 3) := by decide +kernel
theorem dX11_lay_14 : decode cX11_lay 14 = .ok (.if_icmp .ge 29, 3) := by decide +kernel
theorem dX11_lay_17 : decode cX11_lay 17 = .ok (.aload_n 0, 1) := by decide +kernel
theorem dX11_lay_18 : decode cX11_lay 18 = .ok (.getfield 9, 3) := by decide +kernel
theorem dX11_lay_21 : decode cX11_lay 21 = .ok (.aload_n 0, 1) := by decide +kernel
theorem dX11_lay_22 : decode cX11_lay 22 = .ok (.getfield 95, 3) := by decide +kernel
theorem dX11_lay_25 : decode cX11_lay 25 = .ok (.iload_n 1, 1) := by decide +kernel
theorem dX11_lay_26 : decode cX11_lay 26 = .ok (.iload_n 2, 1) := by decide +kernel
theorem dX11_lay_27 : decode cX11_lay 27 = .ok (.iushr, 1) := by decide +kernel
theorem dX11_lay_28 : decode cX11_lay 28 = .ok (.sipush 255, 3) := by decide +kernel
theorem dX11_lay_31 : decode cX11_lay 31 = .ok (.iand, 1) := by decide +kernel
theorem dX11_lay_32 : decode cX11_lay 32 = .ok (.iastore, 1) := by decide +kernel
theorem dX11_lay_33 : decode cX11_lay 33 = .ok (.aload_n 0, 1) := by decide +kernel
theorem dX11_lay_34 : decode cX11_lay 34 = .ok (.dup, 1) := by decide +kernel
theorem dX11_lay_35 : decode cX11_lay 35 = .ok (.getfield 95, 3) := by decide +kernel
theorem dX11_lay_38 : decode cX11_lay 38 = .ok (.iconst 1, 1) := by decide +kernel
theorem dX11_lay_39 : decode cX11_lay 39 = .ok (.iadd, 1) := by decide +kernel
theorem dX11_lay_40 : decode cX11_lay 40 = .ok (.putfield 95, 3) := by decide +kernel
theorem dX11_lay_43 : decode cX11_lay 43 = .ok (.iinc 2 (-8), 3) := by decide +kernel
theorem dX11_lay_46 : decode cX11_lay 46 = .ok (.goto (-43), 3) := by decide +kernel
theorem dX11_lay_49 : decode cX11_lay 49 = .ok (.return_, 1) := by decide +kernel
theorem dX11_dutyBehind_0 : decode cX11_dutyBehind 0 = .ok (.aload_n 0, 1) := by decide +kernel
theorem dX11_dutyBehind_1 : decode cX11_dutyBehind 1 = .ok (.getfield 34, 3) := by decide +kernel
theorem dX11_dutyBehind_4 : decode cX11_dutyBehind 4 = .ok (.aload_n 0, 1) := by decide +kernel
theorem dX11_dutyBehind_5 : decode cX11_dutyBehind 5 = .ok (.getfield 41, 3) := by decide +kernel
theorem dX11_dutyBehind_8 : decode cX11_dutyBehind 8 = .ok (.getfield 155, 3) := by decide +kernel
theorem dX11_dutyBehind_11 : decode cX11_dutyBehind 11 = .ok (.iload_n 1, 1) := by decide +kernel
theorem dX11_dutyBehind_12 : decode cX11_dutyBehind 12 = .ok (.aaload, 1) := by decide +kernel
theorem dX11_dutyBehind_13 : decode cX11_dutyBehind 13 = .ok (.getfield 183, 3) := by decide +kernel
theorem dX11_dutyBehind_16 : decode cX11_dutyBehind 16 = .ok (.iload_n 3, 1) := by decide +kernel
theorem dX11_dutyBehind_17 : decode cX11_dutyBehind 17 = .ok (.iconst 0, 1) := by decide +kernel
theorem dX11_dutyBehind_18 : decode cX11_dutyBehind 18 = .ok (.invokevirtual 186, 3) := by decide +kernel
theorem dX11_dutyBehind_21 : decode cX11_dutyBehind 21 = .ok (.aload_n 0, 1) := by decide +kernel
theorem dX11_dutyBehind_22 : decode cX11_dutyBehind 22 = .ok (.getfield 34, 3) := by decide +kernel
theorem dX11_dutyBehind_25 : decode cX11_dutyBehind 25 = .ok (.aload_n 0, 1) := by decide +kernel
theorem dX11_dutyBehind_26 : decode cX11_dutyBehind 26 = .ok (.getfield 16, 3) := by decide +kernel
theorem dX11_dutyBehind_29 : decode cX11_dutyBehind 29 = .ok (.getfield 159, 3) := by decide +kernel
theorem dX11_dutyBehind_32 : decode cX11_dutyBehind 32 = .ok (.iload_n 1, 1) := by decide +kernel
theorem dX11_dutyBehind_33 : decode cX11_dutyBehind 33 = .ok (.iaload, 1) := by decide +kernel
theorem dX11_dutyBehind_34 : decode cX11_dutyBehind 34 = .ok (.iload_n 2, 1) := by decide +kernel
theorem dX11_dutyBehind_35 : decode cX11_dutyBehind 35 = .ok (.aload_n 0, 1) := by decide +kernel
theorem dX11_dutyBehind_36 : decode cX11_dutyBehind 36 = .ok (.getfield 16, 3) := by decide +kernel
theorem dX11_dutyBehind_39 : decode cX11_dutyBehind 39 = .ok (.iload_n 2, 1) := by decide +kernel
theorem dX11_dutyBehind_40 : decode cX11_dutyBehind 40 = .ok (.aload_n 0, 1) := by decide +kernel
theorem dX11_dutyBehind_41 : decode cX11_dutyBehind 41 = .ok (.getfield 16, 3) := by decide +kernel
theorem dX11_dutyBehind_44 : decode cX11_dutyBehind 44 = .ok (.getfield 149, 3) := by decide +kernel
theorem dX11_dutyBehind_47 : decode cX11_dutyBehind 47 = .ok (.invokevirtual 303, 3) := by decide +kernel
theorem dX11_dutyBehind_50 : decode cX11_dutyBehind 50 = .ok (.invokevirtual 307, 3) := by decide +kernel
theorem dX11_dutyBehind_53 : decode cX11_dutyBehind 53 = .ok (.ireturn, 1) := by decide +kernel
theorem dX11_wayOf_0 : decode cX11_wayOf 0 = .ok (.aload_n 0, 1) := by decide +kernel
theorem dX11_wayOf_1 : decode cX11_wayOf 1 = .ok (.getfield 59, 3) := by decide +kernel
theorem dX11_wayOf_4 : decode cX11_wayOf 4 = .ok (.aload_n 0, 1) := by decide +kernel
theorem dX11_wayOf_5 : decode cX11_wayOf 5 = .ok (.getfield 41, 3) := by decide +kernel
theorem dX11_wayOf_8 : decode cX11_wayOf 8 = .ok (.getfield 155, 3) := by decide +kernel
theorem dX11_wayOf_11 : decode cX11_wayOf 11 = .ok (.iload_n 2, 1) := by decide +kernel
theorem dX11_wayOf_12 : decode cX11_wayOf 12 = .ok (.aaload, 1) := by decide +kernel
theorem dX11_wayOf_13 : decode cX11_wayOf 13 = .ok (.aload_n 0, 1) := by decide +kernel
theorem dX11_wayOf_14 : decode cX11_wayOf 14 = .ok (.getfield 16, 3) := by decide +kernel
theorem dX11_wayOf_17 : decode cX11_wayOf 17 = .ok (.getfield 159, 3) := by decide +kernel
theorem dX11_wayOf_20 : decode cX11_wayOf 20 = .ok (.iload_n 2, 1) := by decide +kernel
theorem dX11_wayOf_21 : decode cX11_wayOf 21 = .ok (.iaload, 1) := by decide +kernel
theorem dX11_wayOf_22 : decode cX11_wayOf 22 = .ok (.iload_n 3, 1) := by decide +kernel
theorem dX11_wayOf_23 : decode cX11_wayOf 23 = .ok (.invokevirtual 344, 3) := by decide +kernel
theorem dX11_wayOf_26 : decode cX11_wayOf 26 = .ok (.aload_n 0, 1) := by decide +kernel
theorem dX11_wayOf_27 : decode cX11_wayOf 27 = .ok (.getfield 59, 3) := by decide +kernel
theorem dX11_wayOf_30 : decode cX11_wayOf 30 = .ok (.iload_n 1, 1) := by decide +kernel
theorem dX11_wayOf_31 : decode cX11_wayOf 31 = .ok (.invokevirtual 348, 3) := by decide +kernel
theorem dX11_wayOf_34 : decode cX11_wayOf 34 = .ok (.ireturn, 1) := by decide +kernel
theorem dX11_isRound_0 : decode cX11_isRound 0 = .ok (.aload_n 0, 1) := by decide +kernel
theorem dX11_isRound_1 : decode cX11_isRound 1 = .ok (.getfield 59, 3) := by decide +kernel
theorem dX11_isRound_4 : decode cX11_isRound 4 = .ok (.aload_n 0, 1) := by decide +kernel
theorem dX11_isRound_5 : decode cX11_isRound 5 = .ok (.getfield 41, 3) := by decide +kernel
theorem dX11_isRound_8 : decode cX11_isRound 8 = .ok (.getfield 155, 3) := by decide +kernel
theorem dX11_isRound_11 : decode cX11_isRound 11 = .ok (.iload_n 1, 1) := by decide +kernel
theorem dX11_isRound_12 : decode cX11_isRound 12 = .ok (.aaload, 1) := by decide +kernel
theorem dX11_isRound_13 : decode cX11_isRound 13 = .ok (.aload_n 0, 1) := by decide +kernel
theorem dX11_isRound_14 : decode cX11_isRound 14 = .ok (.getfield 16, 3) := by decide +kernel
theorem dX11_isRound_17 : decode cX11_isRound 17 = .ok (.getfield 159, 3) := by decide +kernel
theorem dX11_isRound_20 : decode cX11_isRound 20 = .ok (.iload_n 1, 1) := by decide +kernel
theorem dX11_isRound_21 : decode cX11_isRound 21 = .ok (.iaload, 1) := by decide +kernel
theorem dX11_isRound_22 : decode cX11_isRound 22 = .ok (.iload_n 2, 1) := by decide +kernel
theorem dX11_isRound_23 : decode cX11_isRound 23 = .ok (.invokevirtual 344, 3) := by decide +kernel
theorem dX11_isRound_26 : decode cX11_isRound 26 = .ok (.aload_n 0, 1) := by decide +kernel
theorem dX11_isRound_27 : decode cX11_isRound 27 = .ok (.getfield 59, 3) := by decide +kernel
theorem dX11_isRound_30 : decode cX11_isRound 30 = .ok (.iconst 0, 1) := by decide +kernel
theorem dX11_isRound_31 : decode cX11_isRound 31 = .ok (.invokevirtual 348, 3) := by decide +kernel
theorem dX11_isRound_34 : decode cX11_isRound 34 = .ok (.istore_n 3, 1) := by decide +kernel
theorem dX11_isRound_35 : decode cX11_isRound 35 = .ok (.aload_n 0, 1) := by decide +kernel
theorem dX11_isRound_36 : decode cX11_isRound 36 = .ok (.getfield 59, 3) := by decide +kernel
theorem dX11_isRound_39 : decode cX11_isRound 39 = .ok (.iconst 1, 1) := by decide +kernel
theorem dX11_isRound_40 : decode cX11_isRound 40 = .ok (.invokevirtual 348, 3) := by decide +kernel
theorem dX11_isRound_43 : decode cX11_isRound 43 = .ok (.istore 4, 2) := by decide +kernel
theorem dX11_isRound_45 : decode cX11_isRound 45 = .ok (.iload_n 3, 1) := by decide +kernel
theorem dX11_isRound_46 : decode cX11_isRound 46 = .ok (.iconst (-1), 1) := by decide +kernel
theorem dX11_isRound_47 : decode cX11_isRound 47 = .ok (.if_icmp .eq 35, 3) := by decide +kernel
theorem dX11_isRound_50 : decode cX11_isRound 50 = .ok (.iload 4, 2) := by decide +kernel
theorem dX11_isRound_52 : decode cX11_isRound 52 = .ok (.iconst (-1), 1) := by decide +kernel
theorem dX11_isRound_53 : decode cX11_isRound 53 = .ok (.if_icmp .eq 29, 3) := by decide +kernel
theorem dX11_isRound_56 : decode cX11_isRound 56 = .ok (.aload_n 0, 1) := by decide +kernel
theorem dX11_isRound_57 : decode cX11_isRound 57 = .ok (.getfield 59, 3) := by decide +kernel
theorem dX11_isRound_60 : decode cX11_isRound 60 = .ok (.getfield 243, 3) := by decide +kernel
theorem dX11_isRound_63 : decode cX11_isRound 63 = .ok (.iload 4, 2) := by decide +kernel
theorem dX11_isRound_65 : decode cX11_isRound 65 = .ok (.iaload, 1) := by decide +kernel
theorem dX11_isRound_66 : decode cX11_isRound 66 = .ok (.aload_n 0, 1) := by decide +kernel
theorem dX11_isRound_67 : decode cX11_isRound 67 = .ok (.getfield 59, 3) := by decide +kernel
theorem dX11_isRound_70 : decode cX11_isRound 70 = .ok (.getfield 243, 3) := by decide +kernel
theorem dX11_isRound_73 : decode cX11_isRound 73 = .ok (.iload_n 3, 1) := by decide +kernel
theorem dX11_isRound_74 : decode cX11_isRound 74 = .ok (.iaload, 1) := by decide +kernel
theorem dX11_isRound_75 : decode cX11_isRound 75 = .ok (.if_icmp .ge 7, 3) := by decide +kernel
theorem dX11_isRound_78 : decode cX11_isRound 78 = .ok (.iconst 1, 1) := by decide +kernel
theorem dX11_isRound_79 : decode cX11_isRound 79 = .ok (.goto 4, 3) := by decide +kernel
theorem dX11_isRound_82 : decode cX11_isRound 82 = .ok (.iconst 0, 1) := by decide +kernel
theorem dX11_isRound_83 : decode cX11_isRound 83 = .ok (.ireturn, 1) := by decide +kernel
theorem dX11_leastCover_0 : decode cX11_leastCover 0 = .ok (.aload_n 0, 1) := by decide +kernel
theorem dX11_leastCover_1 : decode cX11_leastCover 1 = .ok (.getfield 41, 3) := by decide +kernel
theorem dX11_leastCover_4 : decode cX11_leastCover 4 = .ok (.getfield 155, 3) := by decide +kernel
theorem dX11_leastCover_7 : decode cX11_leastCover 7 = .ok (.iload_n 1, 1) := by decide +kernel
theorem dX11_leastCover_8 : decode cX11_leastCover 8 = .ok (.aaload, 1) := by decide +kernel
theorem dX11_leastCover_9 : decode cX11_leastCover 9 = .ok (.getfield 183, 3) := by decide +kernel
theorem dX11_leastCover_12 : decode cX11_leastCover 12 = .ok (.iconst 0, 1) := by decide +kernel
theorem dX11_leastCover_13 : decode cX11_leastCover 13 = .ok (.aload_n 0, 1) := by decide +kernel
theorem dX11_leastCover_14 : decode cX11_leastCover 14 = .ok (.getfield 88, 3) := by decide +kernel
theorem dX11_leastCover_17 : decode cX11_leastCover 17 = .ok (.iconst 0, 1) := by decide +kernel
theorem dX11_leastCover_18 : decode cX11_leastCover 18 = .ok (.bipush 6, 2) := by decide +kernel
theorem dX11_leastCover_20 : decode cX11_leastCover 20 = .ok (.invokestatic 351, 3) := by decide +kernel
theorem dX11_leastCover_23 : decode cX11_leastCover 23 = .ok (.iconst 0, 1) := by decide +kernel
theorem dX11_leastCover_24 : decode cX11_leastCover 24 = .ok (.istore 4, 2) := by decide +kernel
theorem dX11_leastCover_26 : decode cX11_leastCover 26 = .ok (.iload 4, 2) := by decide +kernel
theorem dX11_leastCover_28 : decode cX11_leastCover 28 = .ok (.bipush 99, 2) := by decide +kernel
theorem dX11_leastCover_30 : decode cX11_leastCover 30 = .ok (.if_icmp .gt 46, 3) := by decide +kernel
theorem dX11_leastCover_33 : decode cX11_leastCover 33 = .ok (.aload_n 0, 1) := by decide +kernel
theorem dX11_leastCover_34 : decode cX11_leastCover 34 = .ok (.getfield 88, 3) := by decide +kernel
theorem dX11_leastCover_37 : decode cX11_leastCover 37 = .ok (.iload_n 2, 1) := by decide +kernel
theorem dX11_leastCover_38 : decode cX11_leastCover 38 = .ok (.iconst 2, 1) := by decide +kernel
theorem dX11_leastCover_39 : decode cX11_leastCover 39 = .ok (.iload 4, 2) := by decide +kernel
theorem dX11_leastCover_41 : decode cX11_leastCover 41 = .ok (.imul, 1) := by decide +kernel
theorem dX11_leastCover_42 : decode cX11_leastCover 42 = .ok (.iastore, 1) := by decide +kernel
theorem dX11_leastCover_43 : decode cX11_leastCover 43 = .ok (.aload_n 0, 1) := by decide +kernel
theorem dX11_leastCover_44 : decode cX11_leastCover 44 = .ok (.getfield 59, 3) := by decide +kernel
theorem dX11_leastCover_47 : decode cX11_leastCover 47 = .ok (.iload_n 3, 1) := by decide +kernel
theorem dX11_leastCover_48 : decode cX11_leastCover 48 = .ok (.aload_n 0, 1) := by decide +kernel
theorem dX11_leastCover_49 : decode cX11_leastCover 49 = .ok (.getfield 88, 3) := by decide +kernel
theorem dX11_leastCover_52 : decode cX11_leastCover 52 = .ok (.aload_n 0, 1) := by decide +kernel
theorem dX11_leastCover_53 : decode cX11_leastCover 53 = .ok (.getfield 16, 3) := by decide +kernel
theorem dX11_leastCover_56 : decode cX11_leastCover 56 = .ok (.getfield 159, 3) := by decide +kernel
theorem dX11_leastCover_59 : decode cX11_leastCover 59 = .ok (.iload_n 1, 1) := by decide +kernel
theorem dX11_leastCover_60 : decode cX11_leastCover 60 = .ok (.iaload, 1) := by decide +kernel
theorem dX11_leastCover_61 : decode cX11_leastCover 61 = .ok (.invokevirtual 357, 3) := by decide +kernel
theorem dX11_leastCover_64 : decode cX11_leastCover 64 = .ok (.ifCond .ne 6, 3) := by decide +kernel
theorem dX11_leastCover_67 : decode cX11_leastCover 67 = .ok (.iload 4, 2) := by decide +kernel
theorem dX11_leastCover_69 : decode cX11_leastCover 69 = .ok (.ireturn, 1) := by decide +kernel
theorem dX11_leastCover_70 : decode cX11_leastCover 70 = .ok (.iinc 4 1, 3) := by decide +kernel
theorem dX11_leastCover_73 : decode cX11_leastCover 73 = .ok (.goto (-47), 3) := by decide +kernel
theorem dX11_leastCover_76 : decode cX11_leastCover 76 = .ok (.bipush (-2), 2) := by decide +kernel
theorem dX11_leastCover_78 : decode cX11_leastCover 78 = .ok (.ireturn, 1) := by decide +kernel
theorem dX11_whyNoTrace_0 : decode cX11_whyNoTrace 0 = .ok (.aload_n 0, 1) := by decide +kernel
theorem dX11_whyNoTrace_1 : decode cX11_whyNoTrace 1 = .ok (.getfield 16, 3) := by decide +kernel
theorem dX11_whyNoTrace_4 : decode cX11_whyNoTrace 4 = .ok (.invokevirtual 227, 3) := by decide +kernel
theorem dX11_whyNoTrace_7 : decode cX11_whyNoTrace 7 = .ok (.ifCond .ne 5, 3) := by decide +kernel
theorem dX11_whyNoTrace_10 : decode cX11_whyNoTrace 10 = .ok (.iconst 1, 1) := by decide +kernel
theorem dX11_whyNoTrace_11 : decode cX11_whyNoTrace 11 = .ok (.ireturn, 1) := by decide +kernel
theorem dX11_whyNoTrace_12 : decode cX11_whyNoTrace 12 = .ok (.aload_n 0, 1) := by decide +kernel
theorem dX11_whyNoTrace_13 : decode cX11_whyNoTrace 13 = .ok (.getfield 16, 3) := by decide +kernel
theorem dX11_whyNoTrace_16 : decode cX11_whyNoTrace 16 = .ok (.getfield 124, 3) := by decide +kernel
theorem dX11_whyNoTrace_19 : decode cX11_whyNoTrace 19 = .ok (.bipush 10, 2) := by decide +kernel
theorem dX11_whyNoTrace_21 : decode cX11_whyNoTrace 21 = .ok (.iaload, 1) := by decide +kernel
theorem dX11_whyNoTrace_22 : decode cX11_whyNoTrace 22 = .ok (.ifCond .ne 8, 3) := by decide +kernel
theorem dX11_whyNoTrace_25 : decode cX11_whyNoTrace 25 = .ok (.bipush 6, 2) := by decide +kernel
theorem dX11_whyNoTrace_27 : decode cX11_whyNoTrace 27 = .ok (.goto 4, 3) := by decide +kernel
theorem dX11_whyNoTrace_30 : decode cX11_whyNoTrace 30 = .ok (.iconst 0, 1) := by decide +kernel
theorem dX11_whyNoTrace_31 : decode cX11_whyNoTrace 31 = .ok (.ireturn, 1) := by decide +kernel
theorem dX11_whyNoGame_0 : decode cX11_whyNoGame 0 = .ok (.aload_n 0, 1) := by decide +kernel
theorem dX11_whyNoGame_1 : decode cX11_whyNoGame 1 = .ok (.bipush 7, 2) := by decide +kernel
theorem dX11_whyNoGame_3 : decode cX11_whyNoGame 3 = .ok (.iload_n 1, 1) := by decide +kernel
theorem dX11_whyNoGame_4 : decode cX11_whyNoGame 4 = .ok (.invokevirtual 133, 3) := by decide +kernel
theorem dX11_whyNoGame_7 : decode cX11_whyNoGame 7 = .ok (.ifCond .eq 12, 3) := by decide +kernel
theorem dX11_whyNoGame_10 : decode cX11_whyNoGame 10 = .ok (.aload_n 0, 1) := by decide +kernel
theorem dX11_whyNoGame_11 : decode cX11_whyNoGame 11 = .ok (.iconst 4, 1) := by decide +kernel
theorem dX11_whyNoGame_12 : decode cX11_whyNoGame 12 = .ok (.iload_n 2, 1) := by decide +kernel
theorem dX11_whyNoGame_13 : decode cX11_whyNoGame 13 = .ok (.invokevirtual 133, 3) := by decide +kernel
theorem dX11_whyNoGame_16 : decode cX11_whyNoGame 16 = .ok (.ifCond .ne 5, 3) := by decide +kernel
theorem dX11_whyNoGame_19 : decode cX11_whyNoGame 19 = .ok (.iconst 1, 1) := by decide +kernel
theorem dX11_whyNoGame_20 : decode cX11_whyNoGame 20 = .ok (.ireturn, 1) := by decide +kernel
theorem dX11_whyNoGame_21 : decode cX11_whyNoGame 21 = .ok (.aload_n 0, 1) := by decide +kernel
theorem dX11_whyNoGame_22 : decode cX11_whyNoGame 22 = .ok (.getfield 16, 3) := by decide +kernel
theorem dX11_whyNoGame_25 : decode cX11_whyNoGame 25 = .ok (.getfield 124, 3) := by decide +kernel
theorem dX11_whyNoGame_28 : decode cX11_whyNoGame 28 = .ok (.iconst 4, 1) := by decide +kernel
theorem dX11_whyNoGame_29 : decode cX11_whyNoGame 29 = .ok (.iaload, 1) := by decide +kernel
theorem dX11_whyNoGame_30 : decode cX11_whyNoGame 30 = .ok (.iconst 2, 1) := by decide +kernel
theorem dX11_whyNoGame_31 : decode cX11_whyNoGame 31 = .ok (.if_icmp .ge 6, 3) := by decide +kernel
theorem dX11_whyNoGame_34 : decode cX11_whyNoGame 34 = .ok (.bipush 6, 2) := by decide +kernel
theorem dX11_whyNoGame_36 : decode cX11_whyNoGame 36 = .ok (.ireturn, 1) := by decide +kernel
theorem dX11_whyNoGame_37 : decode cX11_whyNoGame 37 = .ok (.aload_n 0, 1) := by decide +kernel
theorem dX11_whyNoGame_38 : decode cX11_whyNoGame 38 = .ok (.getfield 84, 3) := by decide +kernel
theorem dX11_whyNoGame_41 : decode cX11_whyNoGame 41 = .ok (.aload_n 0, 1) := by decide +kernel
theorem dX11_whyNoGame_42 : decode cX11_whyNoGame 42 = .ok (.getfield 41, 3) := by decide +kernel
theorem dX11_whyNoGame_45 : decode cX11_whyNoGame 45 = .ok (.getfield 155, 3) := by decide +kernel
theorem dX11_whyNoGame_48 : decode cX11_whyNoGame 48 = .ok (.iload_n 1, 1) := by decide +kernel
theorem dX11_whyNoGame_49 : decode cX11_whyNoGame 49 = .ok (.aaload, 1) := by decide +kernel
theorem dX11_whyNoGame_50 : decode cX11_whyNoGame 50 = .ok (.aload_n 0, 1) := by decide +kernel
theorem dX11_whyNoGame_51 : decode cX11_whyNoGame 51 = .ok (.getfield 16, 3) := by decide +kernel
theorem dX11_whyNoGame_54 : decode cX11_whyNoGame 54 = .ok (.getfield 159, 3) := by decide +kernel
theorem dX11_whyNoGame_57 : decode cX11_whyNoGame 57 = .ok (.iload_n 1, 1) := by decide +kernel
theorem dX11_whyNoGame_58 : decode cX11_whyNoGame 58 = .ok (.iaload, 1) := by decide +kernel
theorem dX11_whyNoGame_59 : decode cX11_whyNoGame 59 = .ok (.iload_n 2, 1) := by decide +kernel
theorem dX11_whyNoGame_60 : decode cX11_whyNoGame 60 = .ok (.invokevirtual 361, 3) := by decide +kernel
theorem dX11_whyNoGame_63 : decode cX11_whyNoGame 63 = .ok (.ifCond .eq 7, 3) := by decide +kernel
theorem dX11_whyNoGame_66 : decode cX11_whyNoGame 66 = .ok (.iconst 0, 1) := by decide +kernel
theorem dX11_whyNoGame_67 : decode cX11_whyNoGame 67 = .ok (.goto 5, 3) := by decide +kernel
theorem dX11_whyNoGame_70 : decode cX11_whyNoGame 70 = .ok (.bipush 6, 2) := by decide +kernel
theorem dX11_whyNoGame_72 : decode cX11_whyNoGame 72 = .ok (.ireturn, 1) := by decide +kernel
theorem dX11_pass_0 : decode cX11_pass 0 = .ok (.aload_n 0, 1) := by decide +kernel
theorem dX11_pass_1 : decode cX11_pass 1 = .ok (.getfield 34, 3) := by decide +kernel
theorem dX11_pass_4 : decode cX11_pass 4 = .ok (.aload_n 1, 1) := by decide +kernel
theorem dX11_pass_5 : decode cX11_pass 5 = .ok (.getfield 183, 3) := by decide +kernel
theorem dX11_pass_8 : decode cX11_pass 8 = .ok (.iload_n 2, 1) := by decide +kernel
theorem dX11_pass_9 : decode cX11_pass 9 = .ok (.invokevirtual 365, 3) := by decide +kernel
theorem dX11_pass_12 : decode cX11_pass 12 = .ok (.aload_n 1, 1) := by decide +kernel
theorem dX11_pass_13 : decode cX11_pass 13 = .ok (.dup, 1) := by decide +kernel
theorem dX11_pass_14 : decode cX11_pass 14 = .ok (.getfield 173, 3) := by decide +kernel
theorem dX11_pass_17 : decode cX11_pass 17 = .ok (.iload_n 2, 1) := by decide +kernel
theorem dX11_pass_18 : decode cX11_pass 18 = .ok (.iadd, 1) := by decide +kernel
theorem dX11_pass_19 : decode cX11_pass 19 = .ok (.putfield 173, 3) := by decide +kernel
theorem dX11_pass_22 : decode cX11_pass 22 = .ok (.return_, 1) := by decide +kernel
theorem dX12_init_0 : decode cX12_init 0 = .ok (.aload_n 0, 1) := by decide +kernel
theorem dX12_init_1 : decode cX12_init 1 = .ok (.invokespecial 3, 3) := by decide +kernel
theorem dX12_init_4 : decode cX12_init 4 = .ok (.aload_n 0, 1) := by decide +kernel
theorem dX12_init_5 : decode cX12_init 5 = .ok (.iconst 4, 1) := by decide +kernel
theorem dX12_init_6 : decode cX12_init 6 = .ok (.newarray .int, 2) := by decide +kernel
theorem dX12_init_8 : decode cX12_init 8 = .ok (.putfield 9, 3) := by decide +kernel
theorem dX12_init_11 : decode cX12_init 11 = .ok (.aload_n 0, 1) := by decide +kernel
theorem dX12_init_12 : decode cX12_init 12 = .ok (.bipush 6, 2) := by decide +kernel
theorem dX12_init_14 : decode cX12_init 14 = .ok (.newarray .int, 2) := by decide +kernel
theorem dX12_init_16 : decode cX12_init 16 = .ok (.putfield 15, 3) := by decide +kernel
theorem dX12_init_19 : decode cX12_init 19 = .ok (.aload_n 0, 1) := by decide +kernel
theorem dX12_init_20 : decode cX12_init 20 = .ok (.bipush 6, 2) := by decide +kernel
theorem dX12_init_22 : decode cX12_init 22 = .ok (.newarray .int, 2) := by decide +kernel
theorem dX12_init_24 : decode cX12_init 24 = .ok (.putfield 18, 3) := by decide +kernel
theorem dX12_init_27 : decode cX12_init 27 = .ok (.aload_n 0, 1) := by decide +kernel
theorem dX12_init_28 : decode cX12_init 28 = .ok (.iconst 4, 1) := by decide +kernel
theorem dX12_init_29 : decode cX12_init 29 = .ok (.newarray .int, 2) := by decide +kernel
theorem dX12_init_31 : decode cX12_init 31 = .ok (.putfield 21, 3) := by decide +kernel
theorem dX12_init_34 : decode cX12_init 34 = .ok (.aload_n 0, 1) := by decide +kernel
theorem dX12_init_35 : decode cX12_init 35 = .ok (.bipush 6, 2) := by decide +kernel
theorem dX12_init_37 : decode cX12_init 37 = .ok (.newarray .int, 2) := by decide +kernel
theorem dX12_init_39 : decode cX12_init 39 = .ok (.putfield 24, 3) := by decide +kernel
theorem dX12_init_42 : decode cX12_init 42 = .ok (.aload_n 0, 1) := by decide +kernel
theorem dX12_init_43 : decode cX12_init 43 = .ok (.bipush 6, 2) := by decide +kernel
theorem dX12_init_45 : decode cX12_init 45 = .ok (.newarray .int, 2) := by decide +kernel
theorem dX12_init_47 : decode cX12_init 47 = .ok (.putfield 27, 3) := by decide +kernel
theorem dX12_init_50 : decode cX12_init 50 = .ok (.aload_n 0, 1) := by decide +kernel
theorem dX12_init_51 : decode cX12_init 51 = .ok (.bipush 36, 2) := by decide +kernel
theorem dX12_init_53 : decode cX12_init 53 = .ok (.newarray .int, 2) := by decide +kernel
theorem dX12_init_55 : decode cX12_init 55 = .ok (.putfield 30, 3) := by decide +kernel
theorem dX12_init_58 : decode cX12_init 58 = .ok (.aload_n 0, 1) := by decide +kernel
theorem dX12_init_59 : decode cX12_init 59 = .ok (.bipush 36, 2) := by decide +kernel
theorem dX12_init_61 : decode cX12_init 61 = .ok (.newarray .int, 2) := by decide +kernel
theorem dX12_init_63 : decode cX12_init 63 = .ok (.putfield 33, 3) := by decide +kernel
theorem dX12_init_66 : decode cX12_init 66 = .ok (.aload_n 0, 1) := by decide +kernel
theorem dX12_init_67 : decode cX12_init 67 = .ok (.iconst 4, 1) := by decide +kernel
theorem dX12_init_68 : decode cX12_init 68 = .ok (.newarray .int, 2) := by decide +kernel
theorem dX12_init_70 : decode cX12_init 70 = .ok (.putfield 36, 3) := by decide +kernel
theorem dX12_init_73 : decode cX12_init 73 = .ok (.aload_n 0, 1) := by decide +kernel
theorem dX12_init_74 : decode cX12_init 74 = .ok (.iconst 4, 1) := by decide +kernel
theorem dX12_init_75 : decode cX12_init 75 = .ok (.newarray .int, 2) := by decide +kernel
theorem dX12_init_77 : decode cX12_init 77 = .ok (.putfield 39, 3) := by decide +kernel
theorem dX12_init_80 : decode cX12_init 80 = .ok (.aload_n 0, 1) := by decide +kernel
theorem dX12_init_81 : decode cX12_init 81 = .ok (.iconst 4, 1) := by decide +kernel
theorem dX12_init_82 : decode cX12_init 82 = .ok (.newarray .int, 2) := by decide +kernel
theorem dX12_init_84 : decode cX12_init 84 = .ok (.putfield 42, 3) := by decide +kernel
theorem dX12_init_87 : decode cX12_init 87 = .ok (.aload_n 0, 1) := by decide +kernel
theorem dX12_init_88 : decode cX12_init 88 = .ok (.bipush 24, 2) := by decide +kernel
theorem dX12_init_90 : decode cX12_init 90 = .ok (.newarray .int, 2) := by decide +kernel
theorem dX12_init_92 : decode cX12_init 92 = .ok (.putfield 45, 3) := by decide +kernel
theorem dX12_init_95 : decode cX12_init 95 = .ok (.aload_n 0, 1) := by decide +kernel
theorem dX12_init_96 : decode cX12_init 96 = .ok (.iconst 4, 1) := by decide +kernel
theorem dX12_init_97 : decode cX12_init 97 = .ok (.newarray .int, 2) := by decide +kernel
theorem dX12_init_99 : decode cX12_init 99 = .ok (.putfield 48, 3) := by decide +kernel
theorem dX12_init_102 : decode cX12_init 102 = .ok (.aload_n 0, 1) := by decide +kernel
theorem dX12_init_103 : decode cX12_init 103 = .ok (.bipush 20, 2) := by decide +kernel
theorem dX12_init_105 : decode cX12_init 105 = .ok (.newarray .int, 2) := by decide +kernel
theorem dX12_init_107 : decode cX12_init 107 = .ok (.putfield 51, 3) := by decide +kernel
theorem dX12_init_110 : decode cX12_init 110 = .ok (.aload_n 0, 1) := by decide +kernel
theorem dX12_init_111 : decode cX12_init 111 = .ok (.iconst 4, 1) := by decide +kernel
theorem dX12_init_112 : decode cX12_init 112 = .ok (.newarray .int, 2) := by decide +kernel
theorem dX12_init_114 : decode cX12_init 114 = .ok (.putfield 54, 3) := by decide +kernel
theorem dX12_init_117 : decode cX12_init 117 = .ok (.aload_n 0, 1) := by decide +kernel
theorem dX12_init_118 : decode cX12_init 118 = .ok (.iconst 4, 1) := by decide +kernel
theorem dX12_init_119 : decode cX12_init 119 = .ok (.newarray .int, 2) := by decide +kernel
theorem dX12_init_121 : decode cX12_init 121 = .ok (.putfield 57, 3) := by decide +kernel
theorem dX12_init_124 : decode cX12_init 124 = .ok (.aload_n 0, 1) := by decide +kernel
theorem dX12_init_125 : decode cX12_init 125 = .ok (.bipush 6, 2) := by decide +kernel
theorem dX12_init_127 : decode cX12_init 127 = .ok (.newarray .int, 2) := by decide +kernel
theorem dX12_init_129 : decode cX12_init 129 = .ok (.putfield 60, 3) := by decide +kernel
theorem dX12_init_132 : decode cX12_init 132 = .ok (.aload_n 0, 1) := by decide +kernel
theorem dX12_init_133 : decode cX12_init 133 = .ok (.bipush 24, 2) := by decide +kernel
theorem dX12_init_135 : decode cX12_init 135 = .ok (.newarray .long, 2) := by decide +kernel
theorem dX12_init_137 : decode cX12_init 137 = .ok (.putfield 63, 3) := by decide +kernel
theorem dX12_init_140 : decode cX12_init 140 = .ok (.aload_n 0, 1) := by decide +kernel
theorem dX12_init_141 : decode cX12_init 141 = .ok (.bipush 24, 2) := by decide +kernel
theorem dX12_init_143 : decode cX12_init 143 = .ok (.newarray .int, 2) := by decide +kernel
theorem dX12_init_145 : decode cX12_init 145 = .ok (.putfield 67, 3) := by decide +kernel
theorem dX12_init_148 : decode cX12_init 148 = .ok (.aload_n 0, 1) := by decide +kernel
theorem dX12_init_149 : decode cX12_init 149 = .ok (.bipush 24, 2) := by decide +kernel
theorem dX12_init_151 : decode cX12_init 151 = .ok (.newarray .int, 2) := by decide +kernel
theorem dX12_init_153 : decode cX12_init 153 = .ok (.putfield 70, 3) := by decide +kernel
theorem dX12_init_156 : decode cX12_init 156 = .ok (.return_, 1) := by decide +kernel
theorem dX12_find_0 : decode cX12_find 0 = .ok (.iconst 0, 1) := by decide +kernel
theorem dX12_find_1 : decode cX12_find 1 = .ok (.istore_n 3, 1) := by decide +kernel
theorem dX12_find_2 : decode cX12_find 2 = .ok (.iload_n 3, 1) := by decide +kernel
theorem dX12_find_3 : decode cX12_find 3 = .ok (.aload_n 0, 1) := by decide +kernel
theorem dX12_find_4 : decode cX12_find 4 = .ok (.getfield 73, 3) := by decide +kernel
theorem dX12_find_7 : decode cX12_find 7 = .ok (.if_icmp .ge 22, 3) := by decide +kernel
theorem dX12_find_10 : decode cX12_find 10 = .ok (.aload_n 0, 1) := by decide +kernel
theorem dX12_find_11 : decode cX12_find 11 = .ok (.getfield 63, 3) := by decide +kernel
theorem dX12_find_14 : decode cX12_find 14 = .ok (.iload_n 3, 1) := by decide +kernel
theorem dX12_find_15 : decode cX12_find 15 = .ok (.laload, 1) := by decide +kernel
theorem dX12_find_16 : decode cX12_find 16 = .ok (.lload_n 1, 1) := by decide +kernel
theorem dX12_find_17 : decode cX12_find 17 = .ok (.lcmp, 1) := by decide +kernel
theorem dX12_find_18 : decode cX12_find 18 = .ok (.ifCond .ne 5, 3) := by decide +kernel
theorem dX12_find_21 : decode cX12_find 21 = .ok (.iload_n 3, 1) := by decide +kernel
theorem dX12_find_22 : decode cX12_find 22 = .ok (.ireturn, 1) := by decide +kernel
theorem dX12_find_23 : decode cX12_find 23 = .ok (.iinc 3 1, 3) := by decide +kernel
theorem dX12_find_26 : decode cX12_find 26 = .ok (.goto (-24), 3) := by decide +kernel
theorem dX12_find_29 : decode cX12_find 29 = .ok (.iconst (-1), 1) := by decide +kernel
theorem dX12_find_30 : decode cX12_find 30 = .ok (.ireturn, 1) := by decide +kernel
theorem dX12_fades_0 : decode cX12_fades 0 = .ok (.aload_n 0, 1) := by decide +kernel
theorem dX12_fades_1 : decode cX12_fades 1 = .ok (.getfield 15, 3) := by decide +kernel
theorem dX12_fades_4 : decode cX12_fades 4 = .ok (.iload_n 1, 1) := by decide +kernel
theorem dX12_fades_5 : decode cX12_fades 5 = .ok (.iaload, 1) := by decide +kernel
theorem dX12_fades_6 : decode cX12_fades 6 = .ok (.iconst 1, 1) := by decide +kernel
theorem dX12_fades_7 : decode cX12_fades 7 = .ok (.if_icmp .eq 13, 3) := by decide +kernel
theorem dX12_fades_10 : decode cX12_fades 10 = .ok (.aload_n 0, 1) := by decide +kernel
theorem dX12_fades_11 : decode cX12_fades 11 = .ok (.getfield 15, 3) := by decide +kernel
theorem dX12_fades_14 : decode cX12_fades 14 = .ok (.iload_n 1, 1) := by decide +kernel
theorem dX12_fades_15 : decode cX12_fades 15 = .ok (.iaload, 1) := by decide +kernel
theorem dX12_fades_16 : decode cX12_fades 16 = .ok (.iconst 4, 1) := by decide +kernel
theorem dX12_fades_17 : decode cX12_fades 17 = .ok (.if_icmp .ne 7, 3) := by decide +kernel
theorem dX12_fades_20 : decode cX12_fades 20 = .ok (.iconst 1, 1) := by decide +kernel
theorem dX12_fades_21 : decode cX12_fades 21 = .ok (.goto 18, 3) := by decide +kernel
theorem dX12_fades_24 : decode cX12_fades 24 = .ok (.aload_n 0, 1) := by decide +kernel
theorem dX12_fades_25 : decode cX12_fades 25 = .ok (.getfield 15, 3) := by decide +kernel
theorem dX12_fades_28 : decode cX12_fades 28 = .ok (.iload_n 1, 1) := by decide +kernel
theorem dX12_fades_29 : decode cX12_fades 29 = .ok (.iaload, 1) := by decide +kernel
theorem dX12_fades_30 : decode cX12_fades 30 = .ok (.iconst 3, 1) := by decide +kernel
theorem dX12_fades_31 : decode cX12_fades 31 = .ok (.if_icmp .ne 7, 3) := by decide +kernel
theorem dX12_fades_34 : decode cX12_fades 34 = .ok (.iconst 4, 1) := by decide +kernel
theorem dX12_fades_35 : decode cX12_fades 35 = .ok (.goto 4, 3) := by decide +kernel
theorem dX12_fades_38 : decode cX12_fades 38 = .ok (.iconst 2, 1) := by decide +kernel
theorem dX12_fades_39 : decode cX12_fades 39 = .ok (.ireturn, 1) := by decide +kernel
theorem dX13_init_0 : decode cX13_init 0 = .ok (.aload_n 0, 1) := by decide +kernel
theorem dX13_init_1 : decode cX13_init 1 = .ok (.invokespecial 3, 3) := by decide +kernel
theorem dX13_init_4 : decode cX13_init 4 = .ok (.aload_n 0, 1) := by decide +kernel
theorem dX13_init_5 : decode cX13_init 5 = .ok (.iconst (-1), 1) := by decide +kernel
theorem dX13_init_6 : decode cX13_init 6 = .ok (.putfield 9, 3) := by decide +kernel
theorem dX13_init_9 : decode cX13_init 9 = .ok (.aload_n 0, 1) := by decide +kernel
theorem dX13_init_10 : decode cX13_init 10 = .ok (.sipush 1100, 3) := by decide +kernel
theorem dX13_init_13 : decode cX13_init 13 = .ok (.newarray .byte, 2) := by decide +kernel
theorem dX13_init_15 : decode cX13_init 15 = .ok (.putfield 13, 3) := by decide +kernel
theorem dX13_init_18 : decode cX13_init 18 = .ok (.aload_n 0, 1) := by decide +kernel
theorem dX13_init_19 : decode cX13_init 19 = .ok (.bipush 36, 2) := by decide +kernel
theorem dX13_init_21 : decode cX13_init 21 = .ok (.newarray .int, 2) := by decide +kernel
theorem dX13_init_23 : decode cX13_init 23 = .ok (.putfield 17, 3) := by decide +kernel
theorem dX13_init_26 : decode cX13_init 26 = .ok (.aload_n 0, 1) := by decide +kernel
theorem dX13_init_27 : decode cX13_init 27 = .ok (.sipush 576, 3) := by decide +kernel
theorem dX13_init_30 : decode cX13_init 30 = .ok (.newarray .int, 2) := by decide +kernel
theorem dX13_init_32 : decode cX13_init 32 = .ok (.putfield 21, 3) := by decide +kernel
theorem dX13_init_35 : decode cX13_init 35 = .ok (.aload_n 0, 1) := by decide +kernel
theorem dX13_init_36 : decode cX13_init 36 = .ok (.bipush 108, 2) := by decide +kernel
theorem dX13_init_38 : decode cX13_init 38 = .ok (.newarray .int, 2) := by decide +kernel
theorem dX13_init_40 : decode cX13_init 40 = .ok (.putfield 24, 3) := by decide +kernel
theorem dX13_init_43 : decode cX13_init 43 = .ok (.aload_n 0, 1) := by decide +kernel
theorem dX13_init_44 : decode cX13_init 44 = .ok (.bipush 6, 2) := by decide +kernel
theorem dX13_init_46 : decode cX13_init 46 = .ok (.newarray .int, 2) := by decide +kernel
theorem dX13_init_48 : decode cX13_init 48 = .ok (.putfield 27, 3) := by decide +kernel
theorem dX13_init_51 : decode cX13_init 51 = .ok (.aload_n 0, 1) := by decide +kernel
theorem dX13_init_52 : decode cX13_init 52 = .ok (.bipush 6, 2) := by decide +kernel
theorem dX13_init_54 : decode cX13_init 54 = .ok (.newarray .int, 2) := by decide +kernel
theorem dX13_init_56 : decode cX13_init 56 = .ok (.putfield 30, 3) := by decide +kernel
theorem dX13_init_59 : decode cX13_init 59 = .ok (.aload_n 0, 1) := by decide +kernel
theorem dX13_init_60 : decode cX13_init 60 = .ok (.iconst 4, 1) := by decide +kernel
theorem dX13_init_61 : decode cX13_init 61 = .ok (.newarray .int, 2) := by decide +kernel
theorem dX13_init_63 : decode cX13_init 63 = .ok (.putfield 33, 3) := by decide +kernel
theorem dX13_init_66 : decode cX13_init 66 = .ok (.aload_n 0, 1) := by decide +kernel
theorem dX13_init_67 : decode cX13_init 67 = .ok (.iconst 5, 1) := by decide +kernel
theorem dX13_init_68 : decode cX13_init 68 = .ok (.newarray .int, 2) := by decide +kernel
theorem dX13_init_70 : decode cX13_init 70 = .ok (.putfield 36, 3) := by decide +kernel
theorem dX13_init_73 : decode cX13_init 73 = .ok (.aload_n 0, 1) := by decide +kernel
theorem dX13_init_74 : decode cX13_init 74 = .ok (.bipush 6, 2) := by decide +kernel
theorem dX13_init_76 : decode cX13_init 76 = .ok (.newarray .int, 2) := by decide +kernel
theorem dX13_init_78 : decode cX13_init 78 = .ok (.putfield 39, 3) := by decide +kernel
theorem dX13_init_81 : decode cX13_init 81 = .ok (.aload_n 0, 1) := by decide +kernel
theorem dX13_init_82 : decode cX13_init 82 = .ok (.bipush 18, 2) := by decide +kernel
theorem dX13_init_84 : decode cX13_init 84 = .ok (.newarray .int, 2) := by decide +kernel
theorem dX13_init_86 : decode cX13_init 86 = .ok (.putfield 42, 3) := by decide +kernel
theorem dX13_init_89 : decode cX13_init 89 = .ok (.aload_n 0, 1) := by decide +kernel
theorem dX13_init_90 : decode cX13_init 90 = .ok (.iconst 3, 1) := by decide +kernel
theorem dX13_init_91 : decode cX13_init 91 = .ok (.newarray .int, 2) := by decide +kernel
theorem dX13_init_93 : decode cX13_init 93 = .ok (.putfield 45, 3) := by decide +kernel
theorem dX13_init_96 : decode cX13_init 96 = .ok (.aload_n 0, 1) := by decide +kernel
theorem dX13_init_97 : decode cX13_init 97 = .ok (.iconst 3, 1) := by decide +kernel
theorem dX13_init_98 : decode cX13_init 98 = .ok (.newarray .int, 2) := by decide +kernel
theorem dX13_init_100 : decode cX13_init 100 = .ok (.putfield 48, 3) := by decide +kernel
theorem dX13_init_103 : decode cX13_init 103 = .ok (.aload_n 0, 1) := by decide +kernel
theorem dX13_init_104 : decode cX13_init 104 = .ok (.iconst 3, 1) := by decide +kernel
theorem dX13_init_105 : decode cX13_init 105 = .ok (.newarray .int, 2) := by decide +kernel
theorem dX13_init_107 : decode cX13_init 107 = .ok (.putfield 51, 3) := by decide +kernel
theorem dX13_init_110 : decode cX13_init 110 = .ok (.aload_n 0, 1) := by decide +kernel
theorem dX13_init_111 : decode cX13_init 111 = .ok (.sipush 390, 3) := by decide +kernel
theorem dX13_init_114 : decode cX13_init 114 = .ok (.newarray .int, 2) := by decide +kernel
theorem dX13_init_116 : decode cX13_init 116 = .ok (.putfield 54, 3) := by decide +kernel
theorem dX13_init_119 : decode cX13_init 119 = .ok (.aload_n 0, 1) := by decide +kernel
theorem dX13_init_120 : decode cX13_init 120 = .ok (.iconst 4, 1) := by decide +kernel
theorem dX13_init_121 : decode cX13_init 121 = .ok (.newarray .int, 2) := by decide +kernel
theorem dX13_init_123 : decode cX13_init 123 = .ok (.putfield 57, 3) := by decide +kernel
theorem dX13_init_126 : decode cX13_init 126 = .ok (.aload_n 0, 1) := by decide +kernel
theorem dX13_init_127 : decode cX13_init 127 = .ok (.iconst 4, 1) := by decide +kernel
theorem dX13_init_128 : decode cX13_init 128 = .ok (.newarray .int, 2) := by decide +kernel
theorem dX13_init_130 : decode cX13_init 130 = .ok (.putfield 60, 3) := by decide +kernel
theorem dX13_init_133 : decode cX13_init 133 = .ok (.aload_n 0, 1) := by decide +kernel
theorem dX13_init_134 : decode cX13_init 134 = .ok (.bipush 6, 2) := by decide +kernel
theorem dX13_init_136 : decode cX13_init 136 = .ok (.newarray .int, 2) := by decide +kernel
theorem dX13_init_138 : decode cX13_init 138 = .ok (.putfield 63, 3) := by decide +kernel
theorem dX13_init_141 : decode cX13_init 141 = .ok (.aload_n 0, 1) := by decide +kernel
theorem dX13_init_142 : decode cX13_init 142 = .ok (.bipush 6, 2) := by decide +kernel
theorem dX13_init_144 : decode cX13_init 144 = .ok (.newarray .int, 2) := by decide +kernel
theorem dX13_init_146 : decode cX13_init 146 = .ok (.putfield 66, 3) := by decide +kernel
theorem dX13_init_149 : decode cX13_init 149 = .ok (.aload_n 0, 1) := by decide +kernel
theorem dX13_init_150 : decode cX13_init 150 = .ok (.bipush 6, 2) := by decide +kernel
theorem dX13_init_152 : decode cX13_init 152 = .ok (.newarray .int, 2) := by decide +kernel
theorem dX13_init_154 : decode cX13_init 154 = .ok (.putfield 69, 3) := by decide +kernel
theorem dX13_init_157 : decode cX13_init 157 = .ok (.return_, 1) := by decide +kernel
theorem dX13_thrown_0 : decode cX13_thrown 0 = .ok (.aload_n 0, 1) := by decide +kernel
theorem dX13_thrown_1 : decode cX13_thrown 1 = .ok (.getfield 72, 3) := by decide +kernel
theorem dX13_thrown_4 : decode cX13_thrown 4 = .ok (.ireturn, 1) := by decide +kernel
theorem dX13_refused_0 : decode cX13_refused 0 = .ok (.aload_n 0, 1) := by decide +kernel
theorem dX13_refused_1 : decode cX13_refused 1 = .ok (.iload_n 1, 1) := by decide +kernel
theorem dX13_refused_2 : decode cX13_refused 2 = .ok (.putfield 75, 3) := by decide +kernel
theorem dX13_refused_5 : decode cX13_refused 5 = .ok (.aload_n 0, 1) := by decide +kernel
theorem dX13_refused_6 : decode cX13_refused 6 = .ok (.iconst (-1), 1) := by decide +kernel
theorem dX13_refused_7 : decode cX13_refused 7 = .ok (.putfield 9, 3) := by decide +kernel
theorem dX13_refused_10 : decode cX13_refused 10 = .ok (.iconst (-1), 1) := by decide +kernel
theorem dX13_refused_11 : decode cX13_refused 11 = .ok (.ireturn, 1) := by decide +kernel
theorem dX13_denied_0 : decode cX13_denied 0 = .ok (.aload_n 0, 1) := by decide +kernel
theorem dX13_denied_1 : decode cX13_denied 1 = .ok (.iload_n 1, 1) := by decide +kernel
theorem dX13_denied_2 : decode cX13_denied 2 = .ok (.invokevirtual 78, 3) := by decide +kernel
theorem dX13_denied_5 : decode cX13_denied 5 = .ok (.pop, 1) := by decide +kernel
theorem dX13_denied_6 : decode cX13_denied 6 = .ok (.iconst 0, 1) := by decide +kernel
theorem dX13_denied_7 : decode cX13_denied 7 = .ok (.ireturn, 1) := by decide +kernel
theorem dX13_good_0 : decode cX13_good 0 = .ok (.aload_n 0, 1) := by decide +kernel
theorem dX13_good_1 : decode cX13_good 1 = .ok (.iconst 0, 1) := by decide +kernel
theorem dX13_good_2 : decode cX13_good 2 = .ok (.putfield 75, 3) := by decide +kernel
theorem dX13_good_5 : decode cX13_good 5 = .ok (.aload_n 0, 1) := by decide +kernel
theorem dX13_good_6 : decode cX13_good 6 = .ok (.iconst (-1), 1) := by decide +kernel
theorem dX13_good_7 : decode cX13_good 7 = .ok (.putfield 9, 3) := by decide +kernel
theorem dX13_good_10 : decode cX13_good 10 = .ok (.iload_n 1, 1) := by decide +kernel
theorem dX13_good_11 : decode cX13_good 11 = .ok (.ireturn, 1) := by decide +kernel
theorem dX13_granted_0 : decode cX13_granted 0 = .ok (.aload_n 0, 1) := by decide +kernel
theorem dX13_granted_1 : decode cX13_granted 1 = .ok (.iconst 0, 1) := by decide +kernel
theorem dX13_granted_2 : decode cX13_granted 2 = .ok (.invokevirtual 82, 3) := by decide +kernel
theorem dX13_granted_5 : decode cX13_granted 5 = .ok (.pop, 1) := by decide +kernel
theorem dX13_granted_6 : decode cX13_granted 6 = .ok (.iconst 1, 1) := by decide +kernel
theorem dX13_granted_7 : decode cX13_granted 7 = .ok (.ireturn, 1) := by decide +kernel
theorem dX13_in_0 : decode cX13_in 0 = .ok (.iload_n 0, 1) := by decide +kernel
theorem dX13_in_1 : decode cX13_in 1 = .ok (.iload_n 1, 1) := by decide +kernel
theorem dX13_in_2 : decode cX13_in 2 = .ok (.if_icmp .lt 12, 3) := by decide +kernel
theorem dX13_in_5 : decode cX13_in 5 = .ok (.iload_n 0, 1) := by decide +kernel
theorem dX13_in_6 : decode cX13_in 6 = .ok (.iload_n 2, 1) := by decide +kernel
theorem dX13_in_7 : decode cX13_in 7 = .ok (.if_icmp .gt 7, 3) := by decide +kernel
theorem dX13_in_10 : decode cX13_in 10 = .ok (.iconst 1, 1) := by decide +kernel
theorem dX13_in_11 : decode cX13_in 11 = .ok (.goto 4, 3) := by decide +kernel
theorem dX13_in_14 : decode cX13_in 14 = .ok (.iconst 0, 1) := by decide +kernel
theorem dX13_in_15 : decode cX13_in 15 = .ok (.ireturn, 1) := by decide +kernel
theorem dX13_bit_0 : decode cX13_bit 0 = .ok (.iload_n 0, 1) := by decide +kernel
theorem dX13_bit_1 : decode cX13_bit 1 = .ok (.iload_n 1, 1) := by decide +kernel
theorem dX13_bit_2 : decode cX13_bit 2 = .ok (.ishr, 1) := by decide +kernel
theorem dX13_bit_3 : decode cX13_bit 3 = .ok (.iconst 1, 1) := by decide +kernel
theorem dX13_bit_4 : decode cX13_bit 4 = .ok (.iand, 1) := by decide +kernel
theorem dX13_bit_5 : decode cX13_bit 5 = .ok (.iconst 1, 1) := by decide +kernel
theorem dX13_bit_6 : decode cX13_bit 6 = .ok (.if_icmp .ne 7, 3) := by decide +kernel
theorem dX13_bit_9 : decode cX13_bit 9 = .ok (.iconst 1, 1) := by decide +kernel
theorem dX13_bit_10 : decode cX13_bit 10 = .ok (.goto 4, 3) := by decide +kernel
theorem dX13_bit_13 : decode cX13_bit 13 = .ok (.iconst 0, 1) := by decide +kernel
theorem dX13_bit_14 : decode cX13_bit 14 = .ok (.ireturn, 1) := by decide +kernel
theorem dX13_byteAt_0 : decode cX13_byteAt 0 = .ok (.iload_n 1, 1) := by decide +kernel
theorem dX13_byteAt_1 : decode cX13_byteAt 1 = .ok (.aload_n 0, 1) := by decide +kernel
theorem dX13_byteAt_2 : decode cX13_byteAt 2 = .ok (.getfield 85, 3) := by decide +kernel
theorem dX13_byteAt_5 : decode cX13_byteAt 5 = .ok (.if_icmp .ge 16, 3) := by decide +kernel
theorem dX13_byteAt_8 : decode cX13_byteAt 8 = .ok (.aload_n 0, 1) := by decide +kernel
theorem dX13_byteAt_9 : decode cX13_byteAt 9 = .ok (.getfield 13, 3) := by decide +kernel
theorem dX13_byteAt_12 : decode cX13_byteAt 12 = .ok (.iload_n 1, 1) := by decide +kernel
theorem dX13_byteAt_13 : decode cX13_byteAt 13 = .ok (.baload, 1) := by decide +kernel
theorem dX13_byteAt_14 : decode cX13_byteAt 14 = .ok (.sipush 255, 3) := by decide +kernel
theorem dX13_byteAt_17 : decode cX13_byteAt 17 = .ok (.iand, 1) := by decide +kernel
theorem dX13_byteAt_18 : decode cX13_byteAt 18 = .ok (.goto 4, 3) := by decide +kernel
theorem dX13_byteAt_21 : decode cX13_byteAt 21 = .ok (.iconst (-1), 1) := by decide +kernel
theorem dX13_byteAt_22 : decode cX13_byteAt 22 = .ok (.ireturn, 1) := by decide +kernel
theorem dX13_isLetter_0 : decode cX13_isLetter 0 = .ok (.iload_n 0, 1) := by decide +kernel
theorem dX13_isLetter_1 : decode cX13_isLetter 1 = .ok (.bipush 97, 2) := by decide +kernel
theorem dX13_isLetter_3 : decode cX13_isLetter 3 = .ok (.if_icmp .lt 13, 3) := by decide +kernel
theorem dX13_isLetter_6 : decode cX13_isLetter 6 = .ok (.iload_n 0, 1) := by decide +kernel
theorem dX13_isLetter_7 : decode cX13_isLetter 7 = .ok (.bipush 122, 2) := by decide +kernel
theorem dX13_isLetter_9 : decode cX13_isLetter 9 = .ok (.if_icmp .gt 7, 3) := by decide +kernel
theorem dX13_isLetter_12 : decode cX13_isLetter 12 = .ok (.iconst 1, 1) := by decide +kernel
theorem dX13_isLetter_13 : decode cX13_isLetter 13 = .ok (.goto 4, 3) := by decide +kernel
theorem dX13_isLetter_16 : decode cX13_isLetter 16 = .ok (.iconst 0, 1) := by decide +kernel
theorem dX13_isLetter_17 : decode cX13_isLetter 17 = .ok (.ireturn, 1) := by decide +kernel
theorem dX13_isDigit_0 : decode cX13_isDigit 0 = .ok (.iload_n 0, 1) := by decide +kernel
theorem dX13_isDigit_1 : decode cX13_isDigit 1 = .ok (.bipush 48, 2) := by decide +kernel
theorem dX13_isDigit_3 : decode cX13_isDigit 3 = .ok (.if_icmp .lt 13, 3) := by decide +kernel
theorem dX13_isDigit_6 : decode cX13_isDigit 6 = .ok (.iload_n 0, 1) := by decide +kernel
theorem dX13_isDigit_7 : decode cX13_isDigit 7 = .ok (.bipush 57, 2) := by decide +kernel
theorem dX13_isDigit_9 : decode cX13_isDigit 9 = .ok (.if_icmp .gt 7, 3) := by decide +kernel
theorem dX13_isDigit_12 : decode cX13_isDigit 12 = .ok (.iconst 1, 1) := by decide +kernel
theorem dX13_isDigit_13 : decode cX13_isDigit 13 = .ok (.goto 4, 3) := by decide +kernel
theorem dX13_isDigit_16 : decode cX13_isDigit 16 = .ok (.iconst 0, 1) := by decide +kernel
theorem dX13_isDigit_17 : decode cX13_isDigit 17 = .ok (.ireturn, 1) := by decide +kernel
theorem dX13_packed_0 : decode cX13_packed 0 = .ok (.lconst 0, 1) := by decide +kernel
theorem dX13_packed_1 : decode cX13_packed 1 = .ok (.lstore_n 1, 1) := by decide +kernel
theorem dX13_packed_2 : decode cX13_packed 2 = .ok (.iconst 0, 1) := by decide +kernel
theorem dX13_packed_3 : decode cX13_packed 3 = .ok (.istore_n 3, 1) := by decide +kernel
theorem dX13_packed_4 : decode cX13_packed 4 = .ok (.iload_n 3, 1) := by decide +kernel
theorem dX13_packed_5 : decode cX13_packed 5 = .ok (.aload_n 0, 1) := by decide +kernel
theorem dX13_packed_6 : decode cX13_packed 6 = .ok (.invokevirtual 88, 3) := by decide +kernel
theorem dX13_packed_9 : decode cX13_packed 9 = .ok (.if_icmp .ge 27, 3) := by decide +kernel
theorem dX13_packed_12 : decode cX13_packed 12 = .ok (.ldc2_w 94, 3) := by decide +kernel
theorem dX13_packed_15 : decode cX13_packed 15 = .ok (.lload_n 1, 1) := by decide +kernel
theorem dX13_packed_16 : decode cX13_packed 16 = .ok (.lmul, 1) := by decide +kernel
theorem dX13_packed_17 : decode cX13_packed 17 = .ok (.aload_n 0, 1) := by decide +kernel
theorem dX13_packed_18 : decode cX13_packed 18 = .ok (.iload_n 3, 1) := by decide +kernel
theorem dX13_packed_19 : decode cX13_packed 19 = .ok (.invokevirtual 96, 3) := by decide +kernel
theorem dX13_packed_22 : decode cX13_packed 22 = .ok (.bipush 97, 2) := by decide +kernel
theorem dX13_packed_24 : decode cX13_packed 24 = .ok (.isub, 1) := by decide +kernel
theorem dX13_packed_25 : decode cX13_packed 25 = .ok (.iconst 1, 1) := by decide +kernel
theorem dX13_packed_26 : decode cX13_packed 26 = .ok (.iadd, 1) := by decide +kernel
theorem dX13_packed_27 : decode cX13_packed 27 = .ok (.i2l, 1) := by decide +kernel
theorem dX13_packed_28 : decode cX13_packed 28 = .ok (.ladd, 1) := by decide +kernel
theorem dX13_packed_29 : decode cX13_packed 29 = .ok (.lstore_n 1, 1) := by decide +kernel
theorem dX13_packed_30 : decode cX13_packed 30 = .ok (.iinc 3 1, 3) := by decide +kernel
theorem dX13_packed_33 : decode cX13_packed 33 = .ok (.goto (-29), 3) := by decide +kernel
theorem dX13_packed_36 : decode cX13_packed 36 = .ok (.lload_n 1, 1) := by decide +kernel
theorem dX13_packed_37 : decode cX13_packed 37 = .ok (.lreturn, 1) := by decide +kernel
theorem dX13_goesOn_0 : decode cX13_goesOn 0 = .ok (.aload_n 0, 1) := by decide +kernel
theorem dX13_goesOn_1 : decode cX13_goesOn 1 = .ok (.getfield 100, 3) := by decide +kernel
theorem dX13_goesOn_4 : decode cX13_goesOn 4 = .ok (.iconst 5, 1) := by decide +kernel
theorem dX13_goesOn_5 : decode cX13_goesOn 5 = .ok (.if_icmp .ne 4, 3) := by decide +kernel
theorem dX13_goesOn_8 : decode cX13_goesOn 8 = .ok (.return_, 1) := by decide +kernel
theorem dX13_goesOn_9 : decode cX13_goesOn 9 = .ok (.aload_n 0, 1) := by decide +kernel
theorem dX13_goesOn_10 : decode cX13_goesOn 10 = .ok (.aload_n 0, 1) := by decide +kernel
theorem dX13_goesOn_11 : decode cX13_goesOn 11 = .ok (.getfield 103, 3) := by decide +kernel
theorem dX13_goesOn_14 : decode cX13_goesOn 14 = .ok (.invokevirtual 106, 3) := by decide +kernel
theorem dX13_goesOn_17 : decode cX13_goesOn 17 = .ok (.bipush 32, 2) := by decide +kernel
theorem dX13_goesOn_19 : decode cX13_goesOn 19 = .ok (.if_icmp .ne 16, 3) := by decide +kernel
theorem dX13_goesOn_22 : decode cX13_goesOn 22 = .ok (.aload_n 0, 1) := by decide +kernel
theorem dX13_goesOn_23 : decode cX13_goesOn 23 = .ok (.dup, 1) := by decide +kernel
theorem dX13_goesOn_24 : decode cX13_goesOn 24 = .ok (.getfield 103, 3) := by decide +kernel
theorem dX13_goesOn_27 : decode cX13_goesOn 27 = .ok (.iconst 1, 1) := by decide +kernel
theorem dX13_goesOn_28 : decode cX13_goesOn 28 = .ok (.iadd, 1) := by decide +kernel
theorem dX13_goesOn_29 : decode cX13_goesOn 29 = .ok (.putfield 103, 3) := by decide +kernel
theorem dX13_goesOn_32 : decode cX13_goesOn 32 = .ok (.goto (-23), 3) := by decide +kernel
theorem dX13_goesOn_35 : decode cX13_goesOn 35 = .ok (.aload_n 0, 1) := by decide +kernel
theorem dX13_goesOn_36 : decode cX13_goesOn 36 = .ok (.aload_n 0, 1) := by decide +kernel
theorem dX13_goesOn_37 : decode cX13_goesOn 37 = .ok (.getfield 103, 3) := by decide +kernel
theorem dX13_goesOn_40 : decode cX13_goesOn 40 = .ok (.putfield 109, 3) := by decide +kernel
theorem dX13_goesOn_43 : decode cX13_goesOn 43 = .ok (.aload_n 0, 1) := by decide +kernel
theorem dX13_goesOn_44 : decode cX13_goesOn 44 = .ok (.iconst 0, 1) := by decide +kernel
theorem dX13_goesOn_45 : decode cX13_goesOn 45 = .ok (.putfield 100, 3) := by decide +kernel
theorem dX13_goesOn_48 : decode cX13_goesOn 48 = .ok (.aload_n 0, 1) := by decide +kernel
theorem dX13_goesOn_49 : decode cX13_goesOn 49 = .ok (.iconst 0, 1) := by decide +kernel
theorem dX13_goesOn_50 : decode cX13_goesOn 50 = .ok (.putfield 112, 3) := by decide +kernel
theorem dX13_goesOn_53 : decode cX13_goesOn 53 = .ok (.aload_n 0, 1) := by decide +kernel
theorem dX13_goesOn_54 : decode cX13_goesOn 54 = .ok (.aload_n 0, 1) := by decide +kernel
theorem dX13_goesOn_55 : decode cX13_goesOn 55 = .ok (.getfield 103, 3) := by decide +kernel
theorem dX13_goesOn_58 : decode cX13_goesOn 58 = .ok (.invokevirtual 106, 3) := by decide +kernel
theorem dX13_goesOn_61 : decode cX13_goesOn 61 = .ok (.istore_n 1, 1) := by decide +kernel
theorem dX13_goesOn_62 : decode cX13_goesOn 62 = .ok (.iconst 0, 1) := by decide +kernel
theorem dX13_goesOn_63 : decode cX13_goesOn 63 = .ok (.istore_n 2, 1) := by decide +kernel
theorem dX13_goesOn_64 : decode cX13_goesOn 64 = .ok (.iload_n 1, 1) := by decide +kernel
theorem dX13_goesOn_65 : decode cX13_goesOn 65 = .ok (.iconst (-1), 1) := by decide +kernel
theorem dX13_goesOn_66 : decode cX13_goesOn 66 = .ok (.if_icmp .ne 11, 3) := by decide +kernel
theorem dX13_goesOn_69 : decode cX13_goesOn 69 = .ok (.aload_n 0, 1) := by decide +kernel
theorem dX13_goesOn_70 : decode cX13_goesOn 70 = .ok (.iconst 1, 1) := by decide +kernel
theorem dX13_goesOn_71 : decode cX13_goesOn 71 = .ok (.putfield 100, 3) := by decide +kernel
theorem dX13_goesOn_74 : decode cX13_goesOn 74 = .ok (.goto 207, 3) := by decide +kernel
theorem dX13_goesOn_77 : decode cX13_goesOn 77 = .ok (.iload_n 1, 1) := by decide +kernel
theorem dX13_goesOn_78 : decode cX13_goesOn 78 = .ok (.invokestatic 115, 3) := by decide +kernel
theorem dX13_goesOn_81 : decode cX13_goesOn 81 = .ok (.ifCond .eq 85, 3) := by decide +kernel
theorem dX13_goesOn_84 : decode cX13_goesOn 84 = .ok (.aload_n 0, 1) := by decide +kernel
theorem dX13_goesOn_85 : decode cX13_goesOn 85 = .ok (.lconst 0, 1) := by decide +kernel
theorem dX13_goesOn_86 : decode cX13_goesOn 86 = .ok (.putfield 119, 3) := by decide +kernel
theorem dX13_goesOn_89 : decode cX13_goesOn 89 = .ok (.aload_n 0, 1) := by decide +kernel
theorem dX13_goesOn_90 : decode cX13_goesOn 90 = .ok (.aload_n 0, 1) := by decide +kernel
theorem dX13_goesOn_91 : decode cX13_goesOn 91 = .ok (.getfield 103, 3) := by decide +kernel
theorem dX13_goesOn_94 : decode cX13_goesOn 94 = .ok (.invokevirtual 106, 3) := by decide +kernel
theorem dX13_goesOn_97 : decode cX13_goesOn 97 = .ok (.invokestatic 115, 3) := by decide +kernel
theorem dX13_goesOn_100 : decode cX13_goesOn 100 = .ok (.ifCond .eq 52, 3) := by decide +kernel
theorem dX13_goesOn_103 : decode cX13_goesOn 103 = .ok (.iload_n 2, 1) := by decide +kernel
theorem dX13_goesOn_104 : decode cX13_goesOn 104 = .ok (.bipush 9, 2) := by decide +kernel
theorem dX13_goesOn_106 : decode cX13_goesOn 106 = .ok (.if_icmp .ge 30, 3) := by decide +kernel
theorem dX13_goesOn_109 : decode cX13_goesOn 109 = .ok (.aload_n 0, 1) := by decide +kernel
theorem dX13_goesOn_110 : decode cX13_goesOn 110 = .ok (.ldc2_w 94, 3) := by decide +kernel
theorem dX13_goesOn_113 : decode cX13_goesOn 113 = .ok (.aload_n 0, 1) := by decide +kernel
theorem dX13_goesOn_114 : decode cX13_goesOn 114 = .ok (.getfield 119, 3) := by decide +kernel
theorem dX13_goesOn_117 : decode cX13_goesOn 117 = .ok (.lmul, 1) := by decide +kernel
theorem dX13_goesOn_118 : decode cX13_goesOn 118 = .ok (.aload_n 0, 1) := by decide +kernel
theorem dX13_goesOn_119 : decode cX13_goesOn 119 = .ok (.aload_n 0, 1) := by decide +kernel
theorem dX13_goesOn_120 : decode cX13_goesOn 120 = .ok (.getfield 103, 3) := by decide +kernel
theorem dX13_goesOn_123 : decode cX13_goesOn 123 = .ok (.invokevirtual 106, 3) := by decide +kernel
theorem dX13_goesOn_126 : decode cX13_goesOn 126 = .ok (.bipush 97, 2) := by decide +kernel
theorem dX13_goesOn_128 : decode cX13_goesOn 128 = .ok (.isub, 1) := by decide +kernel
theorem dX13_goesOn_129 : decode cX13_goesOn 129 = .ok (.iconst 1, 1) := by decide +kernel
theorem dX13_goesOn_130 : decode cX13_goesOn 130 = .ok (.iadd, 1) := by decide +kernel
theorem dX13_goesOn_131 : decode cX13_goesOn 131 = .ok (.i2l, 1) := by decide +kernel
theorem dX13_goesOn_132 : decode cX13_goesOn 132 = .ok (.ladd, 1) := by decide +kernel
theorem dX13_goesOn_133 : decode cX13_goesOn 133 = .ok (.putfield 119, 3) := by decide +kernel
theorem dX13_goesOn_136 : decode cX13_goesOn 136 = .ok (.iinc 2 1, 3) := by decide +kernel
theorem dX13_goesOn_139 : decode cX13_goesOn 139 = .ok (.aload_n 0, 1) := by decide +kernel
theorem dX13_goesOn_140 : decode cX13_goesOn 140 = .ok (.dup, 1) := by decide +kernel
theorem dX13_goesOn_141 : decode cX13_goesOn 141 = .ok (.getfield 103, 3) := by decide +kernel
theorem dX13_goesOn_144 : decode cX13_goesOn 144 = .ok (.iconst 1, 1) := by decide +kernel
theorem dX13_goesOn_145 : decode cX13_goesOn 145 = .ok (.iadd, 1) := by decide +kernel
theorem dX13_goesOn_146 : decode cX13_goesOn 146 = .ok (.putfield 103, 3) := by decide +kernel
theorem dX13_goesOn_149 : decode cX13_goesOn 149 = .ok (.goto (-60), 3) := by decide +kernel
theorem dX13_goesOn_152 : decode cX13_goesOn 152 = .ok (.iload_n 2, 1) := by decide +kernel
theorem dX13_goesOn_153 : decode cX13_goesOn 153 = .ok (.bipush 9, 2) := by decide +kernel
theorem dX13_goesOn_155 : decode cX13_goesOn 155 = .ok (.if_icmp .gt 126, 3) := by decide +kernel
theorem dX13_goesOn_158 : decode cX13_goesOn 158 = .ok (.aload_n 0, 1) := by decide +kernel
theorem dX13_goesOn_159 : decode cX13_goesOn 159 = .ok (.iconst 2, 1) := by decide +kernel
theorem dX13_goesOn_160 : decode cX13_goesOn 160 = .ok (.putfield 100, 3) := by decide +kernel
theorem dX13_goesOn_163 : decode cX13_goesOn 163 = .ok (.goto 118, 3) := by decide +kernel
theorem dX13_goesOn_166 : decode cX13_goesOn 166 = .ok (.iload_n 1, 1) := by decide +kernel
theorem dX13_goesOn_167 : decode cX13_goesOn 167 = .ok (.invokestatic 123, 3) := by decide +kernel
theorem dX13_goesOn_170 : decode cX13_goesOn 170 = .ok (.ifCond .eq 79, 3) := by decide +kernel
theorem dX13_goesOn_173 : decode cX13_goesOn 173 = .ok (.aload_n 0, 1) := by decide +kernel
theorem dX13_goesOn_174 : decode cX13_goesOn 174 = .ok (.iconst 0, 1) := by decide +kernel
theorem dX13_goesOn_175 : decode cX13_goesOn 175 = .ok (.putfield 126, 3) := by decide +kernel
theorem dX13_goesOn_178 : decode cX13_goesOn 178 = .ok (.aload_n 0, 1) := by decide +kernel
theorem dX13_goesOn_179 : decode cX13_goesOn 179 = .ok (.aload_n 0, 1) := by decide +kernel
theorem dX13_goesOn_180 : decode cX13_goesOn 180 = .ok (.getfield 103, 3) := by decide +kernel
theorem dX13_goesOn_183 : decode cX13_goesOn 183 = .ok (.invokevirtual 106, 3) := by decide +kernel
theorem dX13_goesOn_186 : decode cX13_goesOn 186 = .ok (.invokestatic 123, 3) := by decide +kernel
theorem dX13_goesOn_189 : decode cX13_goesOn 189 = .ok (.ifCond .eq 47, 3) := by decide +kernel
theorem dX13_goesOn_192 : decode cX13_goesOn 192 = .ok (.iload_n 2, 1) := by decide +kernel
theorem dX13_goesOn_193 : decode cX13_goesOn 193 = .ok (.iconst 2, 1) := by decide +kernel
theorem dX13_goesOn_194 : decode cX13_goesOn 194 = .ok (.if_icmp .ge 26, 3) := by decide +kernel
theorem dX13_goesOn_197 : decode cX13_goesOn 197 = .ok (.aload_n 0, 1) := by decide +kernel
theorem dX13_goesOn_198 : decode cX13_goesOn 198 = .ok (.bipush 10, 2) := by decide +kernel
theorem dX13_goesOn_200 : decode cX13_goesOn 200 = .ok (.aload_n 0, 1) := by decide +kernel
theorem dX13_goesOn_201 : decode cX13_goesOn 201 = .ok (.getfield 126, 3) := by decide +kernel
theorem dX13_goesOn_204 : decode cX13_goesOn 204 = .ok (.imul, 1) := by decide +kernel
theorem dX13_goesOn_205 : decode cX13_goesOn 205 = .ok (.aload_n 0, 1) := by decide +kernel
theorem dX13_goesOn_206 : decode cX13_goesOn 206 = .ok (.aload_n 0, 1) := by decide +kernel
theorem dX13_goesOn_207 : decode cX13_goesOn 207 = .ok (.getfield 103, 3) := by decide +kernel
theorem dX13_goesOn_210 : decode cX13_goesOn 210 = .ok (.invokevirtual 106, 3) := by decide +kernel
theorem dX13_goesOn_213 : decode cX13_goesOn 213 = .ok (.iadd, 1) := by decide +kernel
theorem dX13_goesOn_214 : decode cX13_goesOn 214 = .ok (.bipush 48, 2) := by decide +kernel
theorem dX13_goesOn_216 : decode cX13_goesOn 216 = .ok (.isub, 1) := by decide +kernel
theorem dX13_goesOn_217 : decode cX13_goesOn 217 = .ok (.putfield 126, 3) := by decide +kernel
theorem dX13_goesOn_220 : decode cX13_goesOn 220 = .ok (.iinc 2 1, 3) := by decide +kernel
theorem dX13_goesOn_223 : decode cX13_goesOn 223 = .ok (.aload_n 0, 1) := by decide +kernel
theorem dX13_goesOn_224 : decode cX13_goesOn 224 = .ok (.dup, 1) := by decide +kernel
theorem dX13_goesOn_225 : decode cX13_goesOn 225 = .ok (.getfield 103, 3) := by decide +kernel
theorem dX13_goesOn_228 : decode cX13_goesOn 228 = .ok (.iconst 1, 1) := by decide +kernel
theorem dX13_goesOn_229 : decode cX13_goesOn 229 = .ok (.iadd, 1) := by decide +kernel
theorem dX13_goesOn_230 : decode cX13_goesOn 230 = .ok (.putfield 103, 3) := by decide +kernel
theorem dX13_goesOn_233 : decode cX13_goesOn 233 = .ok (.goto (-55), 3) := by decide +kernel
theorem dX13_goesOn_236 : decode cX13_goesOn 236 = .ok (.iload_n 2, 1) := by decide +kernel
theorem dX13_goesOn_237 : decode cX13_goesOn 237 = .ok (.iconst 2, 1) := by decide +kernel
theorem dX13_goesOn_238 : decode cX13_goesOn 238 = .ok (.if_icmp .gt 43, 3) := by decide +kernel
theorem dX13_goesOn_241 : decode cX13_goesOn 241 = .ok (.aload_n 0, 1) := by decide +kernel
theorem dX13_goesOn_242 : decode cX13_goesOn 242 = .ok (.iconst 3, 1) := by decide +kernel
theorem dX13_goesOn_243 : decode cX13_goesOn 243 = .ok (.putfield 100, 3) := by decide +kernel
theorem dX13_goesOn_246 : decode cX13_goesOn 246 = .ok (.goto 35, 3) := by decide +kernel
theorem dX13_goesOn_249 : decode cX13_goesOn 249 = .ok (.iload_n 1, 1) := by decide +kernel
theorem dX13_goesOn_250 : decode cX13_goesOn 250 = .ok (.bipush 59, 2) := by decide +kernel
theorem dX13_goesOn_252 : decode cX13_goesOn 252 = .ok (.if_icmp .eq 9, 3) := by decide +kernel
theorem dX13_goesOn_255 : decode cX13_goesOn 255 = .ok (.iload_n 1, 1) := by decide +kernel
theorem dX13_goesOn_256 : decode cX13_goesOn 256 = .ok (.bipush 44, 2) := by decide +kernel
theorem dX13_goesOn_258 : decode cX13_goesOn 258 = .ok (.if_icmp .ne 23, 3) := by decide +kernel
theorem dX13_goesOn_261 : decode cX13_goesOn 261 = .ok (.aload_n 0, 1) := by decide +kernel
theorem dX13_goesOn_262 : decode cX13_goesOn 262 = .ok (.iconst 4, 1) := by decide +kernel
theorem dX13_goesOn_263 : decode cX13_goesOn 263 = .ok (.putfield 100, 3) := by decide +kernel
theorem dX13_goesOn_266 : decode cX13_goesOn 266 = .ok (.aload_n 0, 1) := by decide +kernel
theorem dX13_goesOn_267 : decode cX13_goesOn 267 = .ok (.iload_n 1, 1) := by decide +kernel
theorem dX13_goesOn_268 : decode cX13_goesOn 268 = .ok (.putfield 112, 3) := by decide +kernel
theorem dX13_goesOn_271 : decode cX13_goesOn 271 = .ok (.aload_n 0, 1) := by decide +kernel
theorem dX13_goesOn_272 : decode cX13_goesOn 272 = .ok (.dup, 1) := by decide +kernel
theorem dX13_goesOn_273 : decode cX13_goesOn 273 = .ok (.getfield 103, 3) := by decide +kernel
theorem dX13_goesOn_276 : decode cX13_goesOn 276 = .ok (.iconst 1, 1) := by decide +kernel
theorem dX13_goesOn_277 : decode cX13_goesOn 277 = .ok (.iadd, 1) := by decide +kernel
theorem dX13_goesOn_278 : decode cX13_goesOn 278 = .ok (.putfield 103, 3) := by decide +kernel
theorem dX13_goesOn_281 : decode cX13_goesOn 281 = .ok (.return_, 1) := by decide +kernel
theorem dX13_flaw_0 : decode cX13_flaw 0 = .ok (.aload_n 0, 1) := by decide +kernel
theorem dX13_flaw_1 : decode cX13_flaw 1 = .ok (.getfield 100, 3) := by decide +kernel
theorem dX13_flaw_4 : decode cX13_flaw 4 = .ok (.iconst 5, 1) := by decide +kernel
theorem dX13_flaw_5 : decode cX13_flaw 5 = .ok (.if_icmp .ne 4, 3) := by decide +kernel
theorem dX13_flaw_8 : decode cX13_flaw 8 = .ok (.return_, 1) := by decide +kernel
theorem dX13_flaw_9 : decode cX13_flaw 9 = .ok (.aload_n 0, 1) := by decide +kernel
theorem dX13_flaw_10 : decode cX13_flaw 10 = .ok (.iload_n 1, 1) := by decide +kernel
theorem dX13_flaw_11 : decode cX13_flaw 11 = .ok (.putfield 129, 3) := by decide +kernel
theorem dX13_flaw_14 : decode cX13_flaw 14 = .ok (.aload_n 0, 1) := by decide +kernel
theorem dX13_flaw_15 : decode cX13_flaw 15 = .ok (.aload_n 0, 1) := by decide +kernel
theorem dX13_flaw_16 : decode cX13_flaw 16 = .ok (.getfield 109, 3) := by decide +kernel
theorem dX13_flaw_19 : decode cX13_flaw 19 = .ok (.putfield 132, 3) := by decide +kernel
theorem dX13_flaw_22 : decode cX13_flaw 22 = .ok (.aload_n 0, 1) := by decide +kernel
theorem dX13_flaw_23 : decode cX13_flaw 23 = .ok (.iconst 5, 1) := by decide +kernel
theorem dX13_flaw_24 : decode cX13_flaw 24 = .ok (.putfield 100, 3) := by decide +kernel
theorem dX13_flaw_27 : decode cX13_flaw 27 = .ok (.return_, 1) := by decide +kernel
theorem dX13_isWord_0 : decode cX13_isWord 0 = .ok (.aload_n 0, 1) := by decide +kernel
theorem dX13_isWord_1 : decode cX13_isWord 1 = .ok (.getfield 100, 3) := by decide +kernel
theorem dX13_isWord_4 : decode cX13_isWord 4 = .ok (.iconst 2, 1) := by decide +kernel
theorem dX13_isWord_5 : decode cX13_isWord 5 = .ok (.if_icmp .ne 19, 3) := by decide +kernel
theorem dX13_isWord_8 : decode cX13_isWord 8 = .ok (.aload_n 0, 1) := by decide +kernel
theorem dX13_isWord_9 : decode cX13_isWord 9 = .ok (.getfield 119, 3) := by decide +kernel
theorem dX13_isWord_12 : decode cX13_isWord 12 = .ok (.aload_n 1, 1) := by decide +kernel
theorem dX13_isWord_13 : decode cX13_isWord 13 = .ok (.invokestatic 135, 3) := by decide +kernel
theorem dX13_isWord_16 : decode cX13_isWord 16 = .ok (.lcmp, 1) := by decide +kernel
theorem dX13_isWord_17 : decode cX13_isWord 17 = .ok (.ifCond .ne 7, 3) := by decide +kernel
theorem dX13_isWord_20 : decode cX13_isWord 20 = .ok (.iconst 1, 1) := by decide +kernel
theorem dX13_isWord_21 : decode cX13_isWord 21 = .ok (.goto 4, 3) := by decide +kernel
theorem dX13_isWord_24 : decode cX13_isWord 24 = .ok (.iconst 0, 1) := by decide +kernel
theorem dX13_isWord_25 : decode cX13_isWord 25 = .ok (.ireturn, 1) := by decide +kernel
theorem dX13_eatsSign_0 : decode cX13_eatsSign 0 = .ok (.aload_n 0, 1) := by decide +kernel
theorem dX13_eatsSign_1 : decode cX13_eatsSign 1 = .ok (.getfield 100, 3) := by decide +kernel
theorem dX13_eatsSign_4 : decode cX13_eatsSign 4 = .ok (.iconst 4, 1) := by decide +kernel
theorem dX13_eatsSign_5 : decode cX13_eatsSign 5 = .ok (.if_icmp .ne 15, 3) := by decide +kernel
theorem dX13_eatsSign_8 : decode cX13_eatsSign 8 = .ok (.aload_n 0, 1) := by decide +kernel
theorem dX13_eatsSign_9 : decode cX13_eatsSign 9 = .ok (.getfield 112, 3) := by decide +kernel
theorem dX13_eatsSign_12 : decode cX13_eatsSign 12 = .ok (.iload_n 1, 1) := by decide +kernel
theorem dX13_eatsSign_13 : decode cX13_eatsSign 13 = .ok (.if_icmp .ne 7, 3) := by decide +kernel
theorem dX13_eatsSign_16 : decode cX13_eatsSign 16 = .ok (.iconst 1, 1) := by decide +kernel
theorem dX13_eatsSign_17 : decode cX13_eatsSign 17 = .ok (.goto 4, 3) := by decide +kernel
theorem dX13_eatsSign_20 : decode cX13_eatsSign 20 = .ok (.iconst 0, 1) := by decide +kernel
theorem dX13_eatsSign_21 : decode cX13_eatsSign 21 = .ok (.istore_n 2, 1) := by decide +kernel
theorem dX13_eatsSign_22 : decode cX13_eatsSign 22 = .ok (.iload_n 2, 1) := by decide +kernel
theorem dX13_eatsSign_23 : decode cX13_eatsSign 23 = .ok (.ifCond .eq 7, 3) := by decide +kernel
theorem dX13_eatsSign_26 : decode cX13_eatsSign 26 = .ok (.aload_n 0, 1) := by decide +kernel
theorem dX13_eatsSign_27 : decode cX13_eatsSign 27 = .ok (.invokevirtual 139, 3) := by decide +kernel
theorem dX13_eatsSign_30 : decode cX13_eatsSign 30 = .ok (.iload_n 2, 1) := by decide +kernel
theorem dX13_eatsSign_31 : decode cX13_eatsSign 31 = .ok (.ireturn, 1) := by decide +kernel
theorem dX13_needs_0 : decode cX13_needs 0 = .ok (.aload_n 0, 1) := by decide +kernel
theorem dX13_needs_1 : decode cX13_needs 1 = .ok (.aload_n 1, 1) := by decide +kernel
theorem dX13_needs_2 : decode cX13_needs 2 = .ok (.invokevirtual 142, 3) := by decide +kernel
theorem dX13_needs_5 : decode cX13_needs 5 = .ok (.ifCond .ne 8, 3) := by decide +kernel
theorem dX13_needs_8 : decode cX13_needs 8 = .ok (.aload_n 0, 1) := by decide +kernel
theorem dX13_needs_9 : decode cX13_needs 9 = .ok (.iconst 1, 1) := by decide +kernel
theorem dX13_needs_10 : decode cX13_needs 10 = .ok (.invokevirtual 146, 3) := by decide +kernel
theorem dX13_needs_13 : decode cX13_needs 13 = .ok (.aload_n 0, 1) := by decide +kernel
theorem dX13_needs_14 : decode cX13_needs 14 = .ok (.invokevirtual 139, 3) := by decide +kernel
theorem dX13_needs_17 : decode cX13_needs 17 = .ok (.return_, 1) := by decide +kernel
theorem dX13_readWhole_0 : decode cX13_readWhole 0 = .ok (.aload_n 0, 1) := by decide +kernel
theorem dX13_readWhole_1 : decode cX13_readWhole 1 = .ok (.getfield 100, 3) := by decide +kernel
theorem dX13_readWhole_4 : decode cX13_readWhole 4 = .ok (.iconst 3, 1) := by decide +kernel
theorem dX13_readWhole_5 : decode cX13_readWhole 5 = .ok (.if_icmp .eq 11, 3) := by decide +kernel
theorem dX13_readWhole_8 : decode cX13_readWhole 8 = .ok (.aload_n 0, 1) := by decide +kernel
theorem dX13_readWhole_9 : decode cX13_readWhole 9 = .ok (.iconst 1, 1) := by decide +kernel
theorem dX13_readWhole_10 : decode cX13_readWhole 10 = .ok (.invokevirtual 146, 3) := by decide +kernel
theorem dX13_readWhole_13 : decode cX13_readWhole 13 = .ok (.goto 20, 3) := by decide +kernel
theorem dX13_readWhole_16 : decode cX13_readWhole 16 = .ok (.aload_n 0, 1) := by decide +kernel
theorem dX13_readWhole_17 : decode cX13_readWhole 17 = .ok (.getfield 126, 3) := by decide +kernel
theorem dX13_readWhole_20 : decode cX13_readWhole 20 = .ok (.iload_n 1, 1) := by decide +kernel
theorem dX13_readWhole_21 : decode cX13_readWhole 21 = .ok (.iload_n 2, 1) := by decide +kernel
theorem dX13_readWhole_22 : decode cX13_readWhole 22 = .ok (.invokestatic 150, 3) := by decide +kernel
theorem dX13_readWhole_25 : decode cX13_readWhole 25 = .ok (.ifCond .ne 8, 3) := by decide +kernel
theorem dX13_readWhole_28 : decode cX13_readWhole 28 = .ok (.aload_n 0, 1) := by decide +kernel
theorem dX13_readWhole_29 : decode cX13_readWhole 29 = .ok (.iconst 4, 1) := by decide +kernel
theorem dX13_readWhole_30 : decode cX13_readWhole 30 = .ok (.invokevirtual 146, 3) := by decide +kernel
theorem dX13_readWhole_33 : decode cX13_readWhole 33 = .ok (.aload_n 0, 1) := by decide +kernel
theorem dX13_readWhole_34 : decode cX13_readWhole 34 = .ok (.getfield 100, 3) := by decide +kernel
theorem dX13_readWhole_37 : decode cX13_readWhole 37 = .ok (.iconst 5, 1) := by decide +kernel
theorem dX13_readWhole_38 : decode cX13_readWhole 38 = .ok (.if_icmp .ne 7, 3) := by decide +kernel
theorem dX13_readWhole_41 : decode cX13_readWhole 41 = .ok (.iload_n 1, 1) := by decide +kernel
theorem dX13_readWhole_42 : decode cX13_readWhole 42 = .ok (.goto 7, 3) := by decide +kernel
theorem dX13_readWhole_45 : decode cX13_readWhole 45 = .ok (.aload_n 0, 1) := by decide +kernel
theorem dX13_readWhole_46 : decode cX13_readWhole 46 = .ok (.getfield 126, 3) := by decide +kernel
theorem dX13_readWhole_49 : decode cX13_readWhole 49 = .ok (.istore_n 3, 1) := by decide +kernel
theorem dX13_readWhole_50 : decode cX13_readWhole 50 = .ok (.aload_n 0, 1) := by decide +kernel
theorem dX13_readWhole_51 : decode cX13_readWhole 51 = .ok (.invokevirtual 139, 3) := by decide +kernel
theorem dX13_readWhole_54 : decode cX13_readWhole 54 = .ok (.iload_n 3, 1) := by decide +kernel
theorem dX13_readWhole_55 : decode cX13_readWhole 55 = .ok (.ireturn, 1) := by decide +kernel
theorem dX13_readPart_0 : decode cX13_readPart 0 = .ok (.aload_n 0, 1) := by decide +kernel
theorem dX13_readPart_1 : decode cX13_readPart 1 = .ok (.aload_n 1, 1) := by decide +kernel
theorem dX13_readPart_2 : decode cX13_readPart 2 = .ok (.invokevirtual 154, 3) := by decide +kernel
theorem dX13_readPart_5 : decode cX13_readPart 5 = .ok (.aload_n 0, 1) := by decide +kernel
theorem dX13_readPart_6 : decode cX13_readPart 6 = .ok (.iload_n 2, 1) := by decide +kernel
theorem dX13_readPart_7 : decode cX13_readPart 7 = .ok (.iload_n 3, 1) := by decide +kernel
theorem dX13_readPart_8 : decode cX13_readPart 8 = .ok (.invokevirtual 158, 3) := by decide +kernel
theorem dX13_readPart_11 : decode cX13_readPart 11 = .ok (.ireturn, 1) := by decide +kernel
theorem dX13_isName_0 : decode cX13_isName 0 = .ok (.aload_n 0, 1) := by decide +kernel
theorem dX13_isName_1 : decode cX13_isName 1 = .ok (.getfield 100, 3) := by decide +kernel
theorem dX13_isName_4 : decode cX13_isName 4 = .ok (.iconst 2, 1) := by decide +kernel
theorem dX13_isName_5 : decode cX13_isName 5 = .ok (.if_icmp .ne 57, 3) := by decide +kernel
theorem dX13_isName_8 : decode cX13_isName 8 = .ok (.aload_n 0, 1) := by decide +kernel
theorem dX13_isName_9 : decode cX13_isName 9 = .ok (.ldc 162, 2) := by decide +kernel
theorem dX13_isName_11 : decode cX13_isName 11 = .ok (.invokevirtual 142, 3) := by decide +kernel
theorem dX13_isName_14 : decode cX13_isName 14 = .ok (.ifCond .ne 48, 3) := by decide +kernel
theorem dX13_isName_17 : decode cX13_isName 17 = .ok (.aload_n 0, 1) := by decide +kernel
theorem dX13_isName_18 : decode cX13_isName 18 = .ok (.ldc 164, 2) := by decide +kernel
theorem dX13_isName_20 : decode cX13_isName 20 = .ok (.invokevirtual 142, 3) := by decide +kernel
theorem dX13_isName_23 : decode cX13_isName 23 = .ok (.ifCond .ne 39, 3) := by decide +kernel
theorem dX13_isName_26 : decode cX13_isName 26 = .ok (.aload_n 0, 1) := by decide +kernel
theorem dX13_isName_27 : decode cX13_isName 27 = .ok (.ldc 166, 2) := by decide +kernel
theorem dX13_isName_29 : decode cX13_isName 29 = .ok (.invokevirtual 142, 3) := by decide +kernel
theorem dX13_isName_32 : decode cX13_isName 32 = .ok (.ifCond .ne 30, 3) := by decide +kernel
theorem dX13_isName_35 : decode cX13_isName 35 = .ok (.aload_n 0, 1) := by decide +kernel
theorem dX13_isName_36 : decode cX13_isName 36 = .ok (.ldc 168, 2) := by decide +kernel
theorem dX13_isName_38 : decode cX13_isName 38 = .ok (.invokevirtual 142, 3) := by decide +kernel
theorem dX13_isName_41 : decode cX13_isName 41 = .ok (.ifCond .ne 21, 3) := by decide +kernel
theorem dX13_isName_44 : decode cX13_isName 44 = .ok (.aload_n 0, 1) := by decide +kernel
theorem dX13_isName_45 : decode cX13_isName 45 = .ok (.ldc 169, 2) := by decide +kernel
theorem dX13_isName_47 : decode cX13_isName 47 = .ok (.invokevirtual 142, 3) := by decide +kernel
theorem dX13_isName_50 : decode cX13_isName 50 = .ok (.ifCond .ne 12, 3) := by decide +kernel
theorem dX13_isName_53 : decode cX13_isName 53 = .ok (.aload_n 0, 1) := by decide +kernel
theorem dX13_isName_54 : decode cX13_isName 54 = .ok (.ldc 170, 2) := by decide +kernel
theorem dX13_isName_56 : decode cX13_isName 56 = .ok (.invokevirtual 142, 3) := by decide +kernel
theorem dX13_isName_59 : decode cX13_isName 59 = .ok (.ifCond .eq 5, 3) := by decide +kernel
theorem dX13_isName_62 : decode cX13_isName 62 = .ok (.iconst 0, 1) := by decide +kernel
theorem dX13_isName_63 : decode cX13_isName 63 = .ok (.ireturn, 1) := by decide +kernel
theorem dX13_isName_64 : decode cX13_isName 64 = .ok (.aload_n 0, 1) := by decide +kernel
theorem dX13_isName_65 : decode cX13_isName 65 = .ok (.ldc 172, 2) := by decide +kernel
theorem dX13_isName_67 : decode cX13_isName 67 = .ok (.invokevirtual 142, 3) := by decide +kernel
theorem dX13_isName_70 : decode cX13_isName 70 = .ok (.ifCond .ne 61, 3) := by decide +kernel
theorem dX13_isName_73 : decode cX13_isName 73 = .ok (.aload_n 0, 1) := by decide +kernel
theorem dX13_isName_74 : decode cX13_isName 74 = .ok (.ldc 174, 2) := by decide +kernel
theorem dX13_isName_76 : decode cX13_isName 76 = .ok (.invokevirtual 142, 3) := by decide +kernel
theorem dX13_isName_79 : decode cX13_isName 79 = .ok (.ifCond .ne 52, 3) := by decide +kernel
theorem dX13_isName_82 : decode cX13_isName 82 = .ok (.aload_n 0, 1) := by decide +kernel
theorem dX13_isName_83 : decode cX13_isName 83 = .ok (.ldc 176, 2) := by decide +kernel
theorem dX13_isName_85 : decode cX13_isName 85 = .ok (.invokevirtual 142, 3) := by decide +kernel
theorem dX13_isName_88 : decode cX13_isName 88 = .ok (.ifCond .ne 43, 3) := by decide +kernel
theorem dX13_isName_91 : decode cX13_isName 91 = .ok (.aload_n 0, 1) := by decide +kernel
theorem dX13_isName_92 : decode cX13_isName 92 = .ok (.ldc 178, 2) := by decide +kernel
theorem dX13_isName_94 : decode cX13_isName 94 = .ok (.invokevirtual 142, 3) := by decide +kernel
theorem dX13_isName_97 : decode cX13_isName 97 = .ok (.ifCond .ne 34, 3) := by decide +kernel
theorem dX13_isName_100 : decode cX13_isName 100 = .ok (.aload_n 0, 1) := by decide +kernel
theorem dX13_isName_101 : decode cX13_isName 101 = .ok (.ldc 180, 2) := by decide +kernel
theorem dX13_isName_103 : decode cX13_isName 103 = .ok (.invokevirtual 142, 3) := by decide +kernel
theorem dX13_isName_106 : decode cX13_isName 106 = .ok (.ifCond .ne 25, 3) := by decide +kernel
theorem dX13_isName_109 : decode cX13_isName 109 = .ok (.aload_n 0, 1) := by decide +kernel
theorem dX13_isName_110 : decode cX13_isName 110 = .ok (.ldc 182, 2) := by decide +kernel
theorem dX13_isName_112 : decode cX13_isName 112 = .ok (.invokevirtual 142, 3) := by decide +kernel
theorem dX13_isName_115 : decode cX13_isName 115 = .ok (.ifCond .ne 16, 3) := by decide +kernel
theorem dX13_isName_118 : decode cX13_isName 118 = .ok (.aload_n 0, 1) := by decide +kernel
theorem dX13_isName_119 : decode cX13_isName 119 = .ok (.ldc 184, 2) := by decide +kernel
theorem dX13_isName_121 : decode cX13_isName 121 = .ok (.invokevirtual 142, 3) := by decide +kernel
theorem dX13_isName_124 : decode cX13_isName 124 = .ok (.ifCond .ne 7, 3) := by decide +kernel
theorem dX13_isName_127 : decode cX13_isName 127 = .ok (.iconst 1, 1) := by decide +kernel
theorem dX13_isName_128 : decode cX13_isName 128 = .ok (.goto 4, 3) := by decide +kernel
theorem dX13_isName_131 : decode cX13_isName 131 = .ok (.iconst 0, 1) := by decide +kernel
theorem dX13_isName_132 : decode cX13_isName 132 = .ok (.ireturn, 1) := by decide +kernel
theorem dX13_begins_0 : decode cX13_begins 0 = .ok (.iload_n 1, 1) := by decide +kernel
theorem dX13_begins_1 : decode cX13_begins 1 = .ok (.iload_n 2, 1) := by decide +kernel
theorem dX13_begins_2 : decode cX13_begins 2 = .ok (.if_icmp .ne 8, 3) := by decide +kernel
theorem dX13_begins_5 : decode cX13_begins 5 = .ok (.aload_n 0, 1) := by decide +kernel
theorem dX13_begins_6 : decode cX13_begins 6 = .ok (.iconst 5, 1) := by decide +kernel
theorem dX13_begins_7 : decode cX13_begins 7 = .ok (.invokevirtual 146, 3) := by decide +kernel
theorem dX13_begins_10 : decode cX13_begins 10 = .ok (.aload_n 0, 1) := by decide +kernel
theorem dX13_begins_11 : decode cX13_begins 11 = .ok (.getfield 185, 3) := by decide +kernel
theorem dX13_begins_14 : decode cX13_begins 14 = .ok (.getfield 189, 3) := by decide +kernel
theorem dX13_begins_17 : decode cX13_begins 17 = .ok (.ifCond .ne 9, 3) := by decide +kernel
theorem dX13_begins_20 : decode cX13_begins 20 = .ok (.aload_n 0, 1) := by decide +kernel
theorem dX13_begins_21 : decode cX13_begins 21 = .ok (.bipush 6, 2) := by decide +kernel
theorem dX13_begins_23 : decode cX13_begins 23 = .ok (.invokevirtual 146, 3) := by decide +kernel
theorem dX13_begins_26 : decode cX13_begins 26 = .ok (.aload_n 0, 1) := by decide +kernel
theorem dX13_begins_27 : decode cX13_begins 27 = .ok (.invokevirtual 139, 3) := by decide +kernel
theorem dX13_begins_30 : decode cX13_begins 30 = .ok (.return_, 1) := by decide +kernel
theorem dX13_readFresh_0 : decode cX13_readFresh 0 = .ok (.aload_n 0, 1) := by decide +kernel
theorem dX13_readFresh_1 : decode cX13_readFresh 1 = .ok (.invokevirtual 194, 3) := by decide +kernel
theorem dX13_readFresh_4 : decode cX13_readFresh 4 = .ok (.ifCond .ne 8, 3) := by decide +kernel
theorem dX13_readFresh_7 : decode cX13_readFresh 7 = .ok (.aload_n 0, 1) := by decide +kernel
theorem dX13_readFresh_8 : decode cX13_readFresh 8 = .ok (.iconst 1, 1) := by decide +kernel
theorem dX13_readFresh_9 : decode cX13_readFresh 9 = .ok (.invokevirtual 146, 3) := by decide +kernel
theorem dX13_readFresh_12 : decode cX13_readFresh 12 = .ok (.aload_n 0, 1) := by decide +kernel
theorem dX13_readFresh_13 : decode cX13_readFresh 13 = .ok (.getfield 185, 3) := by decide +kernel
theorem dX13_readFresh_16 : decode cX13_readFresh 16 = .ok (.aload_n 0, 1) := by decide +kernel
theorem dX13_readFresh_17 : decode cX13_readFresh 17 = .ok (.getfield 119, 3) := by decide +kernel
theorem dX13_readFresh_20 : decode cX13_readFresh 20 = .ok (.invokevirtual 198, 3) := by decide +kernel
theorem dX13_readFresh_23 : decode cX13_readFresh 23 = .ok (.iconst (-1), 1) := by decide +kernel
theorem dX13_readFresh_24 : decode cX13_readFresh 24 = .ok (.if_icmp .eq 8, 3) := by decide +kernel
theorem dX13_readFresh_27 : decode cX13_readFresh 27 = .ok (.aload_n 0, 1) := by decide +kernel
theorem dX13_readFresh_28 : decode cX13_readFresh 28 = .ok (.iconst 3, 1) := by decide +kernel
theorem dX13_readFresh_29 : decode cX13_readFresh 29 = .ok (.invokevirtual 146, 3) := by decide +kernel
theorem dX13_readFresh_32 : decode cX13_readFresh 32 = .ok (.aload_n 0, 1) := by decide +kernel
theorem dX13_readFresh_33 : decode cX13_readFresh 33 = .ok (.getfield 119, 3) := by decide +kernel
theorem dX13_readFresh_36 : decode cX13_readFresh 36 = .ok (.lstore_n 1, 1) := by decide +kernel
theorem dX13_readFresh_37 : decode cX13_readFresh 37 = .ok (.aload_n 0, 1) := by decide +kernel
theorem dX13_readFresh_38 : decode cX13_readFresh 38 = .ok (.invokevirtual 139, 3) := by decide +kernel
theorem dX13_readFresh_41 : decode cX13_readFresh 41 = .ok (.lload_n 1, 1) := by decide +kernel
theorem dX13_readFresh_42 : decode cX13_readFresh 42 = .ok (.lreturn, 1) := by decide +kernel
theorem dX13_names_0 : decode cX13_names 0 = .ok (.aload_n 0, 1) := by decide +kernel
theorem dX13_names_1 : decode cX13_names 1 = .ok (.getfield 185, 3) := by decide +kernel
theorem dX13_names_4 : decode cX13_names 4 = .ok (.getfield 202, 3) := by decide +kernel
theorem dX13_names_7 : decode cX13_names 7 = .ok (.aload_n 0, 1) := by decide +kernel
theorem dX13_names_8 : decode cX13_names 8 = .ok (.getfield 185, 3) := by decide +kernel
theorem dX13_names_11 : decode cX13_names 11 = .ok (.getfield 206, 3) := by decide +kernel
theorem dX13_names_14 : decode cX13_names 14 = .ok (.lload_n 1, 1) := by decide +kernel
theorem dX13_names_15 : decode cX13_names 15 = .ok (.lastore, 1) := by decide +kernel
theorem dX13_names_16 : decode cX13_names 16 = .ok (.aload_n 0, 1) := by decide +kernel
theorem dX13_names_17 : decode cX13_names 17 = .ok (.getfield 185, 3) := by decide +kernel
theorem dX13_names_20 : decode cX13_names 20 = .ok (.getfield 209, 3) := by decide +kernel
theorem dX13_names_23 : decode cX13_names 23 = .ok (.aload_n 0, 1) := by decide +kernel
theorem dX13_names_24 : decode cX13_names 24 = .ok (.getfield 185, 3) := by decide +kernel
theorem dX13_names_27 : decode cX13_names 27 = .ok (.getfield 206, 3) := by decide +kernel
theorem dX13_names_30 : decode cX13_names 30 = .ok (.iload_n 3, 1) := by decide +kernel
theorem dX13_names_31 : decode cX13_names 31 = .ok (.iastore, 1) := by decide +kernel
theorem dX13_names_32 : decode cX13_names 32 = .ok (.aload_n 0, 1) := by decide +kernel
theorem dX13_names_33 : decode cX13_names 33 = .ok (.getfield 185, 3) := by decide +kernel
theorem dX13_names_36 : decode cX13_names 36 = .ok (.getfield 212, 3) := by decide +kernel
theorem dX13_names_39 : decode cX13_names 39 = .ok (.aload_n 0, 1) := by decide +kernel
theorem dX13_names_40 : decode cX13_names 40 = .ok (.getfield 185, 3) := by decide +kernel
theorem dX13_names_43 : decode cX13_names 43 = .ok (.getfield 206, 3) := by decide +kernel
theorem dX13_names_46 : decode cX13_names 46 = .ok (.iload 4, 2) := by decide +kernel
theorem dX13_names_48 : decode cX13_names 48 = .ok (.iastore, 1) := by decide +kernel
theorem dX13_names_49 : decode cX13_names 49 = .ok (.aload_n 0, 1) := by decide +kernel
theorem dX13_names_50 : decode cX13_names 50 = .ok (.getfield 185, 3) := by decide +kernel
theorem dX13_names_53 : decode cX13_names 53 = .ok (.dup, 1) := by decide +kernel
theorem dX13_names_54 : decode cX13_names 54 = .ok (.getfield 206, 3) := by decide +kernel
theorem dX13_names_57 : decode cX13_names 57 = .ok (.iconst 1, 1) := by decide +kernel
theorem dX13_names_58 : decode cX13_names 58 = .ok (.iadd, 1) := by decide +kernel
theorem dX13_names_59 : decode cX13_names 59 = .ok (.putfield 206, 3) := by decide +kernel
theorem dX13_names_62 : decode cX13_names 62 = .ok (.return_, 1) := by decide +kernel
theorem dX13_knownOne_0 : decode cX13_knownOne 0 = .ok (.aload_n 0, 1) := by decide +kernel
theorem dX13_knownOne_1 : decode cX13_knownOne 1 = .ok (.invokevirtual 194, 3) := by decide +kernel
theorem dX13_knownOne_4 : decode cX13_knownOne 4 = .ok (.ifCond .ne 8, 3) := by decide +kernel
theorem dX13_knownOne_7 : decode cX13_knownOne 7 = .ok (.aload_n 0, 1) := by decide +kernel
theorem dX13_knownOne_8 : decode cX13_knownOne 8 = .ok (.iconst 1, 1) := by decide +kernel
theorem dX13_knownOne_9 : decode cX13_knownOne 9 = .ok (.invokevirtual 146, 3) := by decide +kernel
theorem dX13_knownOne_12 : decode cX13_knownOne 12 = .ok (.aload_n 0, 1) := by decide +kernel
theorem dX13_knownOne_13 : decode cX13_knownOne 13 = .ok (.getfield 185, 3) := by decide +kernel
theorem dX13_knownOne_16 : decode cX13_knownOne 16 = .ok (.aload_n 0, 1) := by decide +kernel
theorem dX13_knownOne_17 : decode cX13_knownOne 17 = .ok (.getfield 119, 3) := by decide +kernel
theorem dX13_knownOne_20 : decode cX13_knownOne 20 = .ok (.invokevirtual 198, 3) := by decide +kernel
theorem dX13_knownOne_23 : decode cX13_knownOne 23 = .ok (.istore_n 2, 1) := by decide +kernel
theorem dX13_knownOne_24 : decode cX13_knownOne 24 = .ok (.iload_n 2, 1) := by decide +kernel
theorem dX13_knownOne_25 : decode cX13_knownOne 25 = .ok (.iconst (-1), 1) := by decide +kernel
theorem dX13_knownOne_26 : decode cX13_knownOne 26 = .ok (.if_icmp .eq 16, 3) := by decide +kernel
theorem dX13_knownOne_29 : decode cX13_knownOne 29 = .ok (.aload_n 0, 1) := by decide +kernel
theorem dX13_knownOne_30 : decode cX13_knownOne 30 = .ok (.getfield 185, 3) := by decide +kernel
theorem dX13_knownOne_33 : decode cX13_knownOne 33 = .ok (.getfield 209, 3) := by decide +kernel
theorem dX13_knownOne_36 : decode cX13_knownOne 36 = .ok (.iload_n 2, 1) := by decide +kernel
theorem dX13_knownOne_37 : decode cX13_knownOne 37 = .ok (.iaload, 1) := by decide +kernel
theorem dX13_knownOne_38 : decode cX13_knownOne 38 = .ok (.iload_n 1, 1) := by decide +kernel
theorem dX13_knownOne_39 : decode cX13_knownOne 39 = .ok (.if_icmp .eq 8, 3) := by decide +kernel
theorem dX13_knownOne_42 : decode cX13_knownOne 42 = .ok (.aload_n 0, 1) := by decide +kernel
theorem dX13_knownOne_43 : decode cX13_knownOne 43 = .ok (.iconst 2, 1) := by decide +kernel
theorem dX13_knownOne_44 : decode cX13_knownOne 44 = .ok (.invokevirtual 146, 3) := by decide +kernel
theorem dX13_knownOne_47 : decode cX13_knownOne 47 = .ok (.aload_n 0, 1) := by decide +kernel
theorem dX13_knownOne_48 : decode cX13_knownOne 48 = .ok (.getfield 100, 3) := by decide +kernel
theorem dX13_knownOne_51 : decode cX13_knownOne 51 = .ok (.iconst 5, 1) := by decide +kernel
theorem dX13_knownOne_52 : decode cX13_knownOne 52 = .ok (.if_icmp .ne 7, 3) := by decide +kernel
theorem dX13_knownOne_55 : decode cX13_knownOne 55 = .ok (.iconst 0, 1) := by decide +kernel
theorem dX13_knownOne_56 : decode cX13_knownOne 56 = .ok (.goto 12, 3) := by decide +kernel
theorem dX13_knownOne_59 : decode cX13_knownOne 59 = .ok (.aload_n 0, 1) := by decide +kernel
theorem dX13_knownOne_60 : decode cX13_knownOne 60 = .ok (.getfield 185, 3) := by decide +kernel
theorem dX13_knownOne_63 : decode cX13_knownOne 63 = .ok (.getfield 212, 3) := by decide +kernel
theorem dX13_knownOne_66 : decode cX13_knownOne 66 = .ok (.iload_n 2, 1) := by decide +kernel
theorem dX13_knownOne_67 : decode cX13_knownOne 67 = .ok (.iaload, 1) := by decide +kernel
theorem dX13_knownOne_68 : decode cX13_knownOne 68 = .ok (.ireturn, 1) := by decide +kernel
theorem dX13_readKnown_0 : decode cX13_readKnown 0 = .ok (.aload_n 0, 1) := by decide +kernel
theorem dX13_readKnown_1 : decode cX13_readKnown 1 = .ok (.iload_n 1, 1) := by decide +kernel
theorem dX13_readKnown_2 : decode cX13_readKnown 2 = .ok (.invokevirtual 215, 3) := by decide +kernel
theorem dX13_readKnown_5 : decode cX13_readKnown 5 = .ok (.istore_n 2, 1) := by decide +kernel
theorem dX13_readKnown_6 : decode cX13_readKnown 6 = .ok (.aload_n 0, 1) := by decide +kernel
theorem dX13_readKnown_7 : decode cX13_readKnown 7 = .ok (.invokevirtual 139, 3) := by decide +kernel
theorem dX13_readKnown_10 : decode cX13_readKnown 10 = .ok (.iload_n 2, 1) := by decide +kernel
theorem dX13_readKnown_11 : decode cX13_readKnown 11 = .ok (.ireturn, 1) := by decide +kernel
theorem dX13_readPartKnown_0 : decode cX13_readPartKnown 0 = .ok (.aload_n 0, 1) := by decide +kernel
theorem dX13_readPartKnown_1 : decode cX13_readPartKnown 1 = .ok (.aload_n 1, 1) := by decide +kernel
theorem dX13_readPartKnown_2 : decode cX13_readPartKnown 2 = .ok (.invokevirtual 154, 3) := by decide +kernel
theorem dX13_readPartKnown_5 : decode cX13_readPartKnown 5 = .ok (.aload_n 0, 1) := by decide +kernel
theorem dX13_readPartKnown_6 : decode cX13_readPartKnown 6 = .ok (.iload_n 2, 1) := by decide +kernel
theorem dX13_readPartKnown_7 : decode cX13_readPartKnown 7 = .ok (.invokevirtual 218, 3) := by decide +kernel
theorem dX13_readPartKnown_10 : decode cX13_readPartKnown 10 = .ok (.ireturn, 1) := by decide +kernel
theorem dX13_readAll_0 : decode cX13_readAll 0 = .ok (.iconst 1, 1) := by decide +kernel
theorem dX13_readAll_1 : decode cX13_readAll 1 = .ok (.istore_n 1, 1) := by decide +kernel
theorem dX13_readAll_2 : decode cX13_readAll 2 = .ok (.iload_n 1, 1) := by decide +kernel
theorem dX13_readAll_3 : decode cX13_readAll 3 = .ok (.ifCond .eq 17, 3) := by decide +kernel
theorem dX13_readAll_6 : decode cX13_readAll 6 = .ok (.aload_n 0, 1) := by decide +kernel
theorem dX13_readAll_7 : decode cX13_readAll 7 = .ok (.invokevirtual 221, 3) := by decide +kernel
theorem dX13_readAll_10 : decode cX13_readAll 10 = .ok (.aload_n 0, 1) := by decide +kernel
theorem dX13_readAll_11 : decode cX13_readAll 11 = .ok (.bipush 59, 2) := by decide +kernel
theorem dX13_readAll_13 : decode cX13_readAll 13 = .ok (.invokevirtual 224, 3) := by decide +kernel
theorem dX13_readAll_16 : decode cX13_readAll 16 = .ok (.istore_n 1, 1) := by decide +kernel
theorem dX13_readAll_17 : decode cX13_readAll 17 = .ok (.goto (-15), 3) := by decide +kernel
theorem dX13_readAll_20 : decode cX13_readAll 20 = .ok (.aload_n 0, 1) := by decide +kernel
theorem dX13_readAll_21 : decode cX13_readAll 21 = .ok (.getfield 100, 3) := by decide +kernel
theorem dX13_readAll_24 : decode cX13_readAll 24 = .ok (.iconst 1, 1) := by decide +kernel
theorem dX13_readAll_25 : decode cX13_readAll 25 = .ok (.if_icmp .eq 8, 3) := by decide +kernel
theorem dX13_readAll_28 : decode cX13_readAll 28 = .ok (.aload_n 0, 1) := by decide +kernel
theorem dX13_readAll_29 : decode cX13_readAll 29 = .ok (.iconst 1, 1) := by decide +kernel
theorem dX13_readAll_30 : decode cX13_readAll 30 = .ok (.invokevirtual 146, 3) := by decide +kernel
theorem dX13_readAll_33 : decode cX13_readAll 33 = .ok (.aload_n 0, 1) := by decide +kernel
theorem dX13_readAll_34 : decode cX13_readAll 34 = .ok (.getfield 185, 3) := by decide +kernel
theorem dX13_readAll_37 : decode cX13_readAll 37 = .ok (.getfield 227, 3) := by decide +kernel
theorem dX13_readAll_40 : decode cX13_readAll 40 = .ok (.ifCond .eq 13, 3) := by decide +kernel
theorem dX13_readAll_43 : decode cX13_readAll 43 = .ok (.aload_n 0, 1) := by decide +kernel
theorem dX13_readAll_44 : decode cX13_readAll 44 = .ok (.getfield 185, 3) := by decide +kernel
theorem dX13_readAll_47 : decode cX13_readAll 47 = .ok (.getfield 230, 3) := by decide +kernel
theorem dX13_readAll_50 : decode cX13_readAll 50 = .ok (.ifCond .ne 9, 3) := by decide +kernel
theorem dX13_readAll_53 : decode cX13_readAll 53 = .ok (.aload_n 0, 1) := by decide +kernel
theorem dX13_readAll_54 : decode cX13_readAll 54 = .ok (.bipush 6, 2) := by decide +kernel
theorem dX13_readAll_56 : decode cX13_readAll 56 = .ok (.invokevirtual 146, 3) := by decide +kernel
theorem dX13_readAll_59 : decode cX13_readAll 59 = .ok (.return_, 1) := by decide +kernel
theorem dX13_readLine_0 : decode cX13_readLine 0 = .ok (.aload_n 0, 1) := by decide +kernel
theorem dX13_readLine_1 : decode cX13_readLine 1 = .ok (.ldc 162, 2) := by decide +kernel
theorem dX13_readLine_3 : decode cX13_readLine 3 = .ok (.invokevirtual 142, 3) := by decide +kernel
theorem dX13_readLine_6 : decode cX13_readLine 6 = .ok (.ifCond .eq 10, 3) := by decide +kernel
theorem dX13_readLine_9 : decode cX13_readLine 9 = .ok (.aload_n 0, 1) := by decide +kernel
theorem dX13_readLine_10 : decode cX13_readLine 10 = .ok (.invokevirtual 233, 3) := by decide +kernel
theorem dX13_readLine_13 : decode cX13_readLine 13 = .ok (.goto 184, 3) := by decide +kernel
theorem dX13_readLine_16 : decode cX13_readLine 16 = .ok (.aload_n 0, 1) := by decide +kernel
theorem dX13_readLine_17 : decode cX13_readLine 17 = .ok (.ldc 164, 2) := by decide +kernel
theorem dX13_readLine_19 : decode cX13_readLine 19 = .ok (.invokevirtual 142, 3) := by decide +kernel
theorem dX13_readLine_22 : decode cX13_readLine 22 = .ok (.ifCond .eq 10, 3) := by decide +kernel
theorem dX13_readLine_25 : decode cX13_readLine 25 = .ok (.aload_n 0, 1) := by decide +kernel
theorem dX13_readLine_26 : decode cX13_readLine 26 = .ok (.invokevirtual 236, 3) := by decide +kernel
theorem dX13_readLine_29 : decode cX13_readLine 29 = .ok (.goto 168, 3) := by decide +kernel
theorem dX13_readLine_32 : decode cX13_readLine 32 = .ok (.aload_n 0, 1) := by decide +kernel
theorem dX13_readLine_33 : decode cX13_readLine 33 = .ok (.ldc 166, 2) := by decide +kernel
theorem dX13_readLine_35 : decode cX13_readLine 35 = .ok (.invokevirtual 142, 3) := by decide +kernel
theorem dX13_readLine_38 : decode cX13_readLine 38 = .ok (.ifCond .eq 10, 3) := by decide +kernel
theorem dX13_readLine_41 : decode cX13_readLine 41 = .ok (.aload_n 0, 1) := by decide +kernel
theorem dX13_readLine_42 : decode cX13_readLine 42 = .ok (.invokevirtual 239, 3) := by decide +kernel
theorem dX13_readLine_45 : decode cX13_readLine 45 = .ok (.goto 152, 3) := by decide +kernel
theorem dX13_readLine_48 : decode cX13_readLine 48 = .ok (.aload_n 0, 1) := by decide +kernel
theorem dX13_readLine_49 : decode cX13_readLine 49 = .ok (.ldc 168, 2) := by decide +kernel
theorem dX13_readLine_51 : decode cX13_readLine 51 = .ok (.invokevirtual 142, 3) := by decide +kernel
theorem dX13_readLine_54 : decode cX13_readLine 54 = .ok (.ifCond .eq 10, 3) := by decide +kernel
theorem dX13_readLine_57 : decode cX13_readLine 57 = .ok (.aload_n 0, 1) := by decide +kernel
theorem dX13_readLine_58 : decode cX13_readLine 58 = .ok (.invokevirtual 242, 3) := by decide +kernel
theorem dX13_readLine_61 : decode cX13_readLine 61 = .ok (.goto 136, 3) := by decide +kernel
theorem dX13_readLine_64 : decode cX13_readLine 64 = .ok (.aload_n 0, 1) := by decide +kernel
theorem dX13_readLine_65 : decode cX13_readLine 65 = .ok (.ldc 169, 2) := by decide +kernel
theorem dX13_readLine_67 : decode cX13_readLine 67 = .ok (.invokevirtual 142, 3) := by decide +kernel
theorem dX13_readLine_70 : decode cX13_readLine 70 = .ok (.ifCond .eq 10, 3) := by decide +kernel
theorem dX13_readLine_73 : decode cX13_readLine 73 = .ok (.aload_n 0, 1) := by decide +kernel
theorem dX13_readLine_74 : decode cX13_readLine 74 = .ok (.invokevirtual 245, 3) := by decide +kernel
theorem dX13_readLine_77 : decode cX13_readLine 77 = .ok (.goto 120, 3) := by decide +kernel
theorem dX13_readLine_80 : decode cX13_readLine 80 = .ok (.aload_n 0, 1) := by decide +kernel
theorem dX13_readLine_81 : decode cX13_readLine 81 = .ok (.ldc 170, 2) := by decide +kernel
theorem dX13_readLine_83 : decode cX13_readLine 83 = .ok (.invokevirtual 142, 3) := by decide +kernel
theorem dX13_readLine_86 : decode cX13_readLine 86 = .ok (.ifCond .eq 10, 3) := by decide +kernel
theorem dX13_readLine_89 : decode cX13_readLine 89 = .ok (.aload_n 0, 1) := by decide +kernel
theorem dX13_readLine_90 : decode cX13_readLine 90 = .ok (.invokevirtual 248, 3) := by decide +kernel
theorem dX13_readLine_93 : decode cX13_readLine 93 = .ok (.goto 104, 3) := by decide +kernel
theorem dX13_readLine_96 : decode cX13_readLine 96 = .ok (.aload_n 0, 1) := by decide +kernel
theorem dX13_readLine_97 : decode cX13_readLine 97 = .ok (.ldc 172, 2) := by decide +kernel
theorem dX13_readLine_99 : decode cX13_readLine 99 = .ok (.invokevirtual 142, 3) := by decide +kernel
theorem dX13_readLine_102 : decode cX13_readLine 102 = .ok (.ifCond .eq 10, 3) := by decide +kernel
theorem dX13_readLine_105 : decode cX13_readLine 105 = .ok (.aload_n 0, 1) := by decide +kernel
theorem dX13_readLine_106 : decode cX13_readLine 106 = .ok (.invokevirtual 251, 3) := by decide +kernel
theorem dX13_readLine_109 : decode cX13_readLine 109 = .ok (.goto 88, 3) := by decide +kernel
theorem dX13_readLine_112 : decode cX13_readLine 112 = .ok (.aload_n 0, 1) := by decide +kernel
theorem dX13_readLine_113 : decode cX13_readLine 113 = .ok (.ldc 174, 2) := by decide +kernel
theorem dX13_readLine_115 : decode cX13_readLine 115 = .ok (.invokevirtual 142, 3) := by decide +kernel
theorem dX13_readLine_118 : decode cX13_readLine 118 = .ok (.ifCond .eq 10, 3) := by decide +kernel
theorem dX13_readLine_121 : decode cX13_readLine 121 = .ok (.aload_n 0, 1) := by decide +kernel
theorem dX13_readLine_122 : decode cX13_readLine 122 = .ok (.invokevirtual 254, 3) := by decide +kernel
theorem dX13_readLine_125 : decode cX13_readLine 125 = .ok (.goto 72, 3) := by decide +kernel
theorem dX13_readLine_128 : decode cX13_readLine 128 = .ok (.aload_n 0, 1) := by decide +kernel
theorem dX13_readLine_129 : decode cX13_readLine 129 = .ok (.ldc 176, 2) := by decide +kernel
theorem dX13_readLine_131 : decode cX13_readLine 131 = .ok (.invokevirtual 142, 3) := by decide +kernel
theorem dX13_readLine_134 : decode cX13_readLine 134 = .ok (.ifCond .eq 10, 3) := by decide +kernel
theorem dX13_readLine_137 : decode cX13_readLine 137 = .ok (.aload_n 0, 1) := by decide +kernel
theorem dX13_readLine_138 : decode cX13_readLine 138 = .ok (.invokevirtual 257, 3) := by decide +kernel
theorem dX13_readLine_141 : decode cX13_readLine 141 = .ok (.goto 56, 3) := by decide +kernel
theorem dX13_readLine_144 : decode cX13_readLine 144 = .ok (.aload_n 0, 1) := by decide +kernel
theorem dX13_readLine_145 : decode cX13_readLine 145 = .ok (.ldc 178, 2) := by decide +kernel
theorem dX13_readLine_147 : decode cX13_readLine 147 = .ok (.invokevirtual 142, 3) := by decide +kernel
theorem dX13_readLine_150 : decode cX13_readLine 150 = .ok (.ifCond .eq 10, 3) := by decide +kernel
theorem dX13_readLine_153 : decode cX13_readLine 153 = .ok (.aload_n 0, 1) := by decide +kernel
theorem dX13_readLine_154 : decode cX13_readLine 154 = .ok (.invokevirtual 260, 3) := by decide +kernel
theorem dX13_readLine_157 : decode cX13_readLine 157 = .ok (.goto 40, 3) := by decide +kernel
theorem dX13_readLine_160 : decode cX13_readLine 160 = .ok (.aload_n 0, 1) := by decide +kernel
theorem dX13_readLine_161 : decode cX13_readLine 161 = .ok (.ldc 180, 2) := by decide +kernel
theorem dX13_readLine_163 : decode cX13_readLine 163 = .ok (.invokevirtual 142, 3) := by decide +kernel
theorem dX13_readLine_166 : decode cX13_readLine 166 = .ok (.ifCond .eq 10, 3) := by decide +kernel
theorem dX13_readLine_169 : decode cX13_readLine 169 = .ok (.aload_n 0, 1) := by decide +kernel
theorem dX13_readLine_170 : decode cX13_readLine 170 = .ok (.invokevirtual 263, 3) := by decide +kernel
theorem dX13_readLine_173 : decode cX13_readLine 173 = .ok (.goto 24, 3) := by decide +kernel
theorem dX13_readLine_176 : decode cX13_readLine 176 = .ok (.aload_n 0, 1) := by decide +kernel
theorem dX13_readLine_177 : decode cX13_readLine 177 = .ok (.ldc 182, 2) := by decide +kernel
theorem dX13_readLine_179 : decode cX13_readLine 179 = .ok (.invokevirtual 142, 3) := by decide +kernel
theorem dX13_readLine_182 : decode cX13_readLine 182 = .ok (.ifCond .eq 10, 3) := by decide +kernel
theorem dX13_readLine_185 : decode cX13_readLine 185 = .ok (.aload_n 0, 1) := by decide +kernel
theorem dX13_readLine_186 : decode cX13_readLine 186 = .ok (.invokevirtual 266, 3) := by decide +kernel
theorem dX13_readLine_189 : decode cX13_readLine 189 = .ok (.goto 8, 3) := by decide +kernel
theorem dX13_readLine_192 : decode cX13_readLine 192 = .ok (.aload_n 0, 1) := by decide +kernel
theorem dX13_readLine_193 : decode cX13_readLine 193 = .ok (.iconst 1, 1) := by decide +kernel
theorem dX13_readLine_194 : decode cX13_readLine 194 = .ok (.invokevirtual 146, 3) := by decide +kernel
theorem dX13_readLine_197 : decode cX13_readLine 197 = .ok (.return_, 1) := by decide +kernel
theorem dX13_readBorder_0 : decode cX13_readBorder 0 = .ok (.aload_n 0, 1) := by decide +kernel
theorem dX13_readBorder_1 : decode cX13_readBorder 1 = .ok (.getfield 185, 3) := by decide +kernel
theorem dX13_readBorder_4 : decode cX13_readBorder 4 = .ok (.getfield 189, 3) := by decide +kernel
theorem dX13_readBorder_7 : decode cX13_readBorder 7 = .ok (.ifCond .le 8, 3) := by decide +kernel
theorem dX13_readBorder_10 : decode cX13_readBorder 10 = .ok (.aload_n 0, 1) := by decide +kernel
theorem dX13_readBorder_11 : decode cX13_readBorder 11 = .ok (.iconst 3, 1) := by decide +kernel
theorem dX13_readBorder_12 : decode cX13_readBorder 12 = .ok (.invokevirtual 146, 3) := by decide +kernel
theorem dX13_readBorder_15 : decode cX13_readBorder 15 = .ok (.aload_n 0, 1) := by decide +kernel
theorem dX13_readBorder_16 : decode cX13_readBorder 16 = .ok (.invokevirtual 139, 3) := by decide +kernel
theorem dX13_readBorder_19 : decode cX13_readBorder 19 = .ok (.aload_n 0, 1) := by decide +kernel
theorem dX13_readBorder_20 : decode cX13_readBorder 20 = .ok (.ldc_w 269, 3) := by decide +kernel
theorem dX13_readBorder_23 : decode cX13_readBorder 23 = .ok (.iconst 1, 1) := by decide +kernel
theorem dX13_readBorder_24 : decode cX13_readBorder 24 = .ok (.iconst 5, 1) := by decide +kernel
theorem dX13_readBorder_25 : decode cX13_readBorder 25 = .ok (.invokevirtual 270, 3) := by decide +kernel
theorem dX13_readBorder_28 : decode cX13_readBorder 28 = .ok (.istore_n 1, 1) := by decide +kernel
theorem dX13_readBorder_29 : decode cX13_readBorder 29 = .ok (.aload_n 0, 1) := by decide +kernel
theorem dX13_readBorder_30 : decode cX13_readBorder 30 = .ok (.getfield 100, 3) := by decide +kernel
theorem dX13_readBorder_33 : decode cX13_readBorder 33 = .ok (.iconst 5, 1) := by decide +kernel
theorem dX13_readBorder_34 : decode cX13_readBorder 34 = .ok (.if_icmp .ne 4, 3) := by decide +kernel
theorem dX13_readBorder_37 : decode cX13_readBorder 37 = .ok (.return_, 1) := by decide +kernel
theorem dX13_readBorder_38 : decode cX13_readBorder 38 = .ok (.aload_n 0, 1) := by decide +kernel
theorem dX13_readBorder_39 : decode cX13_readBorder 39 = .ok (.getfield 185, 3) := by decide +kernel
theorem dX13_readBorder_42 : decode cX13_readBorder 42 = .ok (.iload_n 1, 1) := by decide +kernel
