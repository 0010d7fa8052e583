theorem dX13_readBorder_43 : decode cX13_readBorder 43 = .ok (.putfield 189, 3) := by decide +kernel
theorem dX13_readBorder_46 : decode cX13_readBorder 46 = .ok (.iconst 0, 1) := by decide +kernel
theorem dX13_readBorder_47 : decode cX13_readBorder 47 = .ok (.istore_n 2, 1) := by decide +kernel
theorem dX13_readBorder_48 : decode cX13_readBorder 48 = .ok (.iload_n 2, 1) := by decide +kernel
theorem dX13_readBorder_49 : decode cX13_readBorder 49 = .ok (.bipush 6, 2) := by decide +kernel
theorem dX13_readBorder_51 : decode cX13_readBorder 51 = .ok (.if_icmp .ge 19, 3) := by decide +kernel
theorem dX13_readBorder_54 : decode cX13_readBorder 54 = .ok (.aload_n 0, 1) := by decide +kernel
theorem dX13_readBorder_55 : decode cX13_readBorder 55 = .ok (.getfield 185, 3) := by decide +kernel
theorem dX13_readBorder_58 : decode cX13_readBorder 58 = .ok (.getfield 274, 3) := by decide +kernel
theorem dX13_readBorder_61 : decode cX13_readBorder 61 = .ok (.iload_n 2, 1) := by decide +kernel
theorem dX13_readBorder_62 : decode cX13_readBorder 62 = .ok (.iconst (-1), 1) := by decide +kernel
theorem dX13_readBorder_63 : decode cX13_readBorder 63 = .ok (.iastore, 1) := by decide +kernel
theorem dX13_readBorder_64 : decode cX13_readBorder 64 = .ok (.iinc 2 1, 3) := by decide +kernel
theorem dX13_readBorder_67 : decode cX13_readBorder 67 = .ok (.goto (-19), 3) := by decide +kernel
theorem dX13_readBorder_70 : decode cX13_readBorder 70 = .ok (.return_, 1) := by decide +kernel
theorem dX13_readLand_0 : decode cX13_readLand 0 = .ok (.aload_n 0, 1) := by decide +kernel
theorem dX13_readLand_1 : decode cX13_readLand 1 = .ok (.aload_n 0, 1) := by decide +kernel
theorem dX13_readLand_2 : decode cX13_readLand 2 = .ok (.getfield 185, 3) := by decide +kernel
theorem dX13_readLand_5 : decode cX13_readLand 5 = .ok (.getfield 227, 3) := by decide +kernel
theorem dX13_readLand_8 : decode cX13_readLand 8 = .ok (.iconst 4, 1) := by decide +kernel
theorem dX13_readLand_9 : decode cX13_readLand 9 = .ok (.invokevirtual 276, 3) := by decide +kernel
theorem dX13_readLand_12 : decode cX13_readLand 12 = .ok (.aload_n 0, 1) := by decide +kernel
theorem dX13_readLand_13 : decode cX13_readLand 13 = .ok (.invokevirtual 280, 3) := by decide +kernel
theorem dX13_readLand_16 : decode cX13_readLand 16 = .ok (.lstore_n 1, 1) := by decide +kernel
theorem dX13_readLand_17 : decode cX13_readLand 17 = .ok (.aload_n 0, 1) := by decide +kernel
theorem dX13_readLand_18 : decode cX13_readLand 18 = .ok (.ldc_w 284, 3) := by decide +kernel
theorem dX13_readLand_21 : decode cX13_readLand 21 = .ok (.iconst 0, 1) := by decide +kernel
theorem dX13_readLand_22 : decode cX13_readLand 22 = .ok (.bipush 9, 2) := by decide +kernel
theorem dX13_readLand_24 : decode cX13_readLand 24 = .ok (.invokevirtual 270, 3) := by decide +kernel
theorem dX13_readLand_27 : decode cX13_readLand 27 = .ok (.istore_n 3, 1) := by decide +kernel
theorem dX13_readLand_28 : decode cX13_readLand 28 = .ok (.aload_n 0, 1) := by decide +kernel
theorem dX13_readLand_29 : decode cX13_readLand 29 = .ok (.getfield 100, 3) := by decide +kernel
theorem dX13_readLand_32 : decode cX13_readLand 32 = .ok (.iconst 5, 1) := by decide +kernel
theorem dX13_readLand_33 : decode cX13_readLand 33 = .ok (.if_icmp .ne 4, 3) := by decide +kernel
theorem dX13_readLand_36 : decode cX13_readLand 36 = .ok (.return_, 1) := by decide +kernel
theorem dX13_readLand_37 : decode cX13_readLand 37 = .ok (.aload_n 0, 1) := by decide +kernel
theorem dX13_readLand_38 : decode cX13_readLand 38 = .ok (.lload_n 1, 1) := by decide +kernel
theorem dX13_readLand_39 : decode cX13_readLand 39 = .ok (.iconst 0, 1) := by decide +kernel
theorem dX13_readLand_40 : decode cX13_readLand 40 = .ok (.aload_n 0, 1) := by decide +kernel
theorem dX13_readLand_41 : decode cX13_readLand 41 = .ok (.getfield 185, 3) := by decide +kernel
theorem dX13_readLand_44 : decode cX13_readLand 44 = .ok (.getfield 227, 3) := by decide +kernel
theorem dX13_readLand_47 : decode cX13_readLand 47 = .ok (.invokevirtual 286, 3) := by decide +kernel
theorem dX13_readLand_50 : decode cX13_readLand 50 = .ok (.aload_n 0, 1) := by decide +kernel
theorem dX13_readLand_51 : decode cX13_readLand 51 = .ok (.getfield 185, 3) := by decide +kernel
theorem dX13_readLand_54 : decode cX13_readLand 54 = .ok (.getfield 289, 3) := by decide +kernel
theorem dX13_readLand_57 : decode cX13_readLand 57 = .ok (.aload_n 0, 1) := by decide +kernel
theorem dX13_readLand_58 : decode cX13_readLand 58 = .ok (.getfield 185, 3) := by decide +kernel
theorem dX13_readLand_61 : decode cX13_readLand 61 = .ok (.getfield 227, 3) := by decide +kernel
theorem dX13_readLand_64 : decode cX13_readLand 64 = .ok (.iload_n 3, 1) := by decide +kernel
theorem dX13_readLand_65 : decode cX13_readLand 65 = .ok (.iastore, 1) := by decide +kernel
theorem dX13_readLand_66 : decode cX13_readLand 66 = .ok (.aload_n 0, 1) := by decide +kernel
theorem dX13_readLand_67 : decode cX13_readLand 67 = .ok (.getfield 185, 3) := by decide +kernel
theorem dX13_readLand_70 : decode cX13_readLand 70 = .ok (.dup, 1) := by decide +kernel
theorem dX13_readLand_71 : decode cX13_readLand 71 = .ok (.getfield 227, 3) := by decide +kernel
theorem dX13_readLand_74 : decode cX13_readLand 74 = .ok (.iconst 1, 1) := by decide +kernel
theorem dX13_readLand_75 : decode cX13_readLand 75 = .ok (.iadd, 1) := by decide +kernel
theorem dX13_readLand_76 : decode cX13_readLand 76 = .ok (.putfield 227, 3) := by decide +kernel
theorem dX13_readLand_79 : decode cX13_readLand 79 = .ok (.return_, 1) := by decide +kernel
theorem dX13_kindOfSmell_0 : decode cX13_kindOfSmell 0 = .ok (.aload_n 0, 1) := by decide +kernel
theorem dX13_kindOfSmell_1 : decode cX13_kindOfSmell 1 = .ok (.ldc_w 291, 3) := by decide +kernel
theorem dX13_kindOfSmell_4 : decode cX13_kindOfSmell 4 = .ok (.invokevirtual 142, 3) := by decide +kernel
theorem dX13_kindOfSmell_7 : decode cX13_kindOfSmell 7 = .ok (.ifCond .eq 5, 3) := by decide +kernel
theorem dX13_kindOfSmell_10 : decode cX13_kindOfSmell 10 = .ok (.iconst 0, 1) := by decide +kernel
theorem dX13_kindOfSmell_11 : decode cX13_kindOfSmell 11 = .ok (.ireturn, 1) := by decide +kernel
theorem dX13_kindOfSmell_12 : decode cX13_kindOfSmell 12 = .ok (.aload_n 0, 1) := by decide +kernel
theorem dX13_kindOfSmell_13 : decode cX13_kindOfSmell 13 = .ok (.ldc_w 293, 3) := by decide +kernel
theorem dX13_kindOfSmell_16 : decode cX13_kindOfSmell 16 = .ok (.invokevirtual 142, 3) := by decide +kernel
theorem dX13_kindOfSmell_19 : decode cX13_kindOfSmell 19 = .ok (.ifCond .eq 5, 3) := by decide +kernel
theorem dX13_kindOfSmell_22 : decode cX13_kindOfSmell 22 = .ok (.iconst 1, 1) := by decide +kernel
theorem dX13_kindOfSmell_23 : decode cX13_kindOfSmell 23 = .ok (.ireturn, 1) := by decide +kernel
theorem dX13_kindOfSmell_24 : decode cX13_kindOfSmell 24 = .ok (.aload_n 0, 1) := by decide +kernel
theorem dX13_kindOfSmell_25 : decode cX13_kindOfSmell 25 = .ok (.ldc_w 295, 3) := by decide +kernel
theorem dX13_kindOfSmell_28 : decode cX13_kindOfSmell 28 = .ok (.invokevirtual 142, 3) := by decide +kernel
theorem dX13_kindOfSmell_31 : decode cX13_kindOfSmell 31 = .ok (.ifCond .eq 5, 3) := by decide +kernel
theorem dX13_kindOfSmell_34 : decode cX13_kindOfSmell 34 = .ok (.iconst 2, 1) := by decide +kernel
theorem dX13_kindOfSmell_35 : decode cX13_kindOfSmell 35 = .ok (.ireturn, 1) := by decide +kernel
theorem dX13_kindOfSmell_36 : decode cX13_kindOfSmell 36 = .ok (.aload_n 0, 1) := by decide +kernel
theorem dX13_kindOfSmell_37 : decode cX13_kindOfSmell 37 = .ok (.ldc_w 297, 3) := by decide +kernel
theorem dX13_kindOfSmell_40 : decode cX13_kindOfSmell 40 = .ok (.invokevirtual 142, 3) := by decide +kernel
theorem dX13_kindOfSmell_43 : decode cX13_kindOfSmell 43 = .ok (.ifCond .eq 5, 3) := by decide +kernel
theorem dX13_kindOfSmell_46 : decode cX13_kindOfSmell 46 = .ok (.iconst 3, 1) := by decide +kernel
theorem dX13_kindOfSmell_47 : decode cX13_kindOfSmell 47 = .ok (.ireturn, 1) := by decide +kernel
theorem dX13_kindOfSmell_48 : decode cX13_kindOfSmell 48 = .ok (.aload_n 0, 1) := by decide +kernel
theorem dX13_kindOfSmell_49 : decode cX13_kindOfSmell 49 = .ok (.ldc_w 299, 3) := by decide +kernel
theorem dX13_kindOfSmell_52 : decode cX13_kindOfSmell 52 = .ok (.invokevirtual 142, 3) := by decide +kernel
theorem dX13_kindOfSmell_55 : decode cX13_kindOfSmell 55 = .ok (.ifCond .eq 7, 3) := by decide +kernel
theorem dX13_kindOfSmell_58 : decode cX13_kindOfSmell 58 = .ok (.iconst 4, 1) := by decide +kernel
theorem dX13_kindOfSmell_59 : decode cX13_kindOfSmell 59 = .ok (.goto 4, 3) := by decide +kernel
theorem dX13_kindOfSmell_62 : decode cX13_kindOfSmell 62 = .ok (.iconst (-1), 1) := by decide +kernel
theorem dX13_kindOfSmell_63 : decode cX13_kindOfSmell 63 = .ok (.ireturn, 1) := by decide +kernel
theorem dX13_readSmell_0 : decode cX13_readSmell 0 = .ok (.aload_n 0, 1) := by decide +kernel
theorem dX13_readSmell_1 : decode cX13_readSmell 1 = .ok (.aload_n 0, 1) := by decide +kernel
theorem dX13_readSmell_2 : decode cX13_readSmell 2 = .ok (.getfield 185, 3) := by decide +kernel
theorem dX13_readSmell_5 : decode cX13_readSmell 5 = .ok (.getfield 301, 3) := by decide +kernel
theorem dX13_readSmell_8 : decode cX13_readSmell 8 = .ok (.bipush 6, 2) := by decide +kernel
theorem dX13_readSmell_10 : decode cX13_readSmell 10 = .ok (.invokevirtual 276, 3) := by decide +kernel
theorem dX13_readSmell_13 : decode cX13_readSmell 13 = .ok (.aload_n 0, 1) := by decide +kernel
theorem dX13_readSmell_14 : decode cX13_readSmell 14 = .ok (.invokevirtual 280, 3) := by decide +kernel
theorem dX13_readSmell_17 : decode cX13_readSmell 17 = .ok (.lstore_n 1, 1) := by decide +kernel
theorem dX13_readSmell_18 : decode cX13_readSmell 18 = .ok (.aload_n 0, 1) := by decide +kernel
theorem dX13_readSmell_19 : decode cX13_readSmell 19 = .ok (.invokevirtual 304, 3) := by decide +kernel
theorem dX13_readSmell_22 : decode cX13_readSmell 22 = .ok (.istore_n 3, 1) := by decide +kernel
theorem dX13_readSmell_23 : decode cX13_readSmell 23 = .ok (.iload_n 3, 1) := by decide +kernel
theorem dX13_readSmell_24 : decode cX13_readSmell 24 = .ok (.iconst (-1), 1) := by decide +kernel
theorem dX13_readSmell_25 : decode cX13_readSmell 25 = .ok (.if_icmp .ne 8, 3) := by decide +kernel
theorem dX13_readSmell_28 : decode cX13_readSmell 28 = .ok (.aload_n 0, 1) := by decide +kernel
theorem dX13_readSmell_29 : decode cX13_readSmell 29 = .ok (.iconst 1, 1) := by decide +kernel
theorem dX13_readSmell_30 : decode cX13_readSmell 30 = .ok (.invokevirtual 146, 3) := by decide +kernel
theorem dX13_readSmell_33 : decode cX13_readSmell 33 = .ok (.aload_n 0, 1) := by decide +kernel
theorem dX13_readSmell_34 : decode cX13_readSmell 34 = .ok (.invokevirtual 139, 3) := by decide +kernel
theorem dX13_readSmell_37 : decode cX13_readSmell 37 = .ok (.aload_n 0, 1) := by decide +kernel
theorem dX13_readSmell_38 : decode cX13_readSmell 38 = .ok (.ldc_w 307, 3) := by decide +kernel
theorem dX13_readSmell_41 : decode cX13_readSmell 41 = .ok (.iconst 0, 1) := by decide +kernel
theorem dX13_readSmell_42 : decode cX13_readSmell 42 = .ok (.invokevirtual 309, 3) := by decide +kernel
theorem dX13_readSmell_45 : decode cX13_readSmell 45 = .ok (.istore 4, 2) := by decide +kernel
theorem dX13_readSmell_47 : decode cX13_readSmell 47 = .ok (.aload_n 0, 1) := by decide +kernel
theorem dX13_readSmell_48 : decode cX13_readSmell 48 = .ok (.getfield 100, 3) := by decide +kernel
theorem dX13_readSmell_51 : decode cX13_readSmell 51 = .ok (.iconst 5, 1) := by decide +kernel
theorem dX13_readSmell_52 : decode cX13_readSmell 52 = .ok (.if_icmp .ne 4, 3) := by decide +kernel
theorem dX13_readSmell_55 : decode cX13_readSmell 55 = .ok (.return_, 1) := by decide +kernel
theorem dX13_readSmell_56 : decode cX13_readSmell 56 = .ok (.aload_n 0, 1) := by decide +kernel
theorem dX13_readSmell_57 : decode cX13_readSmell 57 = .ok (.lload_n 1, 1) := by decide +kernel
theorem dX13_readSmell_58 : decode cX13_readSmell 58 = .ok (.iconst 1, 1) := by decide +kernel
theorem dX13_readSmell_59 : decode cX13_readSmell 59 = .ok (.aload_n 0, 1) := by decide +kernel
theorem dX13_readSmell_60 : decode cX13_readSmell 60 = .ok (.getfield 185, 3) := by decide +kernel
theorem dX13_readSmell_63 : decode cX13_readSmell 63 = .ok (.getfield 301, 3) := by decide +kernel
theorem dX13_readSmell_66 : decode cX13_readSmell 66 = .ok (.invokevirtual 286, 3) := by decide +kernel
theorem dX13_readSmell_69 : decode cX13_readSmell 69 = .ok (.aload_n 0, 1) := by decide +kernel
theorem dX13_readSmell_70 : decode cX13_readSmell 70 = .ok (.getfield 185, 3) := by decide +kernel
theorem dX13_readSmell_73 : decode cX13_readSmell 73 = .ok (.getfield 313, 3) := by decide +kernel
theorem dX13_readSmell_76 : decode cX13_readSmell 76 = .ok (.aload_n 0, 1) := by decide +kernel
theorem dX13_readSmell_77 : decode cX13_readSmell 77 = .ok (.getfield 185, 3) := by decide +kernel
theorem dX13_readSmell_80 : decode cX13_readSmell 80 = .ok (.getfield 301, 3) := by decide +kernel
theorem dX13_readSmell_83 : decode cX13_readSmell 83 = .ok (.iload_n 3, 1) := by decide +kernel
theorem dX13_readSmell_84 : decode cX13_readSmell 84 = .ok (.iastore, 1) := by decide +kernel
theorem dX13_readSmell_85 : decode cX13_readSmell 85 = .ok (.aload_n 0, 1) := by decide +kernel
theorem dX13_readSmell_86 : decode cX13_readSmell 86 = .ok (.getfield 185, 3) := by decide +kernel
theorem dX13_readSmell_89 : decode cX13_readSmell 89 = .ok (.getfield 316, 3) := by decide +kernel
theorem dX13_readSmell_92 : decode cX13_readSmell 92 = .ok (.aload_n 0, 1) := by decide +kernel
theorem dX13_readSmell_93 : decode cX13_readSmell 93 = .ok (.getfield 185, 3) := by decide +kernel
theorem dX13_readSmell_96 : decode cX13_readSmell 96 = .ok (.getfield 301, 3) := by decide +kernel
theorem dX13_readSmell_99 : decode cX13_readSmell 99 = .ok (.iload 4, 2) := by decide +kernel
theorem dX13_readSmell_101 : decode cX13_readSmell 101 = .ok (.iastore, 1) := by decide +kernel
theorem dX13_readSmell_102 : decode cX13_readSmell 102 = .ok (.aload_n 0, 1) := by decide +kernel
theorem dX13_readSmell_103 : decode cX13_readSmell 103 = .ok (.getfield 185, 3) := by decide +kernel
theorem dX13_readSmell_106 : decode cX13_readSmell 106 = .ok (.dup, 1) := by decide +kernel
theorem dX13_readSmell_107 : decode cX13_readSmell 107 = .ok (.getfield 301, 3) := by decide +kernel
theorem dX13_readSmell_110 : decode cX13_readSmell 110 = .ok (.iconst 1, 1) := by decide +kernel
theorem dX13_readSmell_111 : decode cX13_readSmell 111 = .ok (.iadd, 1) := by decide +kernel
theorem dX13_readSmell_112 : decode cX13_readSmell 112 = .ok (.putfield 301, 3) := by decide +kernel
theorem dX13_readSmell_115 : decode cX13_readSmell 115 = .ok (.return_, 1) := by decide +kernel
theorem dX13_readNose_0 : decode cX13_readNose 0 = .ok (.aload_n 0, 1) := by decide +kernel
theorem dX13_readNose_1 : decode cX13_readNose 1 = .ok (.aload_n 0, 1) := by decide +kernel
theorem dX13_readNose_2 : decode cX13_readNose 2 = .ok (.getfield 185, 3) := by decide +kernel
theorem dX13_readNose_5 : decode cX13_readNose 5 = .ok (.getfield 318, 3) := by decide +kernel
theorem dX13_readNose_8 : decode cX13_readNose 8 = .ok (.iconst 4, 1) := by decide +kernel
theorem dX13_readNose_9 : decode cX13_readNose 9 = .ok (.invokevirtual 276, 3) := by decide +kernel
theorem dX13_readNose_12 : decode cX13_readNose 12 = .ok (.aload_n 0, 1) := by decide +kernel
theorem dX13_readNose_13 : decode cX13_readNose 13 = .ok (.invokevirtual 280, 3) := by decide +kernel
theorem dX13_readNose_16 : decode cX13_readNose 16 = .ok (.lstore_n 1, 1) := by decide +kernel
theorem dX13_readNose_17 : decode cX13_readNose 17 = .ok (.aload_n 0, 1) := by decide +kernel
theorem dX13_readNose_18 : decode cX13_readNose 18 = .ok (.ldc_w 321, 3) := by decide +kernel
theorem dX13_readNose_21 : decode cX13_readNose 21 = .ok (.iconst 1, 1) := by decide +kernel
theorem dX13_readNose_22 : decode cX13_readNose 22 = .ok (.bipush 60, 2) := by decide +kernel
theorem dX13_readNose_24 : decode cX13_readNose 24 = .ok (.invokevirtual 270, 3) := by decide +kernel
theorem dX13_readNose_27 : decode cX13_readNose 27 = .ok (.istore_n 3, 1) := by decide +kernel
theorem dX13_readNose_28 : decode cX13_readNose 28 = .ok (.aload_n 0, 1) := by decide +kernel
theorem dX13_readNose_29 : decode cX13_readNose 29 = .ok (.getfield 100, 3) := by decide +kernel
theorem dX13_readNose_32 : decode cX13_readNose 32 = .ok (.iconst 5, 1) := by decide +kernel
theorem dX13_readNose_33 : decode cX13_readNose 33 = .ok (.if_icmp .ne 4, 3) := by decide +kernel
theorem dX13_readNose_36 : decode cX13_readNose 36 = .ok (.return_, 1) := by decide +kernel
theorem dX13_readNose_37 : decode cX13_readNose 37 = .ok (.aload_n 0, 1) := by decide +kernel
theorem dX13_readNose_38 : decode cX13_readNose 38 = .ok (.lload_n 1, 1) := by decide +kernel
theorem dX13_readNose_39 : decode cX13_readNose 39 = .ok (.iconst 2, 1) := by decide +kernel
theorem dX13_readNose_40 : decode cX13_readNose 40 = .ok (.aload_n 0, 1) := by decide +kernel
theorem dX13_readNose_41 : decode cX13_readNose 41 = .ok (.getfield 185, 3) := by decide +kernel
theorem dX13_readNose_44 : decode cX13_readNose 44 = .ok (.getfield 318, 3) := by decide +kernel
theorem dX13_readNose_47 : decode cX13_readNose 47 = .ok (.invokevirtual 286, 3) := by decide +kernel
theorem dX13_readNose_50 : decode cX13_readNose 50 = .ok (.aload_n 0, 1) := by decide +kernel
theorem dX13_readNose_51 : decode cX13_readNose 51 = .ok (.getfield 185, 3) := by decide +kernel
theorem dX13_readNose_54 : decode cX13_readNose 54 = .ok (.getfield 323, 3) := by decide +kernel
theorem dX13_readNose_57 : decode cX13_readNose 57 = .ok (.aload_n 0, 1) := by decide +kernel
theorem dX13_readNose_58 : decode cX13_readNose 58 = .ok (.getfield 185, 3) := by decide +kernel
theorem dX13_readNose_61 : decode cX13_readNose 61 = .ok (.getfield 318, 3) := by decide +kernel
theorem dX13_readNose_64 : decode cX13_readNose 64 = .ok (.iload_n 3, 1) := by decide +kernel
theorem dX13_readNose_65 : decode cX13_readNose 65 = .ok (.iastore, 1) := by decide +kernel
theorem dX13_readNose_66 : decode cX13_readNose 66 = .ok (.aload_n 0, 1) := by decide +kernel
theorem dX13_readNose_67 : decode cX13_readNose 67 = .ok (.getfield 185, 3) := by decide +kernel
theorem dX13_readNose_70 : decode cX13_readNose 70 = .ok (.dup, 1) := by decide +kernel
theorem dX13_readNose_71 : decode cX13_readNose 71 = .ok (.getfield 318, 3) := by decide +kernel
theorem dX13_readNose_74 : decode cX13_readNose 74 = .ok (.iconst 1, 1) := by decide +kernel
theorem dX13_readNose_75 : decode cX13_readNose 75 = .ok (.iadd, 1) := by decide +kernel
theorem dX13_readNose_76 : decode cX13_readNose 76 = .ok (.putfield 318, 3) := by decide +kernel
theorem dX13_readNose_79 : decode cX13_readNose 79 = .ok (.return_, 1) := by decide +kernel
theorem dX13_readPlace_0 : decode cX13_readPlace 0 = .ok (.aload_n 0, 1) := by decide +kernel
theorem dX13_readPlace_1 : decode cX13_readPlace 1 = .ok (.aload_n 0, 1) := by decide +kernel
theorem dX13_readPlace_2 : decode cX13_readPlace 2 = .ok (.getfield 185, 3) := by decide +kernel
theorem dX13_readPlace_5 : decode cX13_readPlace 5 = .ok (.getfield 230, 3) := by decide +kernel
theorem dX13_readPlace_8 : decode cX13_readPlace 8 = .ok (.bipush 6, 2) := by decide +kernel
theorem dX13_readPlace_10 : decode cX13_readPlace 10 = .ok (.invokevirtual 276, 3) := by decide +kernel
theorem dX13_readPlace_13 : decode cX13_readPlace 13 = .ok (.aload_n 0, 1) := by decide +kernel
theorem dX13_readPlace_14 : decode cX13_readPlace 14 = .ok (.invokevirtual 280, 3) := by decide +kernel
theorem dX13_readPlace_17 : decode cX13_readPlace 17 = .ok (.lstore_n 1, 1) := by decide +kernel
theorem dX13_readPlace_18 : decode cX13_readPlace 18 = .ok (.aload_n 0, 1) := by decide +kernel
theorem dX13_readPlace_19 : decode cX13_readPlace 19 = .ok (.ldc 184, 2) := by decide +kernel
theorem dX13_readPlace_21 : decode cX13_readPlace 21 = .ok (.iconst 0, 1) := by decide +kernel
theorem dX13_readPlace_22 : decode cX13_readPlace 22 = .ok (.invokevirtual 309, 3) := by decide +kernel
theorem dX13_readPlace_25 : decode cX13_readPlace 25 = .ok (.istore_n 3, 1) := by decide +kernel
theorem dX13_readPlace_26 : decode cX13_readPlace 26 = .ok (.bipush (-2), 2) := by decide +kernel
theorem dX13_readPlace_28 : decode cX13_readPlace 28 = .ok (.istore 4, 2) := by decide +kernel
theorem dX13_readPlace_30 : decode cX13_readPlace 30 = .ok (.aload_n 0, 1) := by decide +kernel
theorem dX13_readPlace_31 : decode cX13_readPlace 31 = .ok (.ldc 168, 2) := by decide +kernel
theorem dX13_readPlace_33 : decode cX13_readPlace 33 = .ok (.invokevirtual 142, 3) := by decide +kernel
theorem dX13_readPlace_36 : decode cX13_readPlace 36 = .ok (.ifCond .eq 14, 3) := by decide +kernel
theorem dX13_readPlace_39 : decode cX13_readPlace 39 = .ok (.aload_n 0, 1) := by decide +kernel
theorem dX13_readPlace_40 : decode cX13_readPlace 40 = .ok (.invokevirtual 139, 3) := by decide +kernel
theorem dX13_readPlace_43 : decode cX13_readPlace 43 = .ok (.aload_n 0, 1) := by decide +kernel
theorem dX13_readPlace_44 : decode cX13_readPlace 44 = .ok (.iconst 2, 1) := by decide +kernel
theorem dX13_readPlace_45 : decode cX13_readPlace 45 = .ok (.invokevirtual 218, 3) := by decide +kernel
theorem dX13_readPlace_48 : decode cX13_readPlace 48 = .ok (.istore 4, 2) := by decide +kernel
theorem dX13_readPlace_50 : decode cX13_readPlace 50 = .ok (.aload_n 0, 1) := by decide +kernel
theorem dX13_readPlace_51 : decode cX13_readPlace 51 = .ok (.getfield 100, 3) := by decide +kernel
theorem dX13_readPlace_54 : decode cX13_readPlace 54 = .ok (.iconst 5, 1) := by decide +kernel
theorem dX13_readPlace_55 : decode cX13_readPlace 55 = .ok (.if_icmp .ne 4, 3) := by decide +kernel
theorem dX13_readPlace_58 : decode cX13_readPlace 58 = .ok (.return_, 1) := by decide +kernel
theorem dX13_readPlace_59 : decode cX13_readPlace 59 = .ok (.aload_n 0, 1) := by decide +kernel
theorem dX13_readPlace_60 : decode cX13_readPlace 60 = .ok (.lload_n 1, 1) := by decide +kernel
theorem dX13_readPlace_61 : decode cX13_readPlace 61 = .ok (.iconst 3, 1) := by decide +kernel
theorem dX13_readPlace_62 : decode cX13_readPlace 62 = .ok (.aload_n 0, 1) := by decide +kernel
theorem dX13_readPlace_63 : decode cX13_readPlace 63 = .ok (.getfield 185, 3) := by decide +kernel
theorem dX13_readPlace_66 : decode cX13_readPlace 66 = .ok (.getfield 230, 3) := by decide +kernel
theorem dX13_readPlace_69 : decode cX13_readPlace 69 = .ok (.invokevirtual 286, 3) := by decide +kernel
theorem dX13_readPlace_72 : decode cX13_readPlace 72 = .ok (.aload_n 0, 1) := by decide +kernel
theorem dX13_readPlace_73 : decode cX13_readPlace 73 = .ok (.getfield 185, 3) := by decide +kernel
theorem dX13_readPlace_76 : decode cX13_readPlace 76 = .ok (.getfield 325, 3) := by decide +kernel
theorem dX13_readPlace_79 : decode cX13_readPlace 79 = .ok (.aload_n 0, 1) := by decide +kernel
theorem dX13_readPlace_80 : decode cX13_readPlace 80 = .ok (.getfield 185, 3) := by decide +kernel
theorem dX13_readPlace_83 : decode cX13_readPlace 83 = .ok (.getfield 230, 3) := by decide +kernel
theorem dX13_readPlace_86 : decode cX13_readPlace 86 = .ok (.iload_n 3, 1) := by decide +kernel
theorem dX13_readPlace_87 : decode cX13_readPlace 87 = .ok (.iastore, 1) := by decide +kernel
theorem dX13_readPlace_88 : decode cX13_readPlace 88 = .ok (.aload_n 0, 1) := by decide +kernel
theorem dX13_readPlace_89 : decode cX13_readPlace 89 = .ok (.getfield 185, 3) := by decide +kernel
theorem dX13_readPlace_92 : decode cX13_readPlace 92 = .ok (.getfield 328, 3) := by decide +kernel
theorem dX13_readPlace_95 : decode cX13_readPlace 95 = .ok (.aload_n 0, 1) := by decide +kernel
theorem dX13_readPlace_96 : decode cX13_readPlace 96 = .ok (.getfield 185, 3) := by decide +kernel
theorem dX13_readPlace_99 : decode cX13_readPlace 99 = .ok (.getfield 230, 3) := by decide +kernel
theorem dX13_readPlace_102 : decode cX13_readPlace 102 = .ok (.iload 4, 2) := by decide +kernel
theorem dX13_readPlace_104 : decode cX13_readPlace 104 = .ok (.iastore, 1) := by decide +kernel
theorem dX13_readPlace_105 : decode cX13_readPlace 105 = .ok (.aload_n 0, 1) := by decide +kernel
theorem dX13_readPlace_106 : decode cX13_readPlace 106 = .ok (.getfield 185, 3) := by decide +kernel
theorem dX13_readPlace_109 : decode cX13_readPlace 109 = .ok (.dup, 1) := by decide +kernel
theorem dX13_readPlace_110 : decode cX13_readPlace 110 = .ok (.getfield 230, 3) := by decide +kernel
theorem dX13_readPlace_113 : decode cX13_readPlace 113 = .ok (.iconst 1, 1) := by decide +kernel
theorem dX13_readPlace_114 : decode cX13_readPlace 114 = .ok (.iadd, 1) := by decide +kernel
theorem dX13_readPlace_115 : decode cX13_readPlace 115 = .ok (.putfield 230, 3) := by decide +kernel
theorem dX13_readPlace_118 : decode cX13_readPlace 118 = .ok (.return_, 1) := by decide +kernel
theorem dX13_readPath_0 : decode cX13_readPath 0 = .ok (.aload_n 0, 1) := by decide +kernel
theorem dX13_readPath_1 : decode cX13_readPath 1 = .ok (.aload_n 0, 1) := by decide +kernel
theorem dX13_readPath_2 : decode cX13_readPath 2 = .ok (.getfield 185, 3) := by decide +kernel
theorem dX13_readPath_5 : decode cX13_readPath 5 = .ok (.getfield 331, 3) := by decide +kernel
theorem dX13_readPath_8 : decode cX13_readPath 8 = .ok (.bipush 10, 2) := by decide +kernel
theorem dX13_readPath_10 : decode cX13_readPath 10 = .ok (.invokevirtual 276, 3) := by decide +kernel
theorem dX13_readPath_13 : decode cX13_readPath 13 = .ok (.aload_n 0, 1) := by decide +kernel
theorem dX13_readPath_14 : decode cX13_readPath 14 = .ok (.iconst 3, 1) := by decide +kernel
theorem dX13_readPath_15 : decode cX13_readPath 15 = .ok (.invokevirtual 218, 3) := by decide +kernel
theorem dX13_readPath_18 : decode cX13_readPath 18 = .ok (.istore_n 1, 1) := by decide +kernel
theorem dX13_readPath_19 : decode cX13_readPath 19 = .ok (.aload_n 0, 1) := by decide +kernel
theorem dX13_readPath_20 : decode cX13_readPath 20 = .ok (.iconst 3, 1) := by decide +kernel
theorem dX13_readPath_21 : decode cX13_readPath 21 = .ok (.invokevirtual 215, 3) := by decide +kernel
theorem dX13_readPath_24 : decode cX13_readPath 24 = .ok (.istore_n 2, 1) := by decide +kernel
theorem dX13_readPath_25 : decode cX13_readPath 25 = .ok (.aload_n 0, 1) := by decide +kernel
theorem dX13_readPath_26 : decode cX13_readPath 26 = .ok (.getfield 100, 3) := by decide +kernel
theorem dX13_readPath_29 : decode cX13_readPath 29 = .ok (.iconst 5, 1) := by decide +kernel
theorem dX13_readPath_30 : decode cX13_readPath 30 = .ok (.if_icmp .eq 30, 3) := by decide +kernel
theorem dX13_readPath_33 : decode cX13_readPath 33 = .ok (.iload_n 1, 1) := by decide +kernel
theorem dX13_readPath_34 : decode cX13_readPath 34 = .ok (.iload_n 2, 1) := by decide +kernel
theorem dX13_readPath_35 : decode cX13_readPath 35 = .ok (.if_icmp .eq 20, 3) := by decide +kernel
theorem dX13_readPath_38 : decode cX13_readPath 38 = .ok (.aload_n 0, 1) := by decide +kernel
theorem dX13_readPath_39 : decode cX13_readPath 39 = .ok (.getfield 185, 3) := by decide +kernel
theorem dX13_readPath_42 : decode cX13_readPath 42 = .ok (.getfield 334, 3) := by decide +kernel
theorem dX13_readPath_45 : decode cX13_readPath 45 = .ok (.bipush 6, 2) := by decide +kernel
theorem dX13_readPath_47 : decode cX13_readPath 47 = .ok (.iload_n 1, 1) := by decide +kernel
theorem dX13_readPath_48 : decode cX13_readPath 48 = .ok (.imul, 1) := by decide +kernel
theorem dX13_readPath_49 : decode cX13_readPath 49 = .ok (.iload_n 2, 1) := by decide +kernel
theorem dX13_readPath_50 : decode cX13_readPath 50 = .ok (.iadd, 1) := by decide +kernel
theorem dX13_readPath_51 : decode cX13_readPath 51 = .ok (.iaload, 1) := by decide +kernel
theorem dX13_readPath_52 : decode cX13_readPath 52 = .ok (.ifCond .le 8, 3) := by decide +kernel
theorem dX13_readPath_55 : decode cX13_readPath 55 = .ok (.aload_n 0, 1) := by decide +kernel
theorem dX13_readPath_56 : decode cX13_readPath 56 = .ok (.iconst 3, 1) := by decide +kernel
theorem dX13_readPath_57 : decode cX13_readPath 57 = .ok (.invokevirtual 146, 3) := by decide +kernel
theorem dX13_readPath_60 : decode cX13_readPath 60 = .ok (.aload_n 0, 1) := by decide +kernel
theorem dX13_readPath_61 : decode cX13_readPath 61 = .ok (.invokevirtual 139, 3) := by decide +kernel
theorem dX13_readPath_64 : decode cX13_readPath 64 = .ok (.aload_n 0, 1) := by decide +kernel
theorem dX13_readPath_65 : decode cX13_readPath 65 = .ok (.ldc_w 337, 3) := by decide +kernel
theorem dX13_readPath_68 : decode cX13_readPath 68 = .ok (.iconst 1, 1) := by decide +kernel
theorem dX13_readPath_69 : decode cX13_readPath 69 = .ok (.bipush 40, 2) := by decide +kernel
theorem dX13_readPath_71 : decode cX13_readPath 71 = .ok (.invokevirtual 270, 3) := by decide +kernel
theorem dX13_readPath_74 : decode cX13_readPath 74 = .ok (.istore_n 3, 1) := by decide +kernel
theorem dX13_readPath_75 : decode cX13_readPath 75 = .ok (.aload_n 0, 1) := by decide +kernel
theorem dX13_readPath_76 : decode cX13_readPath 76 = .ok (.getfield 100, 3) := by decide +kernel
theorem dX13_readPath_79 : decode cX13_readPath 79 = .ok (.iconst 5, 1) := by decide +kernel
theorem dX13_readPath_80 : decode cX13_readPath 80 = .ok (.if_icmp .ne 4, 3) := by decide +kernel
theorem dX13_readPath_83 : decode cX13_readPath 83 = .ok (.return_, 1) := by decide +kernel
theorem dX13_readPath_84 : decode cX13_readPath 84 = .ok (.aload_n 0, 1) := by decide +kernel
theorem dX13_readPath_85 : decode cX13_readPath 85 = .ok (.getfield 185, 3) := by decide +kernel
theorem dX13_readPath_88 : decode cX13_readPath 88 = .ok (.getfield 334, 3) := by decide +kernel
theorem dX13_readPath_91 : decode cX13_readPath 91 = .ok (.bipush 6, 2) := by decide +kernel
theorem dX13_readPath_93 : decode cX13_readPath 93 = .ok (.iload_n 1, 1) := by decide +kernel
theorem dX13_readPath_94 : decode cX13_readPath 94 = .ok (.imul, 1) := by decide +kernel
theorem dX13_readPath_95 : decode cX13_readPath 95 = .ok (.iload_n 2, 1) := by decide +kernel
theorem dX13_readPath_96 : decode cX13_readPath 96 = .ok (.iadd, 1) := by decide +kernel
theorem dX13_readPath_97 : decode cX13_readPath 97 = .ok (.iload_n 3, 1) := by decide +kernel
theorem dX13_readPath_98 : decode cX13_readPath 98 = .ok (.iastore, 1) := by decide +kernel
theorem dX13_readPath_99 : decode cX13_readPath 99 = .ok (.aload_n 0, 1) := by decide +kernel
theorem dX13_readPath_100 : decode cX13_readPath 100 = .ok (.getfield 185, 3) := by decide +kernel
theorem dX13_readPath_103 : decode cX13_readPath 103 = .ok (.getfield 334, 3) := by decide +kernel
theorem dX13_readPath_106 : decode cX13_readPath 106 = .ok (.bipush 6, 2) := by decide +kernel
theorem dX13_readPath_108 : decode cX13_readPath 108 = .ok (.iload_n 2, 1) := by decide +kernel
theorem dX13_readPath_109 : decode cX13_readPath 109 = .ok (.imul, 1) := by decide +kernel
theorem dX13_readPath_110 : decode cX13_readPath 110 = .ok (.iload_n 1, 1) := by decide +kernel
theorem dX13_readPath_111 : decode cX13_readPath 111 = .ok (.iadd, 1) := by decide +kernel
theorem dX13_readPath_112 : decode cX13_readPath 112 = .ok (.iload_n 3, 1) := by decide +kernel
theorem dX13_readPath_113 : decode cX13_readPath 113 = .ok (.iastore, 1) := by decide +kernel
theorem dX13_readPath_114 : decode cX13_readPath 114 = .ok (.aload_n 0, 1) := by decide +kernel
theorem dX13_readPath_115 : decode cX13_readPath 115 = .ok (.getfield 185, 3) := by decide +kernel
theorem dX13_readPath_118 : decode cX13_readPath 118 = .ok (.dup, 1) := by decide +kernel
theorem dX13_readPath_119 : decode cX13_readPath 119 = .ok (.getfield 331, 3) := by decide +kernel
theorem dX13_readPath_122 : decode cX13_readPath 122 = .ok (.iconst 1, 1) := by decide +kernel
theorem dX13_readPath_123 : decode cX13_readPath 123 = .ok (.iadd, 1) := by decide +kernel
theorem dX13_readPath_124 : decode cX13_readPath 124 = .ok (.putfield 331, 3) := by decide +kernel
theorem dX13_readPath_127 : decode cX13_readPath 127 = .ok (.return_, 1) := by decide +kernel
theorem dX13_readLeaves_0 : decode cX13_readLeaves 0 = .ok (.aload_n 0, 1) := by decide +kernel
theorem dX13_readLeaves_1 : decode cX13_readLeaves 1 = .ok (.aload_n 0, 1) := by decide +kernel
theorem dX13_readLeaves_2 : decode cX13_readLeaves 2 = .ok (.getfield 185, 3) := by decide +kernel
theorem dX13_readLeaves_5 : decode cX13_readLeaves 5 = .ok (.getfield 338, 3) := by decide +kernel
theorem dX13_readLeaves_8 : decode cX13_readLeaves 8 = .ok (.bipush 8, 2) := by decide +kernel
theorem dX13_readLeaves_10 : decode cX13_readLeaves 10 = .ok (.invokevirtual 276, 3) := by decide +kernel
theorem dX13_readLeaves_13 : decode cX13_readLeaves 13 = .ok (.aload_n 0, 1) := by decide +kernel
theorem dX13_readLeaves_14 : decode cX13_readLeaves 14 = .ok (.iconst 3, 1) := by decide +kernel
theorem dX13_readLeaves_15 : decode cX13_readLeaves 15 = .ok (.invokevirtual 218, 3) := by decide +kernel
theorem dX13_readLeaves_18 : decode cX13_readLeaves 18 = .ok (.istore_n 1, 1) := by decide +kernel
theorem dX13_readLeaves_19 : decode cX13_readLeaves 19 = .ok (.aload_n 0, 1) := by decide +kernel
theorem dX13_readLeaves_20 : decode cX13_readLeaves 20 = .ok (.iconst 1, 1) := by decide +kernel
theorem dX13_readLeaves_21 : decode cX13_readLeaves 21 = .ok (.invokevirtual 215, 3) := by decide +kernel
theorem dX13_readLeaves_24 : decode cX13_readLeaves 24 = .ok (.istore_n 2, 1) := by decide +kernel
theorem dX13_readLeaves_25 : decode cX13_readLeaves 25 = .ok (.aload_n 0, 1) := by decide +kernel
theorem dX13_readLeaves_26 : decode cX13_readLeaves 26 = .ok (.getfield 100, 3) := by decide +kernel
theorem dX13_readLeaves_29 : decode cX13_readLeaves 29 = .ok (.iconst 5, 1) := by decide +kernel
theorem dX13_readLeaves_30 : decode cX13_readLeaves 30 = .ok (.if_icmp .eq 25, 3) := by decide +kernel
theorem dX13_readLeaves_33 : decode cX13_readLeaves 33 = .ok (.aload_n 0, 1) := by decide +kernel
theorem dX13_readLeaves_34 : decode cX13_readLeaves 34 = .ok (.getfield 185, 3) := by decide +kernel
theorem dX13_readLeaves_37 : decode cX13_readLeaves 37 = .ok (.getfield 341, 3) := by decide +kernel
theorem dX13_readLeaves_40 : decode cX13_readLeaves 40 = .ok (.bipush 6, 2) := by decide +kernel
theorem dX13_readLeaves_42 : decode cX13_readLeaves 42 = .ok (.iload_n 1, 1) := by decide +kernel
theorem dX13_readLeaves_43 : decode cX13_readLeaves 43 = .ok (.imul, 1) := by decide +kernel
theorem dX13_readLeaves_44 : decode cX13_readLeaves 44 = .ok (.iload_n 2, 1) := by decide +kernel
theorem dX13_readLeaves_45 : decode cX13_readLeaves 45 = .ok (.iadd, 1) := by decide +kernel
theorem dX13_readLeaves_46 : decode cX13_readLeaves 46 = .ok (.iaload, 1) := by decide +kernel
theorem dX13_readLeaves_47 : decode cX13_readLeaves 47 = .ok (.ifCond .le 8, 3) := by decide +kernel
theorem dX13_readLeaves_50 : decode cX13_readLeaves 50 = .ok (.aload_n 0, 1) := by decide +kernel
theorem dX13_readLeaves_51 : decode cX13_readLeaves 51 = .ok (.iconst 3, 1) := by decide +kernel
theorem dX13_readLeaves_52 : decode cX13_readLeaves 52 = .ok (.invokevirtual 146, 3) := by decide +kernel
theorem dX13_readLeaves_55 : decode cX13_readLeaves 55 = .ok (.aload_n 0, 1) := by decide +kernel
theorem dX13_readLeaves_56 : decode cX13_readLeaves 56 = .ok (.invokevirtual 139, 3) := by decide +kernel
theorem dX13_readLeaves_59 : decode cX13_readLeaves 59 = .ok (.aload_n 0, 1) := by decide +kernel
theorem dX13_readLeaves_60 : decode cX13_readLeaves 60 = .ok (.iconst 1, 1) := by decide +kernel
theorem dX13_readLeaves_61 : decode cX13_readLeaves 61 = .ok (.bipush 60, 2) := by decide +kernel
theorem dX13_readLeaves_63 : decode cX13_readLeaves 63 = .ok (.invokevirtual 158, 3) := by decide +kernel
theorem dX13_readLeaves_66 : decode cX13_readLeaves 66 = .ok (.istore_n 3, 1) := by decide +kernel
theorem dX13_readLeaves_67 : decode cX13_readLeaves 67 = .ok (.aload_n 0, 1) := by decide +kernel
theorem dX13_readLeaves_68 : decode cX13_readLeaves 68 = .ok (.getfield 100, 3) := by decide +kernel
theorem dX13_readLeaves_71 : decode cX13_readLeaves 71 = .ok (.iconst 5, 1) := by decide +kernel
theorem dX13_readLeaves_72 : decode cX13_readLeaves 72 = .ok (.if_icmp .ne 4, 3) := by decide +kernel
theorem dX13_readLeaves_75 : decode cX13_readLeaves 75 = .ok (.return_, 1) := by decide +kernel
theorem dX13_readLeaves_76 : decode cX13_readLeaves 76 = .ok (.aload_n 0, 1) := by decide +kernel
theorem dX13_readLeaves_77 : decode cX13_readLeaves 77 = .ok (.getfield 185, 3) := by decide +kernel
theorem dX13_readLeaves_80 : decode cX13_readLeaves 80 = .ok (.getfield 341, 3) := by decide +kernel
theorem dX13_readLeaves_83 : decode cX13_readLeaves 83 = .ok (.bipush 6, 2) := by decide +kernel
theorem dX13_readLeaves_85 : decode cX13_readLeaves 85 = .ok (.iload_n 1, 1) := by decide +kernel
theorem dX13_readLeaves_86 : decode cX13_readLeaves 86 = .ok (.imul, 1) := by decide +kernel
theorem dX13_readLeaves_87 : decode cX13_readLeaves 87 = .ok (.iload_n 2, 1) := by decide +kernel
theorem dX13_readLeaves_88 : decode cX13_readLeaves 88 = .ok (.iadd, 1) := by decide +kernel
theorem dX13_readLeaves_89 : decode cX13_readLeaves 89 = .ok (.iload_n 3, 1) := by decide +kernel
theorem dX13_readLeaves_90 : decode cX13_readLeaves 90 = .ok (.iastore, 1) := by decide +kernel
theorem dX13_readLeaves_91 : decode cX13_readLeaves 91 = .ok (.aload_n 0, 1) := by decide +kernel
theorem dX13_readLeaves_92 : decode cX13_readLeaves 92 = .ok (.getfield 185, 3) := by decide +kernel
theorem dX13_readLeaves_95 : decode cX13_readLeaves 95 = .ok (.dup, 1) := by decide +kernel
theorem dX13_readLeaves_96 : decode cX13_readLeaves 96 = .ok (.getfield 338, 3) := by decide +kernel
theorem dX13_readLeaves_99 : decode cX13_readLeaves 99 = .ok (.iconst 1, 1) := by decide +kernel
theorem dX13_readLeaves_100 : decode cX13_readLeaves 100 = .ok (.iadd, 1) := by decide +kernel
theorem dX13_readLeaves_101 : decode cX13_readLeaves 101 = .ok (.putfield 338, 3) := by decide +kernel
theorem dX13_readLeaves_104 : decode cX13_readLeaves 104 = .ok (.return_, 1) := by decide +kernel
theorem dX13_readTraveller_0 : decode cX13_readTraveller 0 = .ok (.aload_n 0, 1) := by decide +kernel
theorem dX13_readTraveller_1 : decode cX13_readTraveller 1 = .ok (.aload_n 0, 1) := by decide +kernel
theorem dX13_readTraveller_2 : decode cX13_readTraveller 2 = .ok (.getfield 185, 3) := by decide +kernel
theorem dX13_readTraveller_5 : decode cX13_readTraveller 5 = .ok (.getfield 343, 3) := by decide +kernel
theorem dX13_readTraveller_8 : decode cX13_readTraveller 8 = .ok (.iconst 4, 1) := by decide +kernel
theorem dX13_readTraveller_9 : decode cX13_readTraveller 9 = .ok (.invokevirtual 276, 3) := by decide +kernel
theorem dX13_readTraveller_12 : decode cX13_readTraveller 12 = .ok (.aload_n 0, 1) := by decide +kernel
theorem dX13_readTraveller_13 : decode cX13_readTraveller 13 = .ok (.invokevirtual 280, 3) := by decide +kernel
theorem dX13_readTraveller_16 : decode cX13_readTraveller 16 = .ok (.lstore_n 1, 1) := by decide +kernel
theorem dX13_readTraveller_17 : decode cX13_readTraveller 17 = .ok (.aload_n 0, 1) := by decide +kernel
theorem dX13_readTraveller_18 : decode cX13_readTraveller 18 = .ok (.ldc_w 346, 3) := by decide +kernel
theorem dX13_readTraveller_21 : decode cX13_readTraveller 21 = .ok (.invokevirtual 142, 3) := by decide +kernel
theorem dX13_readTraveller_24 : decode cX13_readTraveller 24 = .ok (.ifCond .eq 7, 3) := by decide +kernel
theorem dX13_readTraveller_27 : decode cX13_readTraveller 27 = .ok (.iconst 0, 1) := by decide +kernel
theorem dX13_readTraveller_28 : decode cX13_readTraveller 28 = .ok (.goto 46, 3) := by decide +kernel
theorem dX13_readTraveller_31 : decode cX13_readTraveller 31 = .ok (.aload_n 0, 1) := by decide +kernel
theorem dX13_readTraveller_32 : decode cX13_readTraveller 32 = .ok (.ldc_w 348, 3) := by decide +kernel
theorem dX13_readTraveller_35 : decode cX13_readTraveller 35 = .ok (.invokevirtual 142, 3) := by decide +kernel
theorem dX13_readTraveller_38 : decode cX13_readTraveller 38 = .ok (.ifCond .eq 7, 3) := by decide +kernel
theorem dX13_readTraveller_41 : decode cX13_readTraveller 41 = .ok (.iconst 1, 1) := by decide +kernel
theorem dX13_readTraveller_42 : decode cX13_readTraveller 42 = .ok (.goto 32, 3) := by decide +kernel
theorem dX13_readTraveller_45 : decode cX13_readTraveller 45 = .ok (.aload_n 0, 1) := by decide +kernel
theorem dX13_readTraveller_46 : decode cX13_readTraveller 46 = .ok (.ldc_w 350, 3) := by decide +kernel
theorem dX13_readTraveller_49 : decode cX13_readTraveller 49 = .ok (.invokevirtual 142, 3) := by decide +kernel
theorem dX13_readTraveller_52 : decode cX13_readTraveller 52 = .ok (.ifCond .eq 7, 3) := by decide +kernel
theorem dX13_readTraveller_55 : decode cX13_readTraveller 55 = .ok (.iconst 2, 1) := by decide +kernel
theorem dX13_readTraveller_56 : decode cX13_readTraveller 56 = .ok (.goto 18, 3) := by decide +kernel
theorem dX13_readTraveller_59 : decode cX13_readTraveller 59 = .ok (.aload_n 0, 1) := by decide +kernel
theorem dX13_readTraveller_60 : decode cX13_readTraveller 60 = .ok (.ldc_w 352, 3) := by decide +kernel
theorem dX13_readTraveller_63 : decode cX13_readTraveller 63 = .ok (.invokevirtual 142, 3) := by decide +kernel
theorem dX13_readTraveller_66 : decode cX13_readTraveller 66 = .ok (.ifCond .eq 7, 3) := by decide +kernel
theorem dX13_readTraveller_69 : decode cX13_readTraveller 69 = .ok (.iconst 3, 1) := by decide +kernel
theorem dX13_readTraveller_70 : decode cX13_readTraveller 70 = .ok (.goto 4, 3) := by decide +kernel
theorem dX13_readTraveller_73 : decode cX13_readTraveller 73 = .ok (.iconst (-1), 1) := by decide +kernel
theorem dX13_readTraveller_74 : decode cX13_readTraveller 74 = .ok (.istore_n 3, 1) := by decide +kernel
theorem dX13_readTraveller_75 : decode cX13_readTraveller 75 = .ok (.iload_n 3, 1) := by decide +kernel
theorem dX13_readTraveller_76 : decode cX13_readTraveller 76 = .ok (.iconst (-1), 1) := by decide +kernel
theorem dX13_readTraveller_77 : decode cX13_readTraveller 77 = .ok (.if_icmp .ne 8, 3) := by decide +kernel
theorem dX13_readTraveller_80 : decode cX13_readTraveller 80 = .ok (.aload_n 0, 1) := by decide +kernel
theorem dX13_readTraveller_81 : decode cX13_readTraveller 81 = .ok (.iconst 1, 1) := by decide +kernel
theorem dX13_readTraveller_82 : decode cX13_readTraveller 82 = .ok (.invokevirtual 146, 3) := by decide +kernel
theorem dX13_readTraveller_85 : decode cX13_readTraveller 85 = .ok (.aload_n 0, 1) := by decide +kernel
theorem dX13_readTraveller_86 : decode cX13_readTraveller 86 = .ok (.invokevirtual 139, 3) := by decide +kernel
theorem dX13_readTraveller_89 : decode cX13_readTraveller 89 = .ok (.aload_n 0, 1) := by decide +kernel
theorem dX13_readTraveller_90 : decode cX13_readTraveller 90 = .ok (.ldc_w 354, 3) := by decide +kernel
theorem dX13_readTraveller_93 : decode cX13_readTraveller 93 = .ok (.iconst 0, 1) := by decide +kernel
theorem dX13_readTraveller_94 : decode cX13_readTraveller 94 = .ok (.invokevirtual 309, 3) := by decide +kernel
theorem dX13_readTraveller_97 : decode cX13_readTraveller 97 = .ok (.istore 4, 2) := by decide +kernel
theorem dX13_readTraveller_99 : decode cX13_readTraveller 99 = .ok (.aload_n 0, 1) := by decide +kernel
theorem dX13_readTraveller_100 : decode cX13_readTraveller 100 = .ok (.ldc_w 356, 3) := by decide +kernel
theorem dX13_readTraveller_103 : decode cX13_readTraveller 103 = .ok (.iconst 3, 1) := by decide +kernel
theorem dX13_readTraveller_104 : decode cX13_readTraveller 104 = .ok (.invokevirtual 309, 3) := by decide +kernel
theorem dX13_readTraveller_107 : decode cX13_readTraveller 107 = .ok (.istore 5, 2) := by decide +kernel
theorem dX13_readTraveller_109 : decode cX13_readTraveller 109 = .ok (.aload_n 0, 1) := by decide +kernel
theorem dX13_readTraveller_110 : decode cX13_readTraveller 110 = .ok (.getfield 100, 3) := by decide +kernel
theorem dX13_readTraveller_113 : decode cX13_readTraveller 113 = .ok (.iconst 5, 1) := by decide +kernel
theorem dX13_readTraveller_114 : decode cX13_readTraveller 114 = .ok (.if_icmp .ne 4, 3) := by decide +kernel
theorem dX13_readTraveller_117 : decode cX13_readTraveller 117 = .ok (.return_, 1) := by decide +kernel
theorem dX13_readTraveller_118 : decode cX13_readTraveller 118 = .ok (.aload_n 0, 1) := by decide +kernel
theorem dX13_readTraveller_119 : decode cX13_readTraveller 119 = .ok (.lload_n 1, 1) := by decide +kernel
theorem dX13_readTraveller_120 : decode cX13_readTraveller 120 = .ok (.iconst 4, 1) := by decide +kernel
theorem dX13_readTraveller_121 : decode cX13_readTraveller 121 = .ok (.aload_n 0, 1) := by decide +kernel
theorem dX13_readTraveller_122 : decode cX13_readTraveller 122 = .ok (.getfield 185, 3) := by decide +kernel
theorem dX13_readTraveller_125 : decode cX13_readTraveller 125 = .ok (.getfield 343, 3) := by decide +kernel
theorem dX13_readTraveller_128 : decode cX13_readTraveller 128 = .ok (.invokevirtual 286, 3) := by decide +kernel
theorem dX13_readTraveller_131 : decode cX13_readTraveller 131 = .ok (.aload_n 0, 1) := by decide +kernel
theorem dX13_readTraveller_132 : decode cX13_readTraveller 132 = .ok (.getfield 185, 3) := by decide +kernel
theorem dX13_readTraveller_135 : decode cX13_readTraveller 135 = .ok (.getfield 358, 3) := by decide +kernel
theorem dX13_readTraveller_138 : decode cX13_readTraveller 138 = .ok (.aload_n 0, 1) := by decide +kernel
theorem dX13_readTraveller_139 : decode cX13_readTraveller 139 = .ok (.getfield 185, 3) := by decide +kernel
theorem dX13_readTraveller_142 : decode cX13_readTraveller 142 = .ok (.getfield 343, 3) := by decide +kernel
theorem dX13_readTraveller_145 : decode cX13_readTraveller 145 = .ok (.iload_n 3, 1) := by decide +kernel
theorem dX13_readTraveller_146 : decode cX13_readTraveller 146 = .ok (.iastore, 1) := by decide +kernel
theorem dX13_readTraveller_147 : decode cX13_readTraveller 147 = .ok (.aload_n 0, 1) := by decide +kernel
theorem dX13_readTraveller_148 : decode cX13_readTraveller 148 = .ok (.getfield 185, 3) := by decide +kernel
theorem dX13_readTraveller_151 : decode cX13_readTraveller 151 = .ok (.getfield 361, 3) := by decide +kernel
theorem dX13_readTraveller_154 : decode cX13_readTraveller 154 = .ok (.aload_n 0, 1) := by decide +kernel
theorem dX13_readTraveller_155 : decode cX13_readTraveller 155 = .ok (.getfield 185, 3) := by decide +kernel
theorem dX13_readTraveller_158 : decode cX13_readTraveller 158 = .ok (.getfield 343, 3) := by decide +kernel
theorem dX13_readTraveller_161 : decode cX13_readTraveller 161 = .ok (.iload 4, 2) := by decide +kernel
theorem dX13_readTraveller_163 : decode cX13_readTraveller 163 = .ok (.iastore, 1) := by decide +kernel
theorem dX13_readTraveller_164 : decode cX13_readTraveller 164 = .ok (.aload_n 0, 1) := by decide +kernel
theorem dX13_readTraveller_165 : decode cX13_readTraveller 165 = .ok (.getfield 185, 3) := by decide +kernel
theorem dX13_readTraveller_168 : decode cX13_readTraveller 168 = .ok (.getfield 363, 3) := by decide +kernel
theorem dX13_readTraveller_171 : decode cX13_readTraveller 171 = .ok (.aload_n 0, 1) := by decide +kernel
theorem dX13_readTraveller_172 : decode cX13_readTraveller 172 = .ok (.getfield 185, 3) := by decide +kernel
theorem dX13_readTraveller_175 : decode cX13_readTraveller 175 = .ok (.getfield 343, 3) := by decide +kernel
theorem dX13_readTraveller_178 : decode cX13_readTraveller 178 = .ok (.iload 5, 2) := by decide +kernel
theorem dX13_readTraveller_180 : decode cX13_readTraveller 180 = .ok (.iastore, 1) := by decide +kernel
theorem dX13_readTraveller_181 : decode cX13_readTraveller 181 = .ok (.aload_n 0, 1) := by decide +kernel
theorem dX13_readTraveller_182 : decode cX13_readTraveller 182 = .ok (.getfield 185, 3) := by decide +kernel
theorem dX13_readTraveller_185 : decode cX13_readTraveller 185 = .ok (.dup, 1) := by decide +kernel
theorem dX13_readTraveller_186 : decode cX13_readTraveller 186 = .ok (.getfield 343, 3) := by decide +kernel
theorem dX13_readTraveller_189 : decode cX13_readTraveller 189 = .ok (.iconst 1, 1) := by decide +kernel
theorem dX13_readTraveller_190 : decode cX13_readTraveller 190 = .ok (.iadd, 1) := by decide +kernel
theorem dX13_readTraveller_191 : decode cX13_readTraveller 191 = .ok (.putfield 343, 3) := by decide +kernel
theorem dX13_readTraveller_194 : decode cX13_readTraveller 194 = .ok (.return_, 1) := by decide +kernel
theorem dX13_readOn_0 : decode cX13_readOn 0 = .ok (.aload_n 0, 1) := by decide +kernel
theorem dX13_readOn_1 : decode cX13_readOn 1 = .ok (.aload_n 0, 1) := by decide +kernel
theorem dX13_readOn_2 : decode cX13_readOn 2 = .ok (.getfield 185, 3) := by decide +kernel
theorem dX13_readOn_5 : decode cX13_readOn 5 = .ok (.getfield 365, 3) := by decide +kernel
theorem dX13_readOn_8 : decode cX13_readOn 8 = .ok (.bipush 12, 2) := by decide +kernel
theorem dX13_readOn_10 : decode cX13_readOn 10 = .ok (.invokevirtual 276, 3) := by decide +kernel
theorem dX13_readOn_13 : decode cX13_readOn 13 = .ok (.aload_n 0, 1) := by decide +kernel
theorem dX13_readOn_14 : decode cX13_readOn 14 = .ok (.iconst 4, 1) := by decide +kernel
theorem dX13_readOn_15 : decode cX13_readOn 15 = .ok (.invokevirtual 218, 3) := by decide +kernel
theorem dX13_readOn_18 : decode cX13_readOn 18 = .ok (.istore_n 1, 1) := by decide +kernel
theorem dX13_readOn_19 : decode cX13_readOn 19 = .ok (.aload_n 0, 1) := by decide +kernel
theorem dX13_readOn_20 : decode cX13_readOn 20 = .ok (.iconst 1, 1) := by decide +kernel
theorem dX13_readOn_21 : decode cX13_readOn 21 = .ok (.invokevirtual 215, 3) := by decide +kernel
theorem dX13_readOn_24 : decode cX13_readOn 24 = .ok (.istore_n 2, 1) := by decide +kernel
theorem dX13_readOn_25 : decode cX13_readOn 25 = .ok (.aload_n 0, 1) := by decide +kernel
theorem dX13_readOn_26 : decode cX13_readOn 26 = .ok (.getfield 100, 3) := by decide +kernel
theorem dX13_readOn_29 : decode cX13_readOn 29 = .ok (.iconst 5, 1) := by decide +kernel
theorem dX13_readOn_30 : decode cX13_readOn 30 = .ok (.if_icmp .eq 25, 3) := by decide +kernel
theorem dX13_readOn_33 : decode cX13_readOn 33 = .ok (.aload_n 0, 1) := by decide +kernel
theorem dX13_readOn_34 : decode cX13_readOn 34 = .ok (.getfield 185, 3) := by decide +kernel
theorem dX13_readOn_37 : decode cX13_readOn 37 = .ok (.getfield 368, 3) := by decide +kernel
theorem dX13_readOn_40 : decode cX13_readOn 40 = .ok (.bipush 6, 2) := by decide +kernel
theorem dX13_readOn_42 : decode cX13_readOn 42 = .ok (.iload_n 1, 1) := by decide +kernel
theorem dX13_readOn_43 : decode cX13_readOn 43 = .ok (.imul, 1) := by decide +kernel
theorem dX13_readOn_44 : decode cX13_readOn 44 = .ok (.iload_n 2, 1) := by decide +kernel
theorem dX13_readOn_45 : decode cX13_readOn 45 = .ok (.iadd, 1) := by decide +kernel
theorem dX13_readOn_46 : decode cX13_readOn 46 = .ok (.iaload, 1) := by decide +kernel
theorem dX13_readOn_47 : decode cX13_readOn 47 = .ok (.ifCond .le 8, 3) := by decide +kernel
theorem dX13_readOn_50 : decode cX13_readOn 50 = .ok (.aload_n 0, 1) := by decide +kernel
theorem dX13_readOn_51 : decode cX13_readOn 51 = .ok (.iconst 3, 1) := by decide +kernel
theorem dX13_readOn_52 : decode cX13_readOn 52 = .ok (.invokevirtual 146, 3) := by decide +kernel
theorem dX13_readOn_55 : decode cX13_readOn 55 = .ok (.aload_n 0, 1) := by decide +kernel
theorem dX13_readOn_56 : decode cX13_readOn 56 = .ok (.invokevirtual 139, 3) := by decide +kernel
theorem dX13_readOn_59 : decode cX13_readOn 59 = .ok (.aload_n 0, 1) := by decide +kernel
theorem dX13_readOn_60 : decode cX13_readOn 60 = .ok (.iconst 1, 1) := by decide +kernel
theorem dX13_readOn_61 : decode cX13_readOn 61 = .ok (.bipush 99, 2) := by decide +kernel
theorem dX13_readOn_63 : decode cX13_readOn 63 = .ok (.invokevirtual 158, 3) := by decide +kernel
theorem dX13_readOn_66 : decode cX13_readOn 66 = .ok (.istore_n 3, 1) := by decide +kernel
theorem dX13_readOn_67 : decode cX13_readOn 67 = .ok (.aload_n 0, 1) := by decide +kernel
theorem dX13_readOn_68 : decode cX13_readOn 68 = .ok (.getfield 100, 3) := by decide +kernel
theorem dX13_readOn_71 : decode cX13_readOn 71 = .ok (.iconst 5, 1) := by decide +kernel
theorem dX13_readOn_72 : decode cX13_readOn 72 = .ok (.if_icmp .ne 4, 3) := by decide +kernel
theorem dX13_readOn_75 : decode cX13_readOn 75 = .ok (.return_, 1) := by decide +kernel
theorem dX13_readOn_76 : decode cX13_readOn 76 = .ok (.aload_n 0, 1) := by decide +kernel
theorem dX13_readOn_77 : decode cX13_readOn 77 = .ok (.getfield 185, 3) := by decide +kernel
theorem dX13_readOn_80 : decode cX13_readOn 80 = .ok (.getfield 368, 3) := by decide +kernel
theorem dX13_readOn_83 : decode cX13_readOn 83 = .ok (.bipush 6, 2) := by decide +kernel
theorem dX13_readOn_85 : decode cX13_readOn 85 = .ok (.iload_n 1, 1) := by decide +kernel
theorem dX13_readOn_86 : decode cX13_readOn 86 = .ok (.imul, 1) := by decide +kernel
theorem dX13_readOn_87 : decode cX13_readOn 87 = .ok (.iload_n 2, 1) := by decide +kernel
theorem dX13_readOn_88 : decode cX13_readOn 88 = .ok (.iadd, 1) := by decide +kernel
theorem dX13_readOn_89 : decode cX13_readOn 89 = .ok (.iload_n 3, 1) := by decide +kernel
theorem dX13_readOn_90 : decode cX13_readOn 90 = .ok (.iastore, 1) := by decide +kernel
theorem dX13_readOn_91 : decode cX13_readOn 91 = .ok (.aload_n 0, 1) := by decide +kernel
theorem dX13_readOn_92 : decode cX13_readOn 92 = .ok (.getfield 185, 3) := by decide +kernel
theorem dX13_readOn_95 : decode cX13_readOn 95 = .ok (.dup, 1) := by decide +kernel
theorem dX13_readOn_96 : decode cX13_readOn 96 = .ok (.getfield 365, 3) := by decide +kernel
theorem dX13_readOn_99 : decode cX13_readOn 99 = .ok (.iconst 1, 1) := by decide +kernel
theorem dX13_readOn_100 : decode cX13_readOn 100 = .ok (.iadd, 1) := by decide +kernel
theorem dX13_readOn_101 : decode cX13_readOn 101 = .ok (.putfield 365, 3) := by decide +kernel
theorem dX13_readOn_104 : decode cX13_readOn 104 = .ok (.return_, 1) := by decide +kernel
theorem dX13_readWalk_0 : decode cX13_readWalk 0 = .ok (.aload_n 0, 1) := by decide +kernel
theorem dX13_readWalk_1 : decode cX13_readWalk 1 = .ok (.iconst 0, 1) := by decide +kernel
theorem dX13_readWalk_2 : decode cX13_readWalk 2 = .ok (.iconst 1, 1) := by decide +kernel
theorem dX13_readWalk_3 : decode cX13_readWalk 3 = .ok (.invokevirtual 276, 3) := by decide +kernel
theorem dX13_readWalk_6 : decode cX13_readWalk 6 = .ok (.aload_n 0, 1) := by decide +kernel
theorem dX13_readWalk_7 : decode cX13_readWalk 7 = .ok (.iconst 4, 1) := by decide +kernel
theorem dX13_readWalk_8 : decode cX13_readWalk 8 = .ok (.invokevirtual 215, 3) := by decide +kernel
theorem dX13_readWalk_11 : decode cX13_readWalk 11 = .ok (.istore_n 1, 1) := by decide +kernel
theorem dX13_readWalk_12 : decode cX13_readWalk 12 = .ok (.aload_n 0, 1) := by decide +kernel
theorem dX13_readWalk_13 : decode cX13_readWalk 13 = .ok (.getfield 100, 3) := by decide +kernel
theorem dX13_readWalk_16 : decode cX13_readWalk 16 = .ok (.iconst 5, 1) := by decide +kernel
theorem dX13_readWalk_17 : decode cX13_readWalk 17 = .ok (.if_icmp .eq 20, 3) := by decide +kernel
theorem dX13_readWalk_20 : decode cX13_readWalk 20 = .ok (.aload_n 0, 1) := by decide +kernel
theorem dX13_readWalk_21 : decode cX13_readWalk 21 = .ok (.getfield 185, 3) := by decide +kernel
theorem dX13_readWalk_24 : decode cX13_readWalk 24 = .ok (.getfield 370, 3) := by decide +kernel
theorem dX13_readWalk_27 : decode cX13_readWalk 27 = .ok (.iload_n 1, 1) := by decide +kernel
theorem dX13_readWalk_28 : decode cX13_readWalk 28 = .ok (.iaload, 1) := by decide +kernel
theorem dX13_readWalk_29 : decode cX13_readWalk 29 = .ok (.ifCond .le 8, 3) := by decide +kernel
theorem dX13_readWalk_32 : decode cX13_readWalk 32 = .ok (.aload_n 0, 1) := by decide +kernel
theorem dX13_readWalk_33 : decode cX13_readWalk 33 = .ok (.iconst 3, 1) := by decide +kernel
theorem dX13_readWalk_34 : decode cX13_readWalk 34 = .ok (.invokevirtual 146, 3) := by decide +kernel
theorem dX13_readWalk_37 : decode cX13_readWalk 37 = .ok (.aload_n 0, 1) := by decide +kernel
theorem dX13_readWalk_38 : decode cX13_readWalk 38 = .ok (.invokevirtual 139, 3) := by decide +kernel
theorem dX13_readWalk_41 : decode cX13_readWalk 41 = .ok (.iconst 0, 1) := by decide +kernel
theorem dX13_readWalk_42 : decode cX13_readWalk 42 = .ok (.istore_n 2, 1) := by decide +kernel
theorem dX13_readWalk_43 : decode cX13_readWalk 43 = .ok (.iconst 1, 1) := by decide +kernel
theorem dX13_readWalk_44 : decode cX13_readWalk 44 = .ok (.istore_n 3, 1) := by decide +kernel
theorem dX13_readWalk_45 : decode cX13_readWalk 45 = .ok (.iload_n 3, 1) := by decide +kernel
theorem dX13_readWalk_46 : decode cX13_readWalk 46 = .ok (.ifCond .eq 61, 3) := by decide +kernel
theorem dX13_readWalk_49 : decode cX13_readWalk 49 = .ok (.aload_n 0, 1) := by decide +kernel
theorem dX13_readWalk_50 : decode cX13_readWalk 50 = .ok (.iconst 3, 1) := by decide +kernel
theorem dX13_readWalk_51 : decode cX13_readWalk 51 = .ok (.invokevirtual 215, 3) := by decide +kernel
theorem dX13_readWalk_54 : decode cX13_readWalk 54 = .ok (.istore 4, 2) := by decide +kernel
theorem dX13_readWalk_56 : decode cX13_readWalk 56 = .ok (.iload_n 2, 1) := by decide +kernel
theorem dX13_readWalk_57 : decode cX13_readWalk 57 = .ok (.iconst 5, 1) := by decide +kernel
theorem dX13_readWalk_58 : decode cX13_readWalk 58 = .ok (.if_icmp .ne 8, 3) := by decide +kernel
theorem dX13_readWalk_61 : decode cX13_readWalk 61 = .ok (.aload_n 0, 1) := by decide +kernel
theorem dX13_readWalk_62 : decode cX13_readWalk 62 = .ok (.iconst 5, 1) := by decide +kernel
theorem dX13_readWalk_63 : decode cX13_readWalk 63 = .ok (.invokevirtual 146, 3) := by decide +kernel
theorem dX13_readWalk_66 : decode cX13_readWalk 66 = .ok (.aload_n 0, 1) := by decide +kernel
theorem dX13_readWalk_67 : decode cX13_readWalk 67 = .ok (.invokevirtual 139, 3) := by decide +kernel
theorem dX13_readWalk_70 : decode cX13_readWalk 70 = .ok (.aload_n 0, 1) := by decide +kernel
theorem dX13_readWalk_71 : decode cX13_readWalk 71 = .ok (.getfield 100, 3) := by decide +kernel
theorem dX13_readWalk_74 : decode cX13_readWalk 74 = .ok (.iconst 5, 1) := by decide +kernel
theorem dX13_readWalk_75 : decode cX13_readWalk 75 = .ok (.if_icmp .ne 4, 3) := by decide +kernel
theorem dX13_readWalk_78 : decode cX13_readWalk 78 = .ok (.return_, 1) := by decide +kernel
theorem dX13_readWalk_79 : decode cX13_readWalk 79 = .ok (.aload_n 0, 1) := by decide +kernel
theorem dX13_readWalk_80 : decode cX13_readWalk 80 = .ok (.getfield 185, 3) := by decide +kernel
theorem dX13_readWalk_83 : decode cX13_readWalk 83 = .ok (.getfield 373, 3) := by decide +kernel
theorem dX13_readWalk_86 : decode cX13_readWalk 86 = .ok (.iconst 5, 1) := by decide +kernel
theorem dX13_readWalk_87 : decode cX13_readWalk 87 = .ok (.iload_n 1, 1) := by decide +kernel
theorem dX13_readWalk_88 : decode cX13_readWalk 88 = .ok (.imul, 1) := by decide +kernel
theorem dX13_readWalk_89 : decode cX13_readWalk 89 = .ok (.iload_n 2, 1) := by decide +kernel
theorem dX13_readWalk_90 : decode cX13_readWalk 90 = .ok (.iadd, 1) := by decide +kernel
theorem dX13_readWalk_91 : decode cX13_readWalk 91 = .ok (.iload 4, 2) := by decide +kernel
theorem dX13_readWalk_93 : decode cX13_readWalk 93 = .ok (.iastore, 1) := by decide +kernel
theorem dX13_readWalk_94 : decode cX13_readWalk 94 = .ok (.iinc 2 1, 3) := by decide +kernel
theorem dX13_readWalk_97 : decode cX13_readWalk 97 = .ok (.aload_n 0, 1) := by decide +kernel
theorem dX13_readWalk_98 : decode cX13_readWalk 98 = .ok (.bipush 44, 2) := by decide +kernel
theorem dX13_readWalk_100 : decode cX13_readWalk 100 = .ok (.invokevirtual 224, 3) := by decide +kernel
theorem dX13_readWalk_103 : decode cX13_readWalk 103 = .ok (.istore_n 3, 1) := by decide +kernel
theorem dX13_readWalk_104 : decode cX13_readWalk 104 = .ok (.goto (-59), 3) := by decide +kernel
theorem dX13_readWalk_107 : decode cX13_readWalk 107 = .ok (.aload_n 0, 1) := by decide +kernel
theorem dX13_readWalk_108 : decode cX13_readWalk 108 = .ok (.getfield 185, 3) := by decide +kernel
theorem dX13_readWalk_111 : decode cX13_readWalk 111 = .ok (.getfield 370, 3) := by decide +kernel
theorem dX13_readWalk_114 : decode cX13_readWalk 114 = .ok (.iload_n 1, 1) := by decide +kernel
theorem dX13_readWalk_115 : decode cX13_readWalk 115 = .ok (.iload_n 2, 1) := by decide +kernel
theorem dX13_readWalk_116 : decode cX13_readWalk 116 = .ok (.iastore, 1) := by decide +kernel
theorem dX13_readWalk_117 : decode cX13_readWalk 117 = .ok (.aload_n 0, 1) := by decide +kernel
theorem dX13_readWalk_118 : decode cX13_readWalk 118 = .ok (.getfield 185, 3) := by decide +kernel
theorem dX13_readWalk_121 : decode cX13_readWalk 121 = .ok (.dup, 1) := by decide +kernel
theorem dX13_readWalk_122 : decode cX13_readWalk 122 = .ok (.getfield 375, 3) := by decide +kernel
theorem dX13_readWalk_125 : decode cX13_readWalk 125 = .ok (.iconst 1, 1) := by decide +kernel
theorem dX13_readWalk_126 : decode cX13_readWalk 126 = .ok (.iadd, 1) := by decide +kernel
theorem dX13_readWalk_127 : decode cX13_readWalk 127 = .ok (.putfield 375, 3) := by decide +kernel
theorem dX13_readWalk_130 : decode cX13_readWalk 130 = .ok (.return_, 1) := by decide +kernel
theorem dX13_readAsked_0 : decode cX13_readAsked 0 = .ok (.aload_n 0, 1) := by decide +kernel
theorem dX13_readAsked_1 : decode cX13_readAsked 1 = .ok (.aload_n 0, 1) := by decide +kernel
theorem dX13_readAsked_2 : decode cX13_readAsked 2 = .ok (.getfield 185, 3) := by decide +kernel
theorem dX13_readAsked_5 : decode cX13_readAsked 5 = .ok (.getfield 378, 3) := by decide +kernel
theorem dX13_readAsked_8 : decode cX13_readAsked 8 = .ok (.iconst 4, 1) := by decide +kernel
theorem dX13_readAsked_9 : decode cX13_readAsked 9 = .ok (.invokevirtual 276, 3) := by decide +kernel
theorem dX13_readAsked_12 : decode cX13_readAsked 12 = .ok (.aload_n 0, 1) := by decide +kernel
theorem dX13_readAsked_13 : decode cX13_readAsked 13 = .ok (.iconst 4, 1) := by decide +kernel
theorem dX13_readAsked_14 : decode cX13_readAsked 14 = .ok (.invokevirtual 218, 3) := by decide +kernel
theorem dX13_readAsked_17 : decode cX13_readAsked 17 = .ok (.istore_n 1, 1) := by decide +kernel
theorem dX13_readAsked_18 : decode cX13_readAsked 18 = .ok (.aload_n 0, 1) := by decide +kernel
theorem dX13_readAsked_19 : decode cX13_readAsked 19 = .ok (.iconst 0, 1) := by decide +kernel
theorem dX13_readAsked_20 : decode cX13_readAsked 20 = .ok (.bipush 99, 2) := by decide +kernel
theorem dX13_readAsked_22 : decode cX13_readAsked 22 = .ok (.invokevirtual 158, 3) := by decide +kernel
theorem dX13_readAsked_25 : decode cX13_readAsked 25 = .ok (.istore_n 2, 1) := by decide +kernel
theorem dX13_readAsked_26 : decode cX13_readAsked 26 = .ok (.aload_n 0, 1) := by decide +kernel
theorem dX13_readAsked_27 : decode cX13_readAsked 27 = .ok (.getfield 100, 3) := by decide +kernel
theorem dX13_readAsked_30 : decode cX13_readAsked 30 = .ok (.iconst 5, 1) := by decide +kernel
theorem dX13_readAsked_31 : decode cX13_readAsked 31 = .ok (.if_icmp .ne 4, 3) := by decide +kernel
theorem dX13_readAsked_34 : decode cX13_readAsked 34 = .ok (.return_, 1) := by decide +kernel
theorem dX13_readAsked_35 : decode cX13_readAsked 35 = .ok (.aload_n 0, 1) := by decide +kernel
theorem dX13_readAsked_36 : decode cX13_readAsked 36 = .ok (.getfield 185, 3) := by decide +kernel
theorem dX13_readAsked_39 : decode cX13_readAsked 39 = .ok (.getfield 381, 3) := by decide +kernel
theorem dX13_readAsked_42 : decode cX13_readAsked 42 = .ok (.aload_n 0, 1) := by decide +kernel
theorem dX13_readAsked_43 : decode cX13_readAsked 43 = .ok (.getfield 185, 3) := by decide +kernel
theorem dX13_readAsked_46 : decode cX13_readAsked 46 = .ok (.getfield 378, 3) := by decide +kernel
theorem dX13_readAsked_49 : decode cX13_readAsked 49 = .ok (.iload_n 1, 1) := by decide +kernel
theorem dX13_readAsked_50 : decode cX13_readAsked 50 = .ok (.iastore, 1) := by decide +kernel
theorem dX13_readAsked_51 : decode cX13_readAsked 51 = .ok (.aload_n 0, 1) := by decide +kernel
theorem dX13_readAsked_52 : decode cX13_readAsked 52 = .ok (.getfield 185, 3) := by decide +kernel
theorem dX13_readAsked_55 : decode cX13_readAsked 55 = .ok (.getfield 384, 3) := by decide +kernel
theorem dX13_readAsked_58 : decode cX13_readAsked 58 = .ok (.aload_n 0, 1) := by decide +kernel
theorem dX13_readAsked_59 : decode cX13_readAsked 59 = .ok (.getfield 185, 3) := by decide +kernel
theorem dX13_readAsked_62 : decode cX13_readAsked 62 = .ok (.getfield 378, 3) := by decide +kernel
theorem dX13_readAsked_65 : decode cX13_readAsked 65 = .ok (.iload_n 2, 1) := by decide +kernel
theorem dX13_readAsked_66 : decode cX13_readAsked 66 = .ok (.iastore, 1) := by decide +kernel
theorem dX13_readAsked_67 : decode cX13_readAsked 67 = .ok (.aload_n 0, 1) := by decide +kernel
theorem dX13_readAsked_68 : decode cX13_readAsked 68 = .ok (.getfield 185, 3) := by decide +kernel
theorem dX13_readAsked_71 : decode cX13_readAsked 71 = .ok (.dup, 1) := by decide +kernel
theorem dX13_readAsked_72 : decode cX13_readAsked 72 = .ok (.getfield 378, 3) := by decide +kernel
theorem dX13_readAsked_75 : decode cX13_readAsked 75 = .ok (.iconst 1, 1) := by decide +kernel
theorem dX13_readAsked_76 : decode cX13_readAsked 76 = .ok (.iadd, 1) := by decide +kernel
theorem dX13_readAsked_77 : decode cX13_readAsked 77 = .ok (.putfield 378, 3) := by decide +kernel
theorem dX13_readAsked_80 : decode cX13_readAsked 80 = .ok (.return_, 1) := by decide +kernel
theorem dX13_readWhiff_0 : decode cX13_readWhiff 0 = .ok (.aload_n 0, 1) := by decide +kernel
theorem dX13_readWhiff_1 : decode cX13_readWhiff 1 = .ok (.iconst 0, 1) := by decide +kernel
theorem dX13_readWhiff_2 : decode cX13_readWhiff 2 = .ok (.iconst 1, 1) := by decide +kernel
theorem dX13_readWhiff_3 : decode cX13_readWhiff 3 = .ok (.invokevirtual 276, 3) := by decide +kernel
theorem dX13_readWhiff_6 : decode cX13_readWhiff 6 = .ok (.aload_n 0, 1) := by decide +kernel
theorem dX13_readWhiff_7 : decode cX13_readWhiff 7 = .ok (.iconst 1, 1) := by decide +kernel
theorem dX13_readWhiff_8 : decode cX13_readWhiff 8 = .ok (.invokevirtual 215, 3) := by decide +kernel
theorem dX13_readWhiff_11 : decode cX13_readWhiff 11 = .ok (.istore_n 1, 1) := by decide +kernel
theorem dX13_readWhiff_12 : decode cX13_readWhiff 12 = .ok (.aload_n 0, 1) := by decide +kernel
theorem dX13_readWhiff_13 : decode cX13_readWhiff 13 = .ok (.getfield 100, 3) := by decide +kernel
theorem dX13_readWhiff_16 : decode cX13_readWhiff 16 = .ok (.iconst 5, 1) := by decide +kernel
theorem dX13_readWhiff_17 : decode cX13_readWhiff 17 = .ok (.if_icmp .eq 21, 3) := by decide +kernel
theorem dX13_readWhiff_20 : decode cX13_readWhiff 20 = .ok (.aload_n 0, 1) := by decide +kernel
theorem dX13_readWhiff_21 : decode cX13_readWhiff 21 = .ok (.getfield 185, 3) := by decide +kernel
theorem dX13_readWhiff_24 : decode cX13_readWhiff 24 = .ok (.getfield 274, 3) := by decide +kernel
theorem dX13_readWhiff_27 : decode cX13_readWhiff 27 = .ok (.iload_n 1, 1) := by decide +kernel
theorem dX13_readWhiff_28 : decode cX13_readWhiff 28 = .ok (.iaload, 1) := by decide +kernel
theorem dX13_readWhiff_29 : decode cX13_readWhiff 29 = .ok (.iconst (-1), 1) := by decide +kernel
theorem dX13_readWhiff_30 : decode cX13_readWhiff 30 = .ok (.if_icmp .eq 8, 3) := by decide +kernel
theorem dX13_readWhiff_33 : decode cX13_readWhiff 33 = .ok (.aload_n 0, 1) := by decide +kernel
theorem dX13_readWhiff_34 : decode cX13_readWhiff 34 = .ok (.iconst 3, 1) := by decide +kernel
theorem dX13_readWhiff_35 : decode cX13_readWhiff 35 = .ok (.invokevirtual 146, 3) := by decide +kernel
theorem dX13_readWhiff_38 : decode cX13_readWhiff 38 = .ok (.aload_n 0, 1) := by decide +kernel
theorem dX13_readWhiff_39 : decode cX13_readWhiff 39 = .ok (.invokevirtual 139, 3) := by decide +kernel
theorem dX13_readWhiff_42 : decode cX13_readWhiff 42 = .ok (.aload_n 0, 1) := by decide +kernel
theorem dX13_readWhiff_43 : decode cX13_readWhiff 43 = .ok (.iconst 0, 1) := by decide +kernel
theorem dX13_readWhiff_44 : decode cX13_readWhiff 44 = .ok (.bipush 60, 2) := by decide +kernel
theorem dX13_readWhiff_46 : decode cX13_readWhiff 46 = .ok (.invokevirtual 158, 3) := by decide +kernel
theorem dX13_readWhiff_49 : decode cX13_readWhiff 49 = .ok (.istore_n 2, 1) := by decide +kernel
theorem dX13_readWhiff_50 : decode cX13_readWhiff 50 = .ok (.aload_n 0, 1) := by decide +kernel
theorem dX13_readWhiff_51 : decode cX13_readWhiff 51 = .ok (.getfield 100, 3) := by decide +kernel
theorem dX13_readWhiff_54 : decode cX13_readWhiff 54 = .ok (.iconst 5, 1) := by decide +kernel
theorem dX13_readWhiff_55 : decode cX13_readWhiff 55 = .ok (.if_icmp .ne 4, 3) := by decide +kernel
theorem dX13_readWhiff_58 : decode cX13_readWhiff 58 = .ok (.return_, 1) := by decide +kernel
theorem dX13_readWhiff_59 : decode cX13_readWhiff 59 = .ok (.aload_n 0, 1) := by decide +kernel
theorem dX13_readWhiff_60 : decode cX13_readWhiff 60 = .ok (.getfield 185, 3) := by decide +kernel
theorem dX13_readWhiff_63 : decode cX13_readWhiff 63 = .ok (.getfield 274, 3) := by decide +kernel
theorem dX13_readWhiff_66 : decode cX13_readWhiff 66 = .ok (.iload_n 1, 1) := by decide +kernel
theorem dX13_readWhiff_67 : decode cX13_readWhiff 67 = .ok (.iload_n 2, 1) := by decide +kernel
theorem dX13_readWhiff_68 : decode cX13_readWhiff 68 = .ok (.iastore, 1) := by decide +kernel
theorem dX13_readWhiff_69 : decode cX13_readWhiff 69 = .ok (.aload_n 0, 1) := by decide +kernel
theorem dX13_readWhiff_70 : decode cX13_readWhiff 70 = .ok (.getfield 185, 3) := by decide +kernel
theorem dX13_readWhiff_73 : decode cX13_readWhiff 73 = .ok (.dup, 1) := by decide +kernel
theorem dX13_readWhiff_74 : decode cX13_readWhiff 74 = .ok (.getfield 387, 3) := by decide +kernel
theorem dX13_readWhiff_77 : decode cX13_readWhiff 77 = .ok (.iconst 1, 1) := by decide +kernel
theorem dX13_readWhiff_78 : decode cX13_readWhiff 78 = .ok (.iadd, 1) := by decide +kernel
theorem dX13_readWhiff_79 : decode cX13_readWhiff 79 = .ok (.putfield 387, 3) := by decide +kernel
theorem dX13_readWhiff_82 : decode cX13_readWhiff 82 = .ok (.return_, 1) := by decide +kernel
theorem dX13_feed_0 : decode cX13_feed 0 = .ok (.aload_n 0, 1) := by decide +kernel
theorem dX13_feed_1 : decode cX13_feed 1 = .ok (.iconst 0, 1) := by decide +kernel
theorem dX13_feed_2 : decode cX13_feed 2 = .ok (.putfield 72, 3) := by decide +kernel
theorem dX13_feed_5 : decode cX13_feed 5 = .ok (.aload_n 0, 1) := by decide +kernel
theorem dX13_feed_6 : decode cX13_feed 6 = .ok (.getfield 390, 3) := by decide +kernel
theorem dX13_feed_9 : decode cX13_feed 9 = .ok (.bipush 20, 2) := by decide +kernel
theorem dX13_feed_11 : decode cX13_feed 11 = .ok (.iadd, 1) := by decide +kernel
theorem dX13_feed_12 : decode cX13_feed 12 = .ok (.sipush 1100, 3) := by decide +kernel
theorem dX13_feed_15 : decode cX13_feed 15 = .ok (.if_icmp .le 5, 3) := by decide +kernel
theorem dX13_feed_18 : decode cX13_feed 18 = .ok (.iconst (-1), 1) := by decide +kernel
theorem dX13_feed_19 : decode cX13_feed 19 = .ok (.ireturn, 1) := by decide +kernel
theorem dX13_feed_20 : decode cX13_feed 20 = .ok (.iconst 0, 1) := by decide +kernel
theorem dX13_feed_21 : decode cX13_feed 21 = .ok (.istore 6, 2) := by decide +kernel
theorem dX13_feed_23 : decode cX13_feed 23 = .ok (.iload 6, 2) := by decide +kernel
theorem dX13_feed_25 : decode cX13_feed 25 = .ok (.bipush 20, 2) := by decide +kernel
theorem dX13_feed_27 : decode cX13_feed 27 = .ok (.if_icmp .ge 90, 3) := by decide +kernel
theorem dX13_feed_30 : decode cX13_feed 30 = .ok (.iload 6, 2) := by decide +kernel
theorem dX13_feed_32 : decode cX13_feed 32 = .ok (.iconst 4, 1) := by decide +kernel
theorem dX13_feed_33 : decode cX13_feed 33 = .ok (.if_icmp .ge 7, 3) := by decide +kernel
theorem dX13_feed_36 : decode cX13_feed 36 = .ok (.iload_n 1, 1) := by decide +kernel
theorem dX13_feed_37 : decode cX13_feed 37 = .ok (.goto 39, 3) := by decide +kernel
theorem dX13_feed_40 : decode cX13_feed 40 = .ok (.iload 6, 2) := by decide +kernel
theorem dX13_feed_42 : decode cX13_feed 42 = .ok (.bipush 8, 2) := by decide +kernel
theorem dX13_feed_44 : decode cX13_feed 44 = .ok (.if_icmp .ge 7, 3) := by decide +kernel
theorem dX13_feed_47 : decode cX13_feed 47 = .ok (.iload_n 2, 1) := by decide +kernel
theorem dX13_feed_48 : decode cX13_feed 48 = .ok (.goto 28, 3) := by decide +kernel
theorem dX13_feed_51 : decode cX13_feed 51 = .ok (.iload 6, 2) := by decide +kernel
theorem dX13_feed_53 : decode cX13_feed 53 = .ok (.bipush 12, 2) := by decide +kernel
theorem dX13_feed_55 : decode cX13_feed 55 = .ok (.if_icmp .ge 7, 3) := by decide +kernel
theorem dX13_feed_58 : decode cX13_feed 58 = .ok (.iload_n 3, 1) := by decide +kernel
theorem dX13_feed_59 : decode cX13_feed 59 = .ok (.goto 17, 3) := by decide +kernel
theorem dX13_feed_62 : decode cX13_feed 62 = .ok (.iload 6, 2) := by decide +kernel
theorem dX13_feed_64 : decode cX13_feed 64 = .ok (.bipush 16, 2) := by decide +kernel
theorem dX13_feed_66 : decode cX13_feed 66 = .ok (.if_icmp .ge 8, 3) := by decide +kernel
theorem dX13_feed_69 : decode cX13_feed 69 = .ok (.iload 4, 2) := by decide +kernel
theorem dX13_feed_71 : decode cX13_feed 71 = .ok (.goto 5, 3) := by decide +kernel
theorem dX13_feed_74 : decode cX13_feed 74 = .ok (.iload 5, 2) := by decide +kernel
theorem dX13_feed_76 : decode cX13_feed 76 = .ok (.istore 7, 2) := by decide +kernel
theorem dX13_feed_78 : decode cX13_feed 78 = .ok (.aload_n 0, 1) := by decide +kernel
theorem dX13_feed_79 : decode cX13_feed 79 = .ok (.getfield 13, 3) := by decide +kernel
theorem dX13_feed_82 : decode cX13_feed 82 = .ok (.aload_n 0, 1) := by decide +kernel
theorem dX13_feed_83 : decode cX13_feed 83 = .ok (.getfield 390, 3) := by decide +kernel
theorem dX13_feed_86 : decode cX13_feed 86 = .ok (.iload 7, 2) := by decide +kernel
theorem dX13_feed_88 : decode cX13_feed 88 = .ok (.bipush 24, 2) := by decide +kernel
theorem dX13_feed_90 : decode cX13_feed 90 = .ok (.bipush 8, 2) := by decide +kernel
theorem dX13_feed_92 : decode cX13_feed 92 = .ok (.iload 6, 2) := by decide +kernel
theorem dX13_feed_94 : decode cX13_feed 94 = .ok (.iconst 4, 1) := by decide +kernel
theorem dX13_feed_95 : decode cX13_feed 95 = .ok (.irem, 1) := by decide +kernel
theorem dX13_feed_96 : decode cX13_feed 96 = .ok (.imul, 1) := by decide +kernel
theorem dX13_feed_97 : decode cX13_feed 97 = .ok (.isub, 1) := by decide +kernel
theorem dX13_feed_98 : decode cX13_feed 98 = .ok (.ishr, 1) := by decide +kernel
theorem dX13_feed_99 : decode cX13_feed 99 = .ok (.i2b, 1) := by decide +kernel
theorem dX13_feed_100 : decode cX13_feed 100 = .ok (.bastore, 1) := by decide +kernel
theorem dX13_feed_101 : decode cX13_feed 101 = .ok (.aload_n 0, 1) := by decide +kernel
theorem dX13_feed_102 : decode cX13_feed 102 = .ok (.dup, 1) := by decide +kernel
theorem dX13_feed_103 : decode cX13_feed 103 = .ok (.getfield 390, 3) := by decide +kernel
theorem dX13_feed_106 : decode cX13_feed 106 = .ok (.iconst 1, 1) := by decide +kernel
theorem dX13_feed_107 : decode cX13_feed 107 = .ok (.iadd, 1) := by decide +kernel
theorem dX13_feed_108 : decode cX13_feed 108 = .ok (.putfield 390, 3) := by decide +kernel
theorem dX13_feed_111 : decode cX13_feed 111 = .ok (.iinc 6 1, 3) := by decide +kernel
theorem dX13_feed_114 : decode cX13_feed 114 = .ok (.goto (-91), 3) := by decide +kernel
theorem dX13_feed_117 : decode cX13_feed 117 = .ok (.aload_n 0, 1) := by decide +kernel
theorem dX13_feed_118 : decode cX13_feed 118 = .ok (.getfield 390, 3) := by decide +kernel
theorem dX13_feed_121 : decode cX13_feed 121 = .ok (.ireturn, 1) := by decide +kernel
theorem dX13_border_0 : decode cX13_border 0 = .ok (.aload_n 0, 1) := by decide +kernel
theorem dX13_border_1 : decode cX13_border 1 = .ok (.iconst 0, 1) := by decide +kernel
theorem dX13_border_2 : decode cX13_border 2 = .ok (.putfield 72, 3) := by decide +kernel
theorem dX13_border_5 : decode cX13_border 5 = .ok (.iload_n 1, 1) := by decide +kernel
theorem dX13_border_6 : decode cX13_border 6 = .ok (.ifCond .lt 11, 3) := by decide +kernel
theorem dX13_border_9 : decode cX13_border 9 = .ok (.iload_n 1, 1) := by decide +kernel
theorem dX13_border_10 : decode cX13_border 10 = .ok (.aload_n 0, 1) := by decide +kernel
theorem dX13_border_11 : decode cX13_border 11 = .ok (.getfield 390, 3) := by decide +kernel
theorem dX13_border_14 : decode cX13_border 14 = .ok (.if_icmp .le 9, 3) := by decide +kernel
theorem dX13_border_17 : decode cX13_border 17 = .ok (.aload_n 0, 1) := by decide +kernel
theorem dX13_border_18 : decode cX13_border 18 = .ok (.iconst 2, 1) := by decide +kernel
theorem dX13_border_19 : decode cX13_border 19 = .ok (.invokevirtual 78, 3) := by decide +kernel
theorem dX13_border_22 : decode cX13_border 22 = .ok (.ireturn, 1) := by decide +kernel
theorem dX13_border_23 : decode cX13_border 23 = .ok (.aload_n 0, 1) := by decide +kernel
theorem dX13_border_24 : decode cX13_border 24 = .ok (.iload_n 1, 1) := by decide +kernel
theorem dX13_border_25 : decode cX13_border 25 = .ok (.putfield 85, 3) := by decide +kernel
theorem dX13_border_28 : decode cX13_border 28 = .ok (.aload_n 0, 1) := by decide +kernel
theorem dX13_border_29 : decode cX13_border 29 = .ok (.iconst 0, 1) := by decide +kernel
theorem dX13_border_30 : decode cX13_border 30 = .ok (.putfield 390, 3) := by decide +kernel
theorem dX13_border_33 : decode cX13_border 33 = .ok (.aload_n 0, 1) := by decide +kernel
theorem dX13_border_34 : decode cX13_border 34 = .ok (.iconst 0, 1) := by decide +kernel
theorem dX13_border_35 : decode cX13_border 35 = .ok (.putfield 103, 3) := by decide +kernel
theorem dX13_border_38 : decode cX13_border 38 = .ok (.aload_n 0, 1) := by decide +kernel
theorem dX13_border_39 : decode cX13_border 39 = .ok (.iconst 0, 1) := by decide +kernel
theorem dX13_border_40 : decode cX13_border 40 = .ok (.putfield 129, 3) := by decide +kernel
theorem dX13_border_43 : decode cX13_border 43 = .ok (.aload_n 0, 1) := by decide +kernel
theorem dX13_border_44 : decode cX13_border 44 = .ok (.new 190, 3) := by decide +kernel
theorem dX13_border_47 : decode cX13_border 47 = .ok (.dup, 1) := by decide +kernel
theorem dX13_border_48 : decode cX13_border 48 = .ok (.invokespecial 393, 3) := by decide +kernel
theorem dX13_border_51 : decode cX13_border 51 = .ok (.putfield 185, 3) := by decide +kernel
theorem dX13_border_54 : decode cX13_border 54 = .ok (.aload_n 0, 1) := by decide +kernel
theorem dX13_border_55 : decode cX13_border 55 = .ok (.iconst 0, 1) := by decide +kernel
theorem dX13_border_56 : decode cX13_border 56 = .ok (.putfield 100, 3) := by decide +kernel
theorem dX13_border_59 : decode cX13_border 59 = .ok (.aload_n 0, 1) := by decide +kernel
theorem dX13_border_60 : decode cX13_border 60 = .ok (.invokevirtual 139, 3) := by decide +kernel
theorem dX13_border_63 : decode cX13_border 63 = .ok (.aload_n 0, 1) := by decide +kernel
theorem dX13_border_64 : decode cX13_border 64 = .ok (.invokevirtual 394, 3) := by decide +kernel
theorem dX13_border_67 : decode cX13_border 67 = .ok (.aload_n 0, 1) := by decide +kernel
theorem dX13_border_68 : decode cX13_border 68 = .ok (.getfield 129, 3) := by decide +kernel
theorem dX13_border_71 : decode cX13_border 71 = .ok (.ifCond .le 18, 3) := by decide +kernel
theorem dX13_border_74 : decode cX13_border 74 = .ok (.aload_n 0, 1) := by decide +kernel
theorem dX13_border_75 : decode cX13_border 75 = .ok (.iconst 4, 1) := by decide +kernel
theorem dX13_border_76 : decode cX13_border 76 = .ok (.putfield 75, 3) := by decide +kernel
theorem dX13_border_79 : decode cX13_border 79 = .ok (.aload_n 0, 1) := by decide +kernel
theorem dX13_border_80 : decode cX13_border 80 = .ok (.aload_n 0, 1) := by decide +kernel
theorem dX13_border_81 : decode cX13_border 81 = .ok (.getfield 132, 3) := by decide +kernel
theorem dX13_border_84 : decode cX13_border 84 = .ok (.putfield 9, 3) := by decide +kernel
theorem dX13_border_87 : decode cX13_border 87 = .ok (.iconst (-1), 1) := by decide +kernel
theorem dX13_border_88 : decode cX13_border 88 = .ok (.ireturn, 1) := by decide +kernel
theorem dX13_border_89 : decode cX13_border 89 = .ok (.aload_n 0, 1) := by decide +kernel
theorem dX13_border_90 : decode cX13_border 90 = .ok (.aload_n 0, 1) := by decide +kernel
theorem dX13_border_91 : decode cX13_border 91 = .ok (.getfield 185, 3) := by decide +kernel
theorem dX13_border_94 : decode cX13_border 94 = .ok (.putfield 397, 3) := by decide +kernel
theorem dX13_border_97 : decode cX13_border 97 = .ok (.iconst 0, 1) := by decide +kernel
theorem dX13_border_98 : decode cX13_border 98 = .ok (.istore_n 2, 1) := by decide +kernel
theorem dX13_border_99 : decode cX13_border 99 = .ok (.iload_n 2, 1) := by decide +kernel
theorem dX13_border_100 : decode cX13_border 100 = .ok (.iconst 4, 1) := by decide +kernel
theorem dX13_border_101 : decode cX13_border 101 = .ok (.if_icmp .ge 88, 3) := by decide +kernel
theorem dX13_border_104 : decode cX13_border 104 = .ok (.iconst 0, 1) := by decide +kernel
theorem dX13_border_105 : decode cX13_border 105 = .ok (.istore_n 3, 1) := by decide +kernel
theorem dX13_border_106 : decode cX13_border 106 = .ok (.iload_n 3, 1) := by decide +kernel
theorem dX13_border_107 : decode cX13_border 107 = .ok (.bipush 6, 2) := by decide +kernel
theorem dX13_border_109 : decode cX13_border 109 = .ok (.if_icmp .ge 36, 3) := by decide +kernel
theorem dX13_border_112 : decode cX13_border 112 = .ok (.aload_n 0, 1) := by decide +kernel
theorem dX13_border_113 : decode cX13_border 113 = .ok (.getfield 17, 3) := by decide +kernel
theorem dX13_border_116 : decode cX13_border 116 = .ok (.bipush 6, 2) := by decide +kernel
theorem dX13_border_118 : decode cX13_border 118 = .ok (.iload_n 2, 1) := by decide +kernel
theorem dX13_border_119 : decode cX13_border 119 = .ok (.imul, 1) := by decide +kernel
theorem dX13_border_120 : decode cX13_border 120 = .ok (.iload_n 3, 1) := by decide +kernel
theorem dX13_border_121 : decode cX13_border 121 = .ok (.iadd, 1) := by decide +kernel
theorem dX13_border_122 : decode cX13_border 122 = .ok (.iconst 2, 1) := by decide +kernel
theorem dX13_border_123 : decode cX13_border 123 = .ok (.aload_n 0, 1) := by decide +kernel
theorem dX13_border_124 : decode cX13_border 124 = .ok (.getfield 397, 3) := by decide +kernel
theorem dX13_border_127 : decode cX13_border 127 = .ok (.getfield 368, 3) := by decide +kernel
theorem dX13_border_130 : decode cX13_border 130 = .ok (.bipush 6, 2) := by decide +kernel
theorem dX13_border_132 : decode cX13_border 132 = .ok (.iload_n 2, 1) := by decide +kernel
theorem dX13_border_133 : decode cX13_border 133 = .ok (.imul, 1) := by decide +kernel
theorem dX13_border_134 : decode cX13_border 134 = .ok (.iload_n 3, 1) := by decide +kernel
theorem dX13_border_135 : decode cX13_border 135 = .ok (.iadd, 1) := by decide +kernel
theorem dX13_border_136 : decode cX13_border 136 = .ok (.iaload, 1) := by decide +kernel
theorem dX13_border_137 : decode cX13_border 137 = .ok (.imul, 1) := by decide +kernel
theorem dX13_border_138 : decode cX13_border 138 = .ok (.iastore, 1) := by decide +kernel
theorem dX13_border_139 : decode cX13_border 139 = .ok (.iinc 3 1, 3) := by decide +kernel
theorem dX13_border_142 : decode cX13_border 142 = .ok (.goto (-36), 3) := by decide +kernel
theorem dX13_border_145 : decode cX13_border 145 = .ok (.aload_n 0, 1) := by decide +kernel
theorem dX13_border_146 : decode cX13_border 146 = .ok (.getfield 17, 3) := by decide +kernel
theorem dX13_border_149 : decode cX13_border 149 = .ok (.bipush 24, 2) := by decide +kernel
theorem dX13_border_151 : decode cX13_border 151 = .ok (.iload_n 2, 1) := by decide +kernel
theorem dX13_border_152 : decode cX13_border 152 = .ok (.iadd, 1) := by decide +kernel
theorem dX13_border_153 : decode cX13_border 153 = .ok (.aload_n 0, 1) := by decide +kernel
theorem dX13_border_154 : decode cX13_border 154 = .ok (.getfield 397, 3) := by decide +kernel
theorem dX13_border_157 : decode cX13_border 157 = .ok (.getfield 363, 3) := by decide +kernel
theorem dX13_border_160 : decode cX13_border 160 = .ok (.iload_n 2, 1) := by decide +kernel
theorem dX13_border_161 : decode cX13_border 161 = .ok (.iaload, 1) := by decide +kernel
theorem dX13_border_162 : decode cX13_border 162 = .ok (.iastore, 1) := by decide +kernel
theorem dX13_border_163 : decode cX13_border 163 = .ok (.aload_n 0, 1) := by decide +kernel
theorem dX13_border_164 : decode cX13_border 164 = .ok (.getfield 17, 3) := by decide +kernel
theorem dX13_border_167 : decode cX13_border 167 = .ok (.bipush 28, 2) := by decide +kernel
theorem dX13_border_169 : decode cX13_border 169 = .ok (.iload_n 2, 1) := by decide +kernel
theorem dX13_border_170 : decode cX13_border 170 = .ok (.iadd, 1) := by decide +kernel
theorem dX13_border_171 : decode cX13_border 171 = .ok (.iconst 0, 1) := by decide +kernel
theorem dX13_border_172 : decode cX13_border 172 = .ok (.iastore, 1) := by decide +kernel
theorem dX13_border_173 : decode cX13_border 173 = .ok (.aload_n 0, 1) := by decide +kernel
theorem dX13_border_174 : decode cX13_border 174 = .ok (.getfield 17, 3) := by decide +kernel
theorem dX13_border_177 : decode cX13_border 177 = .ok (.bipush 32, 2) := by decide +kernel
theorem dX13_border_179 : decode cX13_border 179 = .ok (.iload_n 2, 1) := by decide +kernel
theorem dX13_border_180 : decode cX13_border 180 = .ok (.iadd, 1) := by decide +kernel
theorem dX13_border_181 : decode cX13_border 181 = .ok (.iconst 0, 1) := by decide +kernel
theorem dX13_border_182 : decode cX13_border 182 = .ok (.iastore, 1) := by decide +kernel
theorem dX13_border_183 : decode cX13_border 183 = .ok (.iinc 2 1, 3) := by decide +kernel
theorem dX13_border_186 : decode cX13_border 186 = .ok (.goto (-87), 3) := by decide +kernel
theorem dX13_border_189 : decode cX13_border 189 = .ok (.aload_n 0, 1) := by decide +kernel
theorem dX13_border_190 : decode cX13_border 190 = .ok (.iconst 0, 1) := by decide +kernel
theorem dX13_border_191 : decode cX13_border 191 = .ok (.putfield 399, 3) := by decide +kernel
theorem dX13_border_194 : decode cX13_border 194 = .ok (.aload_n 0, 1) := by decide +kernel
theorem dX13_border_195 : decode cX13_border 195 = .ok (.iconst 0, 1) := by decide +kernel
theorem dX13_border_196 : decode cX13_border 196 = .ok (.putfield 402, 3) := by decide +kernel
theorem dX13_border_199 : decode cX13_border 199 = .ok (.aload_n 0, 1) := by decide +kernel
theorem dX13_border_200 : decode cX13_border 200 = .ok (.aload_n 0, 1) := by decide +kernel
theorem dX13_border_201 : decode cX13_border 201 = .ok (.getfield 397, 3) := by decide +kernel
theorem dX13_border_204 : decode cX13_border 204 = .ok (.getfield 230, 3) := by decide +kernel
theorem dX13_border_207 : decode cX13_border 207 = .ok (.invokevirtual 82, 3) := by decide +kernel
theorem dX13_border_210 : decode cX13_border 210 = .ok (.ireturn, 1) := by decide +kernel
theorem dX13_fault_0 : decode cX13_fault 0 = .ok (.aload_n 0, 1) := by decide +kernel
theorem dX13_fault_1 : decode cX13_fault 1 = .ok (.iconst 0, 1) := by decide +kernel
theorem dX13_fault_2 : decode cX13_fault 2 = .ok (.putfield 72, 3) := by decide +kernel
theorem dX13_fault_5 : decode cX13_fault 5 = .ok (.aload_n 0, 1) := by decide +kernel
theorem dX13_fault_6 : decode cX13_fault 6 = .ok (.getfield 129, 3) := by decide +kernel
theorem dX13_fault_9 : decode cX13_fault 9 = .ok (.ireturn, 1) := by decide +kernel
theorem dX13_where_0 : decode cX13_where 0 = .ok (.aload_n 0, 1) := by decide +kernel
theorem dX13_where_1 : decode cX13_where 1 = .ok (.iconst 0, 1) := by decide +kernel
theorem dX13_where_2 : decode cX13_where 2 = .ok (.putfield 72, 3) := by decide +kernel
theorem dX13_where_5 : decode cX13_where 5 = .ok (.aload_n 0, 1) := by decide +kernel
theorem dX13_where_6 : decode cX13_where 6 = .ok (.getfield 9, 3) := by decide +kernel
theorem dX13_where_9 : decode cX13_where 9 = .ok (.ireturn, 1) := by decide +kernel
theorem dX13_isSmell_0 : decode cX13_isSmell 0 = .ok (.aload_n 0, 1) := by decide +kernel
theorem dX13_isSmell_1 : decode cX13_isSmell 1 = .ok (.getfield 397, 3) := by decide +kernel
theorem dX13_isSmell_4 : decode cX13_isSmell 4 = .ok (.ifnull 22, 3) := by decide +kernel
theorem dX13_isSmell_7 : decode cX13_isSmell 7 = .ok (.iload_n 1, 1) := by decide +kernel
theorem dX13_isSmell_8 : decode cX13_isSmell 8 = .ok (.ifCond .lt 18, 3) := by decide +kernel
theorem dX13_isSmell_11 : decode cX13_isSmell 11 = .ok (.iload_n 1, 1) := by decide +kernel
theorem dX13_isSmell_12 : decode cX13_isSmell 12 = .ok (.aload_n 0, 1) := by decide +kernel
theorem dX13_isSmell_13 : decode cX13_isSmell 13 = .ok (.getfield 397, 3) := by decide +kernel
theorem dX13_isSmell_16 : decode cX13_isSmell 16 = .ok (.getfield 301, 3) := by decide +kernel
theorem dX13_isSmell_19 : decode cX13_isSmell 19 = .ok (.if_icmp .ge 7, 3) := by decide +kernel
theorem dX13_isSmell_22 : decode cX13_isSmell 22 = .ok (.iconst 1, 1) := by decide +kernel
theorem dX13_isSmell_23 : decode cX13_isSmell 23 = .ok (.goto 4, 3) := by decide +kernel
theorem dX13_isSmell_26 : decode cX13_isSmell 26 = .ok (.iconst 0, 1) := by decide +kernel
theorem dX13_isSmell_27 : decode cX13_isSmell 27 = .ok (.ireturn, 1) := by decide +kernel
theorem dX13_isNose_0 : decode cX13_isNose 0 = .ok (.aload_n 0, 1) := by decide +kernel
theorem dX13_isNose_1 : decode cX13_isNose 1 = .ok (.getfield 397, 3) := by decide +kernel
theorem dX13_isNose_4 : decode cX13_isNose 4 = .ok (.ifnull 22, 3) := by decide +kernel
theorem dX13_isNose_7 : decode cX13_isNose 7 = .ok (.iload_n 1, 1) := by decide +kernel
theorem dX13_isNose_8 : decode cX13_isNose 8 = .ok (.ifCond .lt 18, 3) := by decide +kernel
theorem dX13_isNose_11 : decode cX13_isNose 11 = .ok (.iload_n 1, 1) := by decide +kernel
theorem dX13_isNose_12 : decode cX13_isNose 12 = .ok (.aload_n 0, 1) := by decide +kernel
theorem dX13_isNose_13 : decode cX13_isNose 13 = .ok (.getfield 397, 3) := by decide +kernel
theorem dX13_isNose_16 : decode cX13_isNose 16 = .ok (.getfield 318, 3) := by decide +kernel
theorem dX13_isNose_19 : decode cX13_isNose 19 = .ok (.if_icmp .ge 7, 3) := by decide +kernel
theorem dX13_isNose_22 : decode cX13_isNose 22 = .ok (.iconst 1, 1) := by decide +kernel
theorem dX13_isNose_23 : decode cX13_isNose 23 = .ok (.goto 4, 3) := by decide +kernel
theorem dX13_isNose_26 : decode cX13_isNose 26 = .ok (.iconst 0, 1) := by decide +kernel
theorem dX13_isNose_27 : decode cX13_isNose 27 = .ok (.ireturn, 1) := by decide +kernel
theorem dX13_isPlace_0 : decode cX13_isPlace 0 = .ok (.aload_n 0, 1) := by decide +kernel
theorem dX13_isPlace_1 : decode cX13_isPlace 1 = .ok (.getfield 397, 3) := by decide +kernel
theorem dX13_isPlace_4 : decode cX13_isPlace 4 = .ok (.ifnull 22, 3) := by decide +kernel
theorem dX13_isPlace_7 : decode cX13_isPlace 7 = .ok (.iload_n 1, 1) := by decide +kernel
theorem dX13_isPlace_8 : decode cX13_isPlace 8 = .ok (.ifCond .lt 18, 3) := by decide +kernel
theorem dX13_isPlace_11 : decode cX13_isPlace 11 = .ok (.iload_n 1, 1) := by decide +kernel
theorem dX13_isPlace_12 : decode cX13_isPlace 12 = .ok (.aload_n 0, 1) := by decide +kernel
theorem dX13_isPlace_13 : decode cX13_isPlace 13 = .ok (.getfield 397, 3) := by decide +kernel
theorem dX13_isPlace_16 : decode cX13_isPlace 16 = .ok (.getfield 230, 3) := by decide +kernel
theorem dX13_isPlace_19 : decode cX13_isPlace 19 = .ok (.if_icmp .ge 7, 3) := by decide +kernel
theorem dX13_isPlace_22 : decode cX13_isPlace 22 = .ok (.iconst 1, 1) := by decide +kernel
theorem dX13_isPlace_23 : decode cX13_isPlace 23 = .ok (.goto 4, 3) := by decide +kernel
theorem dX13_isPlace_26 : decode cX13_isPlace 26 = .ok (.iconst 0, 1) := by decide +kernel
theorem dX13_isPlace_27 : decode cX13_isPlace 27 = .ok (.ireturn, 1) := by decide +kernel
theorem dX13_isTraveller_0 : decode cX13_isTraveller 0 = .ok (.aload_n 0, 1) := by decide +kernel
theorem dX13_isTraveller_1 : decode cX13_isTraveller 1 = .ok (.getfield 397, 3) := by decide +kernel
theorem dX13_isTraveller_4 : decode cX13_isTraveller 4 = .ok (.ifnull 22, 3) := by decide +kernel
theorem dX13_isTraveller_7 : decode cX13_isTraveller 7 = .ok (.iload_n 1, 1) := by decide +kernel
theorem dX13_isTraveller_8 : decode cX13_isTraveller 8 = .ok (.ifCond .lt 18, 3) := by decide +kernel
theorem dX13_isTraveller_11 : decode cX13_isTraveller 11 = .ok (.iload_n 1, 1) := by decide +kernel
theorem dX13_isTraveller_12 : decode cX13_isTraveller 12 = .ok (.aload_n 0, 1) := by decide +kernel
theorem dX13_isTraveller_13 : decode cX13_isTraveller 13 = .ok (.getfield 397, 3) := by decide +kernel
theorem dX13_isTraveller_16 : decode cX13_isTraveller 16 = .ok (.getfield 343, 3) := by decide +kernel
theorem dX13_isTraveller_19 : decode cX13_isTraveller 19 = .ok (.if_icmp .ge 7, 3) := by decide +kernel
theorem dX13_isTraveller_22 : decode cX13_isTraveller 22 = .ok (.iconst 1, 1) := by decide +kernel
theorem dX13_isTraveller_23 : decode cX13_isTraveller 23 = .ok (.goto 4, 3) := by decide +kernel
theorem dX13_isTraveller_26 : decode cX13_isTraveller 26 = .ok (.iconst 0, 1) := by decide +kernel
theorem dX13_isTraveller_27 : decode cX13_isTraveller 27 = .ok (.ireturn, 1) := by decide +kernel
theorem dX13_tries_0 : decode cX13_tries 0 = .ok (.iconst 0, 1) := by decide +kernel
theorem dX13_tries_1 : decode cX13_tries 1 = .ok (.istore_n 2, 1) := by decide +kernel
theorem dX13_tries_2 : decode cX13_tries 2 = .ok (.iload_n 2, 1) := by decide +kernel
theorem dX13_tries_3 : decode cX13_tries 3 = .ok (.bipush 6, 2) := by decide +kernel
theorem dX13_tries_5 : decode cX13_tries 5 = .ok (.if_icmp .ge 26, 3) := by decide +kernel
theorem dX13_tries_8 : decode cX13_tries 8 = .ok (.aload_n 0, 1) := by decide +kernel
theorem dX13_tries_9 : decode cX13_tries 9 = .ok (.getfield 27, 3) := by decide +kernel
theorem dX13_tries_12 : decode cX13_tries 12 = .ok (.iload_n 2, 1) := by decide +kernel
theorem dX13_tries_13 : decode cX13_tries 13 = .ok (.aload_n 0, 1) := by decide +kernel
theorem dX13_tries_14 : decode cX13_tries 14 = .ok (.getfield 17, 3) := by decide +kernel
theorem dX13_tries_17 : decode cX13_tries 17 = .ok (.bipush 6, 2) := by decide +kernel
theorem dX13_tries_19 : decode cX13_tries 19 = .ok (.iload_n 1, 1) := by decide +kernel
theorem dX13_tries_20 : decode cX13_tries 20 = .ok (.imul, 1) := by decide +kernel
theorem dX13_tries_21 : decode cX13_tries 21 = .ok (.iload_n 2, 1) := by decide +kernel
theorem dX13_tries_22 : decode cX13_tries 22 = .ok (.iadd, 1) := by decide +kernel
theorem dX13_tries_23 : decode cX13_tries 23 = .ok (.iaload, 1) := by decide +kernel
theorem dX13_tries_24 : decode cX13_tries 24 = .ok (.iastore, 1) := by decide +kernel
theorem dX13_tries_25 : decode cX13_tries 25 = .ok (.iinc 2 1, 3) := by decide +kernel
theorem dX13_tries_28 : decode cX13_tries 28 = .ok (.goto (-26), 3) := by decide +kernel
theorem dX13_tries_31 : decode cX13_tries 31 = .ok (.return_, 1) := by decide +kernel
theorem dX13_fades_0 : decode cX13_fades 0 = .ok (.iconst 0, 1) := by decide +kernel
theorem dX13_fades_1 : decode cX13_fades 1 = .ok (.istore_n 2, 1) := by decide +kernel
theorem dX13_fades_2 : decode cX13_fades 2 = .ok (.iload_n 2, 1) := by decide +kernel
theorem dX13_fades_3 : decode cX13_fades 3 = .ok (.aload_n 0, 1) := by decide +kernel
theorem dX13_fades_4 : decode cX13_fades 4 = .ok (.getfield 397, 3) := by decide +kernel
theorem dX13_fades_7 : decode cX13_fades 7 = .ok (.getfield 301, 3) := by decide +kernel
theorem dX13_fades_10 : decode cX13_fades 10 = .ok (.if_icmp .ge 42, 3) := by decide +kernel
theorem dX13_fades_13 : decode cX13_fades 13 = .ok (.aload_n 0, 1) := by decide +kernel
theorem dX13_fades_14 : decode cX13_fades 14 = .ok (.getfield 27, 3) := by decide +kernel
theorem dX13_fades_17 : decode cX13_fades 17 = .ok (.iload_n 2, 1) := by decide +kernel
theorem dX13_fades_18 : decode cX13_fades 18 = .ok (.iaload, 1) := by decide +kernel
theorem dX13_fades_19 : decode cX13_fades 19 = .ok (.iload_n 1, 1) := by decide +kernel
theorem dX13_fades_20 : decode cX13_fades 20 = .ok (.aload_n 0, 1) := by decide +kernel
theorem dX13_fades_21 : decode cX13_fades 21 = .ok (.getfield 397, 3) := by decide +kernel
theorem dX13_fades_24 : decode cX13_fades 24 = .ok (.iload_n 2, 1) := by decide +kernel
theorem dX13_fades_25 : decode cX13_fades 25 = .ok (.invokevirtual 405, 3) := by decide +kernel
theorem dX13_fades_28 : decode cX13_fades 28 = .ok (.imul, 1) := by decide +kernel
theorem dX13_fades_29 : decode cX13_fades 29 = .ok (.isub, 1) := by decide +kernel
theorem dX13_fades_30 : decode cX13_fades 30 = .ok (.istore_n 3, 1) := by decide +kernel
theorem dX13_fades_31 : decode cX13_fades 31 = .ok (.aload_n 0, 1) := by decide +kernel
theorem dX13_fades_32 : decode cX13_fades 32 = .ok (.getfield 27, 3) := by decide +kernel
theorem dX13_fades_35 : decode cX13_fades 35 = .ok (.iload_n 2, 1) := by decide +kernel
theorem dX13_fades_36 : decode cX13_fades 36 = .ok (.iload_n 3, 1) := by decide +kernel
theorem dX13_fades_37 : decode cX13_fades 37 = .ok (.ifCond .le 7, 3) := by decide +kernel
theorem dX13_fades_40 : decode cX13_fades 40 = .ok (.iload_n 3, 1) := by decide +kernel
theorem dX13_fades_41 : decode cX13_fades 41 = .ok (.goto 4, 3) := by decide +kernel
theorem dX13_fades_44 : decode cX13_fades 44 = .ok (.iconst 0, 1) := by decide +kernel
theorem dX13_fades_45 : decode cX13_fades 45 = .ok (.iastore, 1) := by decide +kernel
theorem dX13_fades_46 : decode cX13_fades 46 = .ok (.iinc 2 1, 3) := by decide +kernel
theorem dX13_fades_49 : decode cX13_fades 49 = .ok (.goto (-47), 3) := by decide +kernel
theorem dX13_fades_52 : decode cX13_fades 52 = .ok (.return_, 1) := by decide +kernel
theorem dX13_coveredOf_0 : decode cX13_coveredOf 0 = .ok (.aload_n 0, 1) := by decide +kernel
theorem dX13_coveredOf_1 : decode cX13_coveredOf 1 = .ok (.getfield 397, 3) := by decide +kernel
theorem dX13_coveredOf_4 : decode cX13_coveredOf 4 = .ok (.getfield 313, 3) := by decide +kernel
theorem dX13_coveredOf_7 : decode cX13_coveredOf 7 = .ok (.iload_n 1, 1) := by decide +kernel
theorem dX13_coveredOf_8 : decode cX13_coveredOf 8 = .ok (.iaload, 1) := by decide +kernel
theorem dX13_coveredOf_9 : decode cX13_coveredOf 9 = .ok (.iconst 2, 1) := by decide +kernel
theorem dX13_coveredOf_10 : decode cX13_coveredOf 10 = .ok (.if_icmp .ne 12, 3) := by decide +kernel
theorem dX13_coveredOf_13 : decode cX13_coveredOf 13 = .ok (.aload_n 0, 1) := by decide +kernel
theorem dX13_coveredOf_14 : decode cX13_coveredOf 14 = .ok (.getfield 27, 3) := by decide +kernel
theorem dX13_coveredOf_17 : decode cX13_coveredOf 17 = .ok (.iload_n 1, 1) := by decide +kernel
theorem dX13_coveredOf_18 : decode cX13_coveredOf 18 = .ok (.iaload, 1) := by decide +kernel
theorem dX13_coveredOf_19 : decode cX13_coveredOf 19 = .ok (.iconst 2, 1) := by decide +kernel
theorem dX13_coveredOf_20 : decode cX13_coveredOf 20 = .ok (.idiv, 1) := by decide +kernel
theorem dX13_coveredOf_21 : decode cX13_coveredOf 21 = .ok (.ireturn, 1) := by decide +kernel
theorem dX13_coveredOf_22 : decode cX13_coveredOf 22 = .ok (.iconst 0, 1) := by decide +kernel
theorem dX13_coveredOf_23 : decode cX13_coveredOf 23 = .ok (.istore_n 2, 1) := by decide +kernel
theorem dX13_coveredOf_24 : decode cX13_coveredOf 24 = .ok (.iconst 0, 1) := by decide +kernel
theorem dX13_coveredOf_25 : decode cX13_coveredOf 25 = .ok (.istore_n 3, 1) := by decide +kernel
theorem dX13_coveredOf_26 : decode cX13_coveredOf 26 = .ok (.iload_n 3, 1) := by decide +kernel
theorem dX13_coveredOf_27 : decode cX13_coveredOf 27 = .ok (.aload_n 0, 1) := by decide +kernel
theorem dX13_coveredOf_28 : decode cX13_coveredOf 28 = .ok (.getfield 397, 3) := by decide +kernel
theorem dX13_coveredOf_31 : decode cX13_coveredOf 31 = .ok (.getfield 301, 3) := by decide +kernel
theorem dX13_coveredOf_34 : decode cX13_coveredOf 34 = .ok (.if_icmp .ge 43, 3) := by decide +kernel
theorem dX13_coveredOf_37 : decode cX13_coveredOf 37 = .ok (.aload_n 0, 1) := by decide +kernel
theorem dX13_coveredOf_38 : decode cX13_coveredOf 38 = .ok (.getfield 397, 3) := by decide +kernel
theorem dX13_coveredOf_41 : decode cX13_coveredOf 41 = .ok (.getfield 313, 3) := by decide +kernel
theorem dX13_coveredOf_44 : decode cX13_coveredOf 44 = .ok (.iload_n 3, 1) := by decide +kernel
theorem dX13_coveredOf_45 : decode cX13_coveredOf 45 = .ok (.iaload, 1) := by decide +kernel
theorem dX13_coveredOf_46 : decode cX13_coveredOf 46 = .ok (.iconst 2, 1) := by decide +kernel
theorem dX13_coveredOf_47 : decode cX13_coveredOf 47 = .ok (.if_icmp .ne 24, 3) := by decide +kernel
theorem dX13_coveredOf_50 : decode cX13_coveredOf 50 = .ok (.aload_n 0, 1) := by decide +kernel
theorem dX13_coveredOf_51 : decode cX13_coveredOf 51 = .ok (.getfield 27, 3) := by decide +kernel
theorem dX13_coveredOf_54 : decode cX13_coveredOf 54 = .ok (.iload_n 3, 1) := by decide +kernel
theorem dX13_coveredOf_55 : decode cX13_coveredOf 55 = .ok (.iaload, 1) := by decide +kernel
theorem dX13_coveredOf_56 : decode cX13_coveredOf 56 = .ok (.iconst 2, 1) := by decide +kernel
theorem dX13_coveredOf_57 : decode cX13_coveredOf 57 = .ok (.idiv, 1) := by decide +kernel
theorem dX13_coveredOf_58 : decode cX13_coveredOf 58 = .ok (.iload_n 2, 1) := by decide +kernel
theorem dX13_coveredOf_59 : decode cX13_coveredOf 59 = .ok (.if_icmp .le 12, 3) := by decide +kernel
theorem dX13_coveredOf_62 : decode cX13_coveredOf 62 = .ok (.aload_n 0, 1) := by decide +kernel
theorem dX13_coveredOf_63 : decode cX13_coveredOf 63 = .ok (.getfield 27, 3) := by decide +kernel
theorem dX13_coveredOf_66 : decode cX13_coveredOf 66 = .ok (.iload_n 3, 1) := by decide +kernel
theorem dX13_coveredOf_67 : decode cX13_coveredOf 67 = .ok (.iaload, 1) := by decide +kernel
theorem dX13_coveredOf_68 : decode cX13_coveredOf 68 = .ok (.iconst 2, 1) := by decide +kernel
theorem dX13_coveredOf_69 : decode cX13_coveredOf 69 = .ok (.idiv, 1) := by decide +kernel
theorem dX13_coveredOf_70 : decode cX13_coveredOf 70 = .ok (.istore_n 2, 1) := by decide +kernel
theorem dX13_coveredOf_71 : decode cX13_coveredOf 71 = .ok (.iinc 3 1, 3) := by decide +kernel
theorem dX13_coveredOf_74 : decode cX13_coveredOf 74 = .ok (.goto (-48), 3) := by decide +kernel
theorem dX13_coveredOf_77 : decode cX13_coveredOf 77 = .ok (.aload_n 0, 1) := by decide +kernel
theorem dX13_coveredOf_78 : decode cX13_coveredOf 78 = .ok (.getfield 27, 3) := by decide +kernel
theorem dX13_coveredOf_81 : decode cX13_coveredOf 81 = .ok (.iload_n 1, 1) := by decide +kernel
theorem dX13_coveredOf_82 : decode cX13_coveredOf 82 = .ok (.iaload, 1) := by decide +kernel
theorem dX13_coveredOf_83 : decode cX13_coveredOf 83 = .ok (.iconst 2, 1) := by decide +kernel
theorem dX13_coveredOf_84 : decode cX13_coveredOf 84 = .ok (.idiv, 1) := by decide +kernel
theorem dX13_coveredOf_85 : decode cX13_coveredOf 85 = .ok (.iload_n 2, 1) := by decide +kernel
theorem dX13_coveredOf_86 : decode cX13_coveredOf 86 = .ok (.iconst 2, 1) := by decide +kernel
theorem dX13_coveredOf_87 : decode cX13_coveredOf 87 = .ok (.idiv, 1) := by decide +kernel
theorem dX13_coveredOf_88 : decode cX13_coveredOf 88 = .ok (.isub, 1) := by decide +kernel
theorem dX13_coveredOf_89 : decode cX13_coveredOf 89 = .ok (.istore_n 3, 1) := by decide +kernel
theorem dX13_coveredOf_90 : decode cX13_coveredOf 90 = .ok (.iload_n 3, 1) := by decide +kernel
theorem dX13_coveredOf_91 : decode cX13_coveredOf 91 = .ok (.ifCond .le 7, 3) := by decide +kernel
theorem dX13_coveredOf_94 : decode cX13_coveredOf 94 = .ok (.iload_n 3, 1) := by decide +kernel
theorem dX13_coveredOf_95 : decode cX13_coveredOf 95 = .ok (.goto 4, 3) := by decide +kernel
theorem dX13_coveredOf_98 : decode cX13_coveredOf 98 = .ok (.iconst 0, 1) := by decide +kernel
theorem dX13_coveredOf_99 : decode cX13_coveredOf 99 = .ok (.ireturn, 1) := by decide +kernel
theorem dX13_isSmelt_0 : decode cX13_isSmelt 0 = .ok (.aload_n 0, 1) := by decide +kernel
theorem dX13_isSmelt_1 : decode cX13_isSmelt 1 = .ok (.iload_n 1, 1) := by decide +kernel
theorem dX13_isSmelt_2 : decode cX13_isSmelt 2 = .ok (.invokevirtual 408, 3) := by decide +kernel
theorem dX13_isSmelt_5 : decode cX13_isSmelt 5 = .ok (.iload_n 2, 1) := by decide +kernel
theorem dX13_isSmelt_6 : decode cX13_isSmelt 6 = .ok (.if_icmp .lt 7, 3) := by decide +kernel
theorem dX13_isSmelt_9 : decode cX13_isSmelt 9 = .ok (.iconst 1, 1) := by decide +kernel
theorem dX13_isSmelt_10 : decode cX13_isSmelt 10 = .ok (.goto 4, 3) := by decide +kernel
theorem dX13_isSmelt_13 : decode cX13_isSmelt 13 = .ok (.iconst 0, 1) := by decide +kernel
theorem dX13_isSmelt_14 : decode cX13_isSmelt 14 = .ok (.ireturn, 1) := by decide +kernel
theorem dX13_dutyBy_0 : decode cX13_dutyBy 0 = .ok (.iconst 0, 1) := by decide +kernel
theorem dX13_dutyBy_1 : decode cX13_dutyBy 1 = .ok (.istore 4, 2) := by decide +kernel
theorem dX13_dutyBy_3 : decode cX13_dutyBy 3 = .ok (.iconst 0, 1) := by decide +kernel
theorem dX13_dutyBy_4 : decode cX13_dutyBy 4 = .ok (.istore 5, 2) := by decide +kernel
theorem dX13_dutyBy_6 : decode cX13_dutyBy 6 = .ok (.iload 5, 2) := by decide +kernel
theorem dX13_dutyBy_8 : decode cX13_dutyBy 8 = .ok (.aload_n 0, 1) := by decide +kernel
theorem dX13_dutyBy_9 : decode cX13_dutyBy 9 = .ok (.getfield 397, 3) := by decide +kernel
theorem dX13_dutyBy_12 : decode cX13_dutyBy 12 = .ok (.getfield 301, 3) := by decide +kernel
theorem dX13_dutyBy_15 : decode cX13_dutyBy 15 = .ok (.if_icmp .ge 103, 3) := by decide +kernel
theorem dX13_dutyBy_18 : decode cX13_dutyBy 18 = .ok (.aload_n 0, 1) := by decide +kernel
theorem dX13_dutyBy_19 : decode cX13_dutyBy 19 = .ok (.getfield 397, 3) := by decide +kernel
theorem dX13_dutyBy_22 : decode cX13_dutyBy 22 = .ok (.getfield 313, 3) := by decide +kernel
theorem dX13_dutyBy_25 : decode cX13_dutyBy 25 = .ok (.iload 5, 2) := by decide +kernel
theorem dX13_dutyBy_27 : decode cX13_dutyBy 27 = .ok (.iaload, 1) := by decide +kernel
theorem dX13_dutyBy_28 : decode cX13_dutyBy 28 = .ok (.iconst 3, 1) := by decide +kernel
theorem dX13_dutyBy_29 : decode cX13_dutyBy 29 = .ok (.if_icmp .eq 31, 3) := by decide +kernel
theorem dX13_dutyBy_32 : decode cX13_dutyBy 32 = .ok (.aload_n 0, 1) := by decide +kernel
theorem dX13_dutyBy_33 : decode cX13_dutyBy 33 = .ok (.getfield 397, 3) := by decide +kernel
theorem dX13_dutyBy_36 : decode cX13_dutyBy 36 = .ok (.getfield 313, 3) := by decide +kernel
theorem dX13_dutyBy_39 : decode cX13_dutyBy 39 = .ok (.iload 5, 2) := by decide +kernel
theorem dX13_dutyBy_41 : decode cX13_dutyBy 41 = .ok (.iaload, 1) := by decide +kernel
theorem dX13_dutyBy_42 : decode cX13_dutyBy 42 = .ok (.iconst 4, 1) := by decide +kernel
theorem dX13_dutyBy_43 : decode cX13_dutyBy 43 = .ok (.if_icmp .eq 17, 3) := by decide +kernel
theorem dX13_dutyBy_46 : decode cX13_dutyBy 46 = .ok (.aload_n 0, 1) := by decide +kernel
theorem dX13_dutyBy_47 : decode cX13_dutyBy 47 = .ok (.getfield 397, 3) := by decide +kernel
theorem dX13_dutyBy_50 : decode cX13_dutyBy 50 = .ok (.getfield 316, 3) := by decide +kernel
theorem dX13_dutyBy_53 : decode cX13_dutyBy 53 = .ok (.iload 5, 2) := by decide +kernel
theorem dX13_dutyBy_55 : decode cX13_dutyBy 55 = .ok (.iaload, 1) := by decide +kernel
theorem dX13_dutyBy_56 : decode cX13_dutyBy 56 = .ok (.iload_n 2, 1) := by decide +kernel
theorem dX13_dutyBy_57 : decode cX13_dutyBy 57 = .ok (.if_icmp .ne 7, 3) := by decide +kernel
theorem dX13_dutyBy_60 : decode cX13_dutyBy 60 = .ok (.iconst 1, 1) := by decide +kernel
theorem dX13_dutyBy_61 : decode cX13_dutyBy 61 = .ok (.goto 4, 3) := by decide +kernel
theorem dX13_dutyBy_64 : decode cX13_dutyBy 64 = .ok (.iconst 0, 1) := by decide +kernel
theorem dX13_dutyBy_65 : decode cX13_dutyBy 65 = .ok (.istore 6, 2) := by decide +kernel
theorem dX13_dutyBy_67 : decode cX13_dutyBy 67 = .ok (.iload 6, 2) := by decide +kernel
theorem dX13_dutyBy_69 : decode cX13_dutyBy 69 = .ok (.ifCond .ne 43, 3) := by decide +kernel
theorem dX13_dutyBy_72 : decode cX13_dutyBy 72 = .ok (.aload_n 0, 1) := by decide +kernel
theorem dX13_dutyBy_73 : decode cX13_dutyBy 73 = .ok (.iload 5, 2) := by decide +kernel
theorem dX13_dutyBy_75 : decode cX13_dutyBy 75 = .ok (.iload_n 3, 1) := by decide +kernel
theorem dX13_dutyBy_76 : decode cX13_dutyBy 76 = .ok (.invokevirtual 411, 3) := by decide +kernel
theorem dX13_dutyBy_79 : decode cX13_dutyBy 79 = .ok (.ifCond .eq 33, 3) := by decide +kernel
theorem dX13_dutyBy_82 : decode cX13_dutyBy 82 = .ok (.iload 4, 2) := by decide +kernel
theorem dX13_dutyBy_84 : decode cX13_dutyBy 84 = .ok (.aload_n 0, 1) := by decide +kernel
theorem dX13_dutyBy_85 : decode cX13_dutyBy 85 = .ok (.iload 5, 2) := by decide +kernel
theorem dX13_dutyBy_87 : decode cX13_dutyBy 87 = .ok (.invokevirtual 408, 3) := by decide +kernel
theorem dX13_dutyBy_90 : decode cX13_dutyBy 90 = .ok (.aload_n 0, 1) := by decide +kernel
theorem dX13_dutyBy_91 : decode cX13_dutyBy 91 = .ok (.getfield 397, 3) := by decide +kernel
theorem dX13_dutyBy_94 : decode cX13_dutyBy 94 = .ok (.getfield 289, 3) := by decide +kernel
theorem dX13_dutyBy_97 : decode cX13_dutyBy 97 = .ok (.aload_n 0, 1) := by decide +kernel
theorem dX13_dutyBy_98 : decode cX13_dutyBy 98 = .ok (.getfield 397, 3) := by decide +kernel
theorem dX13_dutyBy_101 : decode cX13_dutyBy 101 = .ok (.getfield 316, 3) := by decide +kernel
theorem dX13_dutyBy_104 : decode cX13_dutyBy 104 = .ok (.iload 5, 2) := by decide +kernel
theorem dX13_dutyBy_106 : decode cX13_dutyBy 106 = .ok (.iaload, 1) := by decide +kernel
theorem dX13_dutyBy_107 : decode cX13_dutyBy 107 = .ok (.iaload, 1) := by decide +kernel
theorem dX13_dutyBy_108 : decode cX13_dutyBy 108 = .ok (.imul, 1) := by decide +kernel
theorem dX13_dutyBy_109 : decode cX13_dutyBy 109 = .ok (.iadd, 1) := by decide +kernel
theorem dX13_dutyBy_110 : decode cX13_dutyBy 110 = .ok (.istore 4, 2) := by decide +kernel
theorem dX13_dutyBy_112 : decode cX13_dutyBy 112 = .ok (.iinc 5 1, 3) := by decide +kernel
theorem dX13_dutyBy_115 : decode cX13_dutyBy 115 = .ok (.goto (-109), 3) := by decide +kernel
theorem dX13_dutyBy_118 : decode cX13_dutyBy 118 = .ok (.iload_n 1, 1) := by decide +kernel
theorem dX13_dutyBy_119 : decode cX13_dutyBy 119 = .ok (.iconst 1, 1) := by decide +kernel
theorem dX13_dutyBy_120 : decode cX13_dutyBy 120 = .ok (.if_icmp .ne 10, 3) := by decide +kernel
theorem dX13_dutyBy_123 : decode cX13_dutyBy 123 = .ok (.iconst 2, 1) := by decide +kernel
theorem dX13_dutyBy_124 : decode cX13_dutyBy 124 = .ok (.iload 4, 2) := by decide +kernel
theorem dX13_dutyBy_126 : decode cX13_dutyBy 126 = .ok (.imul, 1) := by decide +kernel
theorem dX13_dutyBy_127 : decode cX13_dutyBy 127 = .ok (.goto 26, 3) := by decide +kernel
theorem dX13_dutyBy_130 : decode cX13_dutyBy 130 = .ok (.iload_n 1, 1) := by decide +kernel
theorem dX13_dutyBy_131 : decode cX13_dutyBy 131 = .ok (.iconst 2, 1) := by decide +kernel
theorem dX13_dutyBy_132 : decode cX13_dutyBy 132 = .ok (.if_icmp .ne 10, 3) := by decide +kernel
theorem dX13_dutyBy_135 : decode cX13_dutyBy 135 = .ok (.iload 4, 2) := by decide +kernel
theorem dX13_dutyBy_137 : decode cX13_dutyBy 137 = .ok (.iconst 2, 1) := by decide +kernel
theorem dX13_dutyBy_138 : decode cX13_dutyBy 138 = .ok (.idiv, 1) := by decide +kernel
theorem dX13_dutyBy_139 : decode cX13_dutyBy 139 = .ok (.goto 14, 3) := by decide +kernel
theorem dX13_dutyBy_142 : decode cX13_dutyBy 142 = .ok (.iload_n 1, 1) := by decide +kernel
theorem dX13_dutyBy_143 : decode cX13_dutyBy 143 = .ok (.iconst 3, 1) := by decide +kernel
theorem dX13_dutyBy_144 : decode cX13_dutyBy 144 = .ok (.if_icmp .ne 7, 3) := by decide +kernel
theorem dX13_dutyBy_147 : decode cX13_dutyBy 147 = .ok (.iconst 0, 1) := by decide +kernel
theorem dX13_dutyBy_148 : decode cX13_dutyBy 148 = .ok (.goto 5, 3) := by decide +kernel
theorem dX13_dutyBy_151 : decode cX13_dutyBy 151 = .ok (.iload 4, 2) := by decide +kernel
theorem dX13_dutyBy_153 : decode cX13_dutyBy 153 = .ok (.ireturn, 1) := by decide +kernel
theorem dX13_posted_0 : decode cX13_posted 0 = .ok (.iconst 0, 1) := by decide +kernel
theorem dX13_posted_1 : decode cX13_posted 1 = .ok (.istore_n 1, 1) := by decide +kernel
theorem dX13_posted_2 : decode cX13_posted 2 = .ok (.iload_n 1, 1) := by decide +kernel
theorem dX13_posted_3 : decode cX13_posted 3 = .ok (.bipush 6, 2) := by decide +kernel
theorem dX13_posted_5 : decode cX13_posted 5 = .ok (.if_icmp .ge 24, 3) := by decide +kernel
theorem dX13_posted_8 : decode cX13_posted 8 = .ok (.aload_n 0, 1) := by decide +kernel
theorem dX13_posted_9 : decode cX13_posted 9 = .ok (.getfield 30, 3) := by decide +kernel
theorem dX13_posted_12 : decode cX13_posted 12 = .ok (.iload_n 1, 1) := by decide +kernel
theorem dX13_posted_13 : decode cX13_posted 13 = .ok (.aload_n 0, 1) := by decide +kernel
theorem dX13_posted_14 : decode cX13_posted 14 = .ok (.getfield 397, 3) := by decide +kernel
theorem dX13_posted_17 : decode cX13_posted 17 = .ok (.getfield 328, 3) := by decide +kernel
theorem dX13_posted_20 : decode cX13_posted 20 = .ok (.iload_n 1, 1) := by decide +kernel
theorem dX13_posted_21 : decode cX13_posted 21 = .ok (.iaload, 1) := by decide +kernel
theorem dX13_posted_22 : decode cX13_posted 22 = .ok (.iastore, 1) := by decide +kernel
theorem dX13_posted_23 : decode cX13_posted 23 = .ok (.iinc 1 1, 3) := by decide +kernel
theorem dX13_posted_26 : decode cX13_posted 26 = .ok (.goto (-24), 3) := by decide +kernel
theorem dX13_posted_29 : decode cX13_posted 29 = .ok (.return_, 1) := by decide +kernel
theorem dX13_dutyAt_0 : decode cX13_dutyAt 0 = .ok (.aload_n 0, 1) := by decide +kernel
theorem dX13_dutyAt_1 : decode cX13_dutyAt 1 = .ok (.getfield 30, 3) := by decide +kernel
theorem dX13_dutyAt_4 : decode cX13_dutyAt 4 = .ok (.iload_n 2, 1) := by decide +kernel
theorem dX13_dutyAt_5 : decode cX13_dutyAt 5 = .ok (.iaload, 1) := by decide +kernel
theorem dX13_dutyAt_6 : decode cX13_dutyAt 6 = .ok (.bipush (-2), 2) := by decide +kernel
theorem dX13_dutyAt_8 : decode cX13_dutyAt 8 = .ok (.if_icmp .ne 7, 3) := by decide +kernel
theorem dX13_dutyAt_11 : decode cX13_dutyAt 11 = .ok (.iconst 0, 1) := by decide +kernel
theorem dX13_dutyAt_12 : decode cX13_dutyAt 12 = .ok (.goto 39, 3) := by decide +kernel
theorem dX13_dutyAt_15 : decode cX13_dutyAt 15 = .ok (.aload_n 0, 1) := by decide +kernel
theorem dX13_dutyAt_16 : decode cX13_dutyAt 16 = .ok (.aload_n 0, 1) := by decide +kernel
theorem dX13_dutyAt_17 : decode cX13_dutyAt 17 = .ok (.getfield 397, 3) := by decide +kernel
theorem dX13_dutyAt_20 : decode cX13_dutyAt 20 = .ok (.getfield 358, 3) := by decide +kernel
theorem dX13_dutyAt_23 : decode cX13_dutyAt 23 = .ok (.iload_n 1, 1) := by decide +kernel
theorem dX13_dutyAt_24 : decode cX13_dutyAt 24 = .ok (.iaload, 1) := by decide +kernel
theorem dX13_dutyAt_25 : decode cX13_dutyAt 25 = .ok (.aload_n 0, 1) := by decide +kernel
theorem dX13_dutyAt_26 : decode cX13_dutyAt 26 = .ok (.getfield 397, 3) := by decide +kernel
theorem dX13_dutyAt_29 : decode cX13_dutyAt 29 = .ok (.getfield 325, 3) := by decide +kernel
theorem dX13_dutyAt_32 : decode cX13_dutyAt 32 = .ok (.iload_n 2, 1) := by decide +kernel
theorem dX13_dutyAt_33 : decode cX13_dutyAt 33 = .ok (.iaload, 1) := by decide +kernel
theorem dX13_dutyAt_34 : decode cX13_dutyAt 34 = .ok (.aload_n 0, 1) := by decide +kernel
theorem dX13_dutyAt_35 : decode cX13_dutyAt 35 = .ok (.getfield 397, 3) := by decide +kernel
theorem dX13_dutyAt_38 : decode cX13_dutyAt 38 = .ok (.getfield 323, 3) := by decide +kernel
theorem dX13_dutyAt_41 : decode cX13_dutyAt 41 = .ok (.aload_n 0, 1) := by decide +kernel
theorem dX13_dutyAt_42 : decode cX13_dutyAt 42 = .ok (.getfield 30, 3) := by decide +kernel
theorem dX13_dutyAt_45 : decode cX13_dutyAt 45 = .ok (.iload_n 2, 1) := by decide +kernel
theorem dX13_dutyAt_46 : decode cX13_dutyAt 46 = .ok (.iaload, 1) := by decide +kernel
theorem dX13_dutyAt_47 : decode cX13_dutyAt 47 = .ok (.iaload, 1) := by decide +kernel
theorem dX13_dutyAt_48 : decode cX13_dutyAt 48 = .ok (.invokevirtual 415, 3) := by decide +kernel
theorem dX13_dutyAt_51 : decode cX13_dutyAt 51 = .ok (.ireturn, 1) := by decide +kernel
theorem dX13_smell_0 : decode cX13_smell 0 = .ok (.aload_n 0, 1) := by decide +kernel
theorem dX13_smell_1 : decode cX13_smell 1 = .ok (.iconst 0, 1) := by decide +kernel
theorem dX13_smell_2 : decode cX13_smell 2 = .ok (.putfield 72, 3) := by decide +kernel
theorem dX13_smell_5 : decode cX13_smell 5 = .ok (.aload_n 0, 1) := by decide +kernel
theorem dX13_smell_6 : decode cX13_smell 6 = .ok (.iload_n 1, 1) := by decide +kernel
theorem dX13_smell_7 : decode cX13_smell 7 = .ok (.invokevirtual 419, 3) := by decide +kernel
theorem dX13_smell_10 : decode cX13_smell 10 = .ok (.ifCond .eq 12, 3) := by decide +kernel
theorem dX13_smell_13 : decode cX13_smell 13 = .ok (.iload_n 2, 1) := by decide +kernel
theorem dX13_smell_14 : decode cX13_smell 14 = .ok (.iconst 0, 1) := by decide +kernel
theorem dX13_smell_15 : decode cX13_smell 15 = .ok (.iconst 2, 1) := by decide +kernel
theorem dX13_smell_16 : decode cX13_smell 16 = .ok (.invokestatic 150, 3) := by decide +kernel
theorem dX13_smell_19 : decode cX13_smell 19 = .ok (.ifCond .ne 9, 3) := by decide +kernel
theorem dX13_smell_22 : decode cX13_smell 22 = .ok (.aload_n 0, 1) := by decide +kernel
theorem dX13_smell_23 : decode cX13_smell 23 = .ok (.iconst 1, 1) := by decide +kernel
theorem dX13_smell_24 : decode cX13_smell 24 = .ok (.invokevirtual 78, 3) := by decide +kernel
theorem dX13_smell_27 : decode cX13_smell 27 = .ok (.ireturn, 1) := by decide +kernel
theorem dX13_smell_28 : decode cX13_smell 28 = .ok (.aload_n 0, 1) := by decide +kernel
theorem dX13_smell_29 : decode cX13_smell 29 = .ok (.iload_n 2, 1) := by decide +kernel
theorem dX13_smell_30 : decode cX13_smell 30 = .ok (.ifCond .ne 15, 3) := by decide +kernel
theorem dX13_smell_33 : decode cX13_smell 33 = .ok (.aload_n 0, 1) := by decide +kernel
theorem dX13_smell_34 : decode cX13_smell 34 = .ok (.getfield 397, 3) := by decide +kernel
theorem dX13_smell_37 : decode cX13_smell 37 = .ok (.getfield 313, 3) := by decide +kernel
theorem dX13_smell_40 : decode cX13_smell 40 = .ok (.iload_n 1, 1) := by decide +kernel
theorem dX13_smell_41 : decode cX13_smell 41 = .ok (.iaload, 1) := by decide +kernel
theorem dX13_smell_42 : decode cX13_smell 42 = .ok (.goto 37, 3) := by decide +kernel
theorem dX13_smell_45 : decode cX13_smell 45 = .ok (.iload_n 2, 1) := by decide +kernel
theorem dX13_smell_46 : decode cX13_smell 46 = .ok (.iconst 1, 1) := by decide +kernel
theorem dX13_smell_47 : decode cX13_smell 47 = .ok (.if_icmp .ne 15, 3) := by decide +kernel
theorem dX13_smell_50 : decode cX13_smell 50 = .ok (.aload_n 0, 1) := by decide +kernel
theorem dX13_smell_51 : decode cX13_smell 51 = .ok (.getfield 397, 3) := by decide +kernel
theorem dX13_smell_54 : decode cX13_smell 54 = .ok (.getfield 316, 3) := by decide +kernel
theorem dX13_smell_57 : decode cX13_smell 57 = .ok (.iload_n 1, 1) := by decide +kernel
theorem dX13_smell_58 : decode cX13_smell 58 = .ok (.iaload, 1) := by decide +kernel
theorem dX13_smell_59 : decode cX13_smell 59 = .ok (.goto 20, 3) := by decide +kernel
theorem dX13_smell_62 : decode cX13_smell 62 = .ok (.aload_n 0, 1) := by decide +kernel
theorem dX13_smell_63 : decode cX13_smell 63 = .ok (.getfield 397, 3) := by decide +kernel
theorem dX13_smell_66 : decode cX13_smell 66 = .ok (.getfield 289, 3) := by decide +kernel
theorem dX13_smell_69 : decode cX13_smell 69 = .ok (.aload_n 0, 1) := by decide +kernel
theorem dX13_smell_70 : decode cX13_smell 70 = .ok (.getfield 397, 3) := by decide +kernel
theorem dX13_smell_73 : decode cX13_smell 73 = .ok (.getfield 316, 3) := by decide +kernel
theorem dX13_smell_76 : decode cX13_smell 76 = .ok (.iload_n 1, 1) := by decide +kernel
theorem dX13_smell_77 : decode cX13_smell 77 = .ok (.iaload, 1) := by decide +kernel
theorem dX13_smell_78 : decode cX13_smell 78 = .ok (.iaload, 1) := by decide +kernel
theorem dX13_smell_79 : decode cX13_smell 79 = .ok (.invokevirtual 82, 3) := by decide +kernel
theorem dX13_smell_82 : decode cX13_smell 82 = .ok (.ireturn, 1) := by decide +kernel
theorem dX13_place_0 : decode cX13_place 0 = .ok (.aload_n 0, 1) := by decide +kernel
theorem dX13_place_1 : decode cX13_place 1 = .ok (.iconst 0, 1) := by decide +kernel
theorem dX13_place_2 : decode cX13_place 2 = .ok (.putfield 72, 3) := by decide +kernel
theorem dX13_place_5 : decode cX13_place 5 = .ok (.aload_n 0, 1) := by decide +kernel
theorem dX13_place_6 : decode cX13_place 6 = .ok (.iload_n 1, 1) := by decide +kernel
theorem dX13_place_7 : decode cX13_place 7 = .ok (.invokevirtual 422, 3) := by decide +kernel
theorem dX13_place_10 : decode cX13_place 10 = .ok (.ifCond .eq 12, 3) := by decide +kernel
theorem dX13_place_13 : decode cX13_place 13 = .ok (.iload_n 2, 1) := by decide +kernel
theorem dX13_place_14 : decode cX13_place 14 = .ok (.iconst 0, 1) := by decide +kernel
theorem dX13_place_15 : decode cX13_place 15 = .ok (.iconst 2, 1) := by decide +kernel
theorem dX13_place_16 : decode cX13_place 16 = .ok (.invokestatic 150, 3) := by decide +kernel
theorem dX13_place_19 : decode cX13_place 19 = .ok (.ifCond .ne 9, 3) := by decide +kernel
theorem dX13_place_22 : decode cX13_place 22 = .ok (.aload_n 0, 1) := by decide +kernel
theorem dX13_place_23 : decode cX13_place 23 = .ok (.iconst 1, 1) := by decide +kernel
theorem dX13_place_24 : decode cX13_place 24 = .ok (.invokevirtual 78, 3) := by decide +kernel
theorem dX13_place_27 : decode cX13_place 27 = .ok (.ireturn, 1) := by decide +kernel
theorem dX13_place_28 : decode cX13_place 28 = .ok (.iconst 0, 1) := by decide +kernel
theorem dX13_place_29 : decode cX13_place 29 = .ok (.istore_n 3, 1) := by decide +kernel
theorem dX13_place_30 : decode cX13_place 30 = .ok (.iconst 0, 1) := by decide +kernel
theorem dX13_place_31 : decode cX13_place 31 = .ok (.istore 4, 2) := by decide +kernel
theorem dX13_place_33 : decode cX13_place 33 = .ok (.iload 4, 2) := by decide +kernel
theorem dX13_place_35 : decode cX13_place 35 = .ok (.aload_n 0, 1) := by decide +kernel
theorem dX13_place_36 : decode cX13_place 36 = .ok (.getfield 397, 3) := by decide +kernel
theorem dX13_place_39 : decode cX13_place 39 = .ok (.getfield 230, 3) := by decide +kernel
theorem dX13_place_42 : decode cX13_place 42 = .ok (.if_icmp .ge 35, 3) := by decide +kernel
theorem dX13_place_45 : decode cX13_place 45 = .ok (.iload_n 3, 1) := by decide +kernel
theorem dX13_place_46 : decode cX13_place 46 = .ok (.aload_n 0, 1) := by decide +kernel
theorem dX13_place_47 : decode cX13_place 47 = .ok (.getfield 397, 3) := by decide +kernel
theorem dX13_place_50 : decode cX13_place 50 = .ok (.getfield 334, 3) := by decide +kernel
theorem dX13_place_53 : decode cX13_place 53 = .ok (.bipush 6, 2) := by decide +kernel
theorem dX13_place_55 : decode cX13_place 55 = .ok (.iload_n 1, 1) := by decide +kernel
theorem dX13_place_56 : decode cX13_place 56 = .ok (.imul, 1) := by decide +kernel
theorem dX13_place_57 : decode cX13_place 57 = .ok (.iload 4, 2) := by decide +kernel
theorem dX13_place_59 : decode cX13_place 59 = .ok (.iadd, 1) := by decide +kernel
theorem dX13_place_60 : decode cX13_place 60 = .ok (.iaload, 1) := by decide +kernel
theorem dX13_place_61 : decode cX13_place 61 = .ok (.ifCond .le 7, 3) := by decide +kernel
theorem dX13_place_64 : decode cX13_place 64 = .ok (.iconst 1, 1) := by decide +kernel
theorem dX13_place_65 : decode cX13_place 65 = .ok (.goto 4, 3) := by decide +kernel
theorem dX13_place_68 : decode cX13_place 68 = .ok (.iconst 0, 1) := by decide +kernel
theorem dX13_place_69 : decode cX13_place 69 = .ok (.iadd, 1) := by decide +kernel
theorem dX13_place_70 : decode cX13_place 70 = .ok (.istore_n 3, 1) := by decide +kernel
theorem dX13_place_71 : decode cX13_place 71 = .ok (.iinc 4 1, 3) := by decide +kernel
theorem dX13_place_74 : decode cX13_place 74 = .ok (.goto (-41), 3) := by decide +kernel
theorem dX13_place_77 : decode cX13_place 77 = .ok (.aload_n 0, 1) := by decide +kernel
theorem dX13_place_78 : decode cX13_place 78 = .ok (.iload_n 2, 1) := by decide +kernel
theorem dX13_place_79 : decode cX13_place 79 = .ok (.ifCond .ne 15, 3) := by decide +kernel
theorem dX13_place_82 : decode cX13_place 82 = .ok (.aload_n 0, 1) := by decide +kernel
theorem dX13_place_83 : decode cX13_place 83 = .ok (.getfield 397, 3) := by decide +kernel
theorem dX13_place_86 : decode cX13_place 86 = .ok (.getfield 325, 3) := by decide +kernel
theorem dX13_place_89 : decode cX13_place 89 = .ok (.iload_n 1, 1) := by decide +kernel
theorem dX13_place_90 : decode cX13_place 90 = .ok (.iaload, 1) := by decide +kernel
theorem dX13_place_91 : decode cX13_place 91 = .ok (.goto 21, 3) := by decide +kernel
theorem dX13_place_94 : decode cX13_place 94 = .ok (.iload_n 2, 1) := by decide +kernel
theorem dX13_place_95 : decode cX13_place 95 = .ok (.iconst 1, 1) := by decide +kernel
theorem dX13_place_96 : decode cX13_place 96 = .ok (.if_icmp .ne 15, 3) := by decide +kernel
theorem dX13_place_99 : decode cX13_place 99 = .ok (.aload_n 0, 1) := by decide +kernel
theorem dX13_place_100 : decode cX13_place 100 = .ok (.getfield 397, 3) := by decide +kernel
theorem dX13_place_103 : decode cX13_place 103 = .ok (.getfield 328, 3) := by decide +kernel
theorem dX13_place_106 : decode cX13_place 106 = .ok (.iload_n 1, 1) := by decide +kernel
theorem dX13_place_107 : decode cX13_place 107 = .ok (.iaload, 1) := by decide +kernel
theorem dX13_place_108 : decode cX13_place 108 = .ok (.goto 4, 3) := by decide +kernel
theorem dX13_place_111 : decode cX13_place 111 = .ok (.iload_n 3, 1) := by decide +kernel
theorem dX13_place_112 : decode cX13_place 112 = .ok (.invokevirtual 82, 3) := by decide +kernel
theorem dX13_place_115 : decode cX13_place 115 = .ok (.ireturn, 1) := by decide +kernel
theorem dX13_traveller_0 : decode cX13_traveller 0 = .ok (.aload_n 0, 1) := by decide +kernel
theorem dX13_traveller_1 : decode cX13_traveller 1 = .ok (.iconst 0, 1) := by decide +kernel
theorem dX13_traveller_2 : decode cX13_traveller 2 = .ok (.putfield 72, 3) := by decide +kernel
theorem dX13_traveller_5 : decode cX13_traveller 5 = .ok (.aload_n 0, 1) := by decide +kernel
theorem dX13_traveller_6 : decode cX13_traveller 6 = .ok (.iload_n 1, 1) := by decide +kernel
theorem dX13_traveller_7 : decode cX13_traveller 7 = .ok (.invokevirtual 425, 3) := by decide +kernel
theorem dX13_traveller_10 : decode cX13_traveller 10 = .ok (.ifCond .eq 12, 3) := by decide +kernel
theorem dX13_traveller_13 : decode cX13_traveller 13 = .ok (.iload_n 2, 1) := by decide +kernel
theorem dX13_traveller_14 : decode cX13_traveller 14 = .ok (.iconst 0, 1) := by decide +kernel
theorem dX13_traveller_15 : decode cX13_traveller 15 = .ok (.iconst 4, 1) := by decide +kernel
theorem dX13_traveller_16 : decode cX13_traveller 16 = .ok (.invokestatic 150, 3) := by decide +kernel
theorem dX13_traveller_19 : decode cX13_traveller 19 = .ok (.ifCond .ne 9, 3) := by decide +kernel
theorem dX13_traveller_22 : decode cX13_traveller 22 = .ok (.aload_n 0, 1) := by decide +kernel
theorem dX13_traveller_23 : decode cX13_traveller 23 = .ok (.iconst 1, 1) := by decide +kernel
theorem dX13_traveller_24 : decode cX13_traveller 24 = .ok (.invokevirtual 78, 3) := by decide +kernel
theorem dX13_traveller_27 : decode cX13_traveller 27 = .ok (.ireturn, 1) := by decide +kernel
theorem dX13_traveller_28 : decode cX13_traveller 28 = .ok (.iload_n 2, 1) := by decide +kernel
theorem dX13_traveller_29 : decode cX13_traveller 29 = .ok (.tableswitch 87 0 3 #[31, 45, 59, 73], 31) := by decide +kernel
theorem dX13_traveller_60 : decode cX13_traveller 60 = .ok (.aload_n 0, 1) := by decide +kernel
theorem dX13_traveller_61 : decode cX13_traveller 61 = .ok (.aload_n 0, 1) := by decide +kernel
theorem dX13_traveller_62 : decode cX13_traveller 62 = .ok (.getfield 397, 3) := by decide +kernel
theorem dX13_traveller_65 : decode cX13_traveller 65 = .ok (.getfield 358, 3) := by decide +kernel
theorem dX13_traveller_68 : decode cX13_traveller 68 = .ok (.iload_n 1, 1) := by decide +kernel
theorem dX13_traveller_69 : decode cX13_traveller 69 = .ok (.iaload, 1) := by decide +kernel
theorem dX13_traveller_70 : decode cX13_traveller 70 = .ok (.invokevirtual 82, 3) := by decide +kernel
theorem dX13_traveller_73 : decode cX13_traveller 73 = .ok (.ireturn, 1) := by decide +kernel
theorem dX13_traveller_74 : decode cX13_traveller 74 = .ok (.aload_n 0, 1) := by decide +kernel
theorem dX13_traveller_75 : decode cX13_traveller 75 = .ok (.aload_n 0, 1) := by decide +kernel
theorem dX13_traveller_76 : decode cX13_traveller 76 = .ok (.getfield 397, 3) := by decide +kernel
theorem dX13_traveller_79 : decode cX13_traveller 79 = .ok (.getfield 361, 3) := by decide +kernel
theorem dX13_traveller_82 : decode cX13_traveller 82 = .ok (.iload_n 1, 1) := by decide +kernel
theorem dX13_traveller_83 : decode cX13_traveller 83 = .ok (.iaload, 1) := by decide +kernel
theorem dX13_traveller_84 : decode cX13_traveller 84 = .ok (.invokevirtual 82, 3) := by decide +kernel
theorem dX13_traveller_87 : decode cX13_traveller 87 = .ok (.ireturn, 1) := by decide +kernel
theorem dX13_traveller_88 : decode cX13_traveller 88 = .ok (.aload_n 0, 1) := by decide +kernel
theorem dX13_traveller_89 : decode cX13_traveller 89 = .ok (.aload_n 0, 1) := by decide +kernel
theorem dX13_traveller_90 : decode cX13_traveller 90 = .ok (.getfield 17, 3) := by decide +kernel
theorem dX13_traveller_93 : decode cX13_traveller 93 = .ok (.bipush 24, 2) := by decide +kernel
theorem dX13_traveller_95 : decode cX13_traveller 95 = .ok (.iload_n 1, 1) := by decide +kernel
theorem dX13_traveller_96 : decode cX13_traveller 96 = .ok (.iadd, 1) := by decide +kernel
theorem dX13_traveller_97 : decode cX13_traveller 97 = .ok (.iaload, 1) := by decide +kernel
theorem dX13_traveller_98 : decode cX13_traveller 98 = .ok (.invokevirtual 82, 3) := by decide +kernel
theorem dX13_traveller_101 : decode cX13_traveller 101 = .ok (.ireturn, 1) := by decide +kernel
theorem dX13_traveller_102 : decode cX13_traveller 102 = .ok (.aload_n 0, 1) := by decide +kernel
theorem dX13_traveller_103 : decode cX13_traveller 103 = .ok (.aload_n 0, 1) := by decide +kernel
theorem dX13_traveller_104 : decode cX13_traveller 104 = .ok (.getfield 17, 3) := by decide +kernel
theorem dX13_traveller_107 : decode cX13_traveller 107 = .ok (.bipush 28, 2) := by decide +kernel
theorem dX13_traveller_109 : decode cX13_traveller 109 = .ok (.iload_n 1, 1) := by decide +kernel
theorem dX13_traveller_110 : decode cX13_traveller 110 = .ok (.iadd, 1) := by decide +kernel
theorem dX13_traveller_111 : decode cX13_traveller 111 = .ok (.iaload, 1) := by decide +kernel
theorem dX13_traveller_112 : decode cX13_traveller 112 = .ok (.invokevirtual 82, 3) := by decide +kernel
theorem dX13_traveller_115 : decode cX13_traveller 115 = .ok (.ireturn, 1) := by decide +kernel
theorem dX13_traveller_116 : decode cX13_traveller 116 = .ok (.aload_n 0, 1) := by decide +kernel
theorem dX13_traveller_117 : decode cX13_traveller 117 = .ok (.aload_n 0, 1) := by decide +kernel
theorem dX13_traveller_118 : decode cX13_traveller 118 = .ok (.getfield 17, 3) := by decide +kernel
theorem dX13_traveller_121 : decode cX13_traveller 121 = .ok (.bipush 32, 2) := by decide +kernel
theorem dX13_traveller_123 : decode cX13_traveller 123 = .ok (.iload_n 1, 1) := by decide +kernel
theorem dX13_traveller_124 : decode cX13_traveller 124 = .ok (.iadd, 1) := by decide +kernel
theorem dX13_traveller_125 : decode cX13_traveller 125 = .ok (.iaload, 1) := by decide +kernel
theorem dX13_traveller_126 : decode cX13_traveller 126 = .ok (.invokevirtual 82, 3) := by decide +kernel
theorem dX13_traveller_129 : decode cX13_traveller 129 = .ok (.ireturn, 1) := by decide +kernel
theorem dX13_path_0 : decode cX13_path 0 = .ok (.aload_n 0, 1) := by decide +kernel
theorem dX13_path_1 : decode cX13_path 1 = .ok (.iconst 0, 1) := by decide +kernel
theorem dX13_path_2 : decode cX13_path 2 = .ok (.putfield 72, 3) := by decide +kernel
theorem dX13_path_5 : decode cX13_path 5 = .ok (.aload_n 0, 1) := by decide +kernel
theorem dX13_path_6 : decode cX13_path 6 = .ok (.iload_n 1, 1) := by decide +kernel
theorem dX13_path_7 : decode cX13_path 7 = .ok (.invokevirtual 422, 3) := by decide +kernel
theorem dX13_path_10 : decode cX13_path 10 = .ok (.ifCond .eq 16, 3) := by decide +kernel
theorem dX13_path_13 : decode cX13_path 13 = .ok (.aload_n 0, 1) := by decide +kernel
theorem dX13_path_14 : decode cX13_path 14 = .ok (.iload_n 2, 1) := by decide +kernel
theorem dX13_path_15 : decode cX13_path 15 = .ok (.invokevirtual 422, 3) := by decide +kernel
theorem dX13_path_18 : decode cX13_path 18 = .ok (.ifCond .eq 8, 3) := by decide +kernel
theorem dX13_path_21 : decode cX13_path 21 = .ok (.iload_n 1, 1) := by decide +kernel
theorem dX13_path_22 : decode cX13_path 22 = .ok (.iload_n 2, 1) := by decide +kernel
theorem dX13_path_23 : decode cX13_path 23 = .ok (.if_icmp .ne 9, 3) := by decide +kernel
theorem dX13_path_26 : decode cX13_path 26 = .ok (.aload_n 0, 1) := by decide +kernel
theorem dX13_path_27 : decode cX13_path 27 = .ok (.iconst 1, 1) := by decide +kernel
theorem dX13_path_28 : decode cX13_path 28 = .ok (.invokevirtual 78, 3) := by decide +kernel
theorem dX13_path_31 : decode cX13_path 31 = .ok (.ireturn, 1) := by decide +kernel
theorem dX13_path_32 : decode cX13_path 32 = .ok (.aload_n 0, 1) := by decide +kernel
theorem dX13_path_33 : decode cX13_path 33 = .ok (.aload_n 0, 1) := by decide +kernel
theorem dX13_path_34 : decode cX13_path 34 = .ok (.getfield 397, 3) := by decide +kernel
theorem dX13_path_37 : decode cX13_path 37 = .ok (.getfield 334, 3) := by decide +kernel
theorem dX13_path_40 : decode cX13_path 40 = .ok (.bipush 6, 2) := by decide +kernel
theorem dX13_path_42 : decode cX13_path 42 = .ok (.iload_n 1, 1) := by decide +kernel
theorem dX13_path_43 : decode cX13_path 43 = .ok (.imul, 1) := by decide +kernel
theorem dX13_path_44 : decode cX13_path 44 = .ok (.iload_n 2, 1) := by decide +kernel
theorem dX13_path_45 : decode cX13_path 45 = .ok (.iadd, 1) := by decide +kernel
theorem dX13_path_46 : decode cX13_path 46 = .ok (.iaload, 1) := by decide +kernel
theorem dX13_path_47 : decode cX13_path 47 = .ok (.ifCond .le 20, 3) := by decide +kernel
theorem dX13_path_50 : decode cX13_path 50 = .ok (.aload_n 0, 1) := by decide +kernel
theorem dX13_path_51 : decode cX13_path 51 = .ok (.getfield 397, 3) := by decide +kernel
theorem dX13_path_54 : decode cX13_path 54 = .ok (.getfield 334, 3) := by decide +kernel
theorem dX13_path_57 : decode cX13_path 57 = .ok (.bipush 6, 2) := by decide +kernel
theorem dX13_path_59 : decode cX13_path 59 = .ok (.iload_n 1, 1) := by decide +kernel
theorem dX13_path_60 : decode cX13_path 60 = .ok (.imul, 1) := by decide +kernel
theorem dX13_path_61 : decode cX13_path 61 = .ok (.iload_n 2, 1) := by decide +kernel
theorem dX13_path_62 : decode cX13_path 62 = .ok (.iadd, 1) := by decide +kernel
theorem dX13_path_63 : decode cX13_path 63 = .ok (.iaload, 1) := by decide +kernel
theorem dX13_path_64 : decode cX13_path 64 = .ok (.goto 5, 3) := by decide +kernel
theorem dX13_path_67 : decode cX13_path 67 = .ok (.bipush (-2), 2) := by decide +kernel
theorem dX13_path_69 : decode cX13_path 69 = .ok (.invokevirtual 82, 3) := by decide +kernel
theorem dX13_path_72 : decode cX13_path 72 = .ok (.ireturn, 1) := by decide +kernel
theorem dX13_asks_0 : decode cX13_asks 0 = .ok (.iload_n 1, 1) := by decide +kernel
theorem dX13_asks_1 : decode cX13_asks 1 = .ok (.ifCond .ne 5, 3) := by decide +kernel
theorem dX13_asks_4 : decode cX13_asks 4 = .ok (.iconst 1, 1) := by decide +kernel
theorem dX13_asks_5 : decode cX13_asks 5 = .ok (.ireturn, 1) := by decide +kernel
theorem dX13_asks_6 : decode cX13_asks 6 = .ok (.iload_n 3, 1) := by decide +kernel
theorem dX13_asks_7 : decode cX13_asks 7 = .ok (.iconst 0, 1) := by decide +kernel
theorem dX13_asks_8 : decode cX13_asks 8 = .ok (.bipush 99, 2) := by decide +kernel
theorem dX13_asks_10 : decode cX13_asks 10 = .ok (.invokestatic 150, 3) := by decide +kernel
theorem dX13_asks_13 : decode cX13_asks 13 = .ok (.ifCond .ne 5, 3) := by decide +kernel
theorem dX13_asks_16 : decode cX13_asks 16 = .ok (.iconst 2, 1) := by decide +kernel
theorem dX13_asks_17 : decode cX13_asks 17 = .ok (.ireturn, 1) := by decide +kernel
theorem dX13_asks_18 : decode cX13_asks 18 = .ok (.aload_n 0, 1) := by decide +kernel
theorem dX13_asks_19 : decode cX13_asks 19 = .ok (.iload_n 2, 1) := by decide +kernel
theorem dX13_asks_20 : decode cX13_asks 20 = .ok (.invokevirtual 428, 3) := by decide +kernel
theorem dX13_asks_23 : decode cX13_asks 23 = .ok (.aload_n 0, 1) := by decide +kernel
theorem dX13_asks_24 : decode cX13_asks 24 = .ok (.iload_n 3, 1) := by decide +kernel
theorem dX13_asks_25 : decode cX13_asks 25 = .ok (.invokevirtual 431, 3) := by decide +kernel
theorem dX13_asks_28 : decode cX13_asks 28 = .ok (.aload_n 0, 1) := by decide +kernel
theorem dX13_asks_29 : decode cX13_asks 29 = .ok (.invokevirtual 433, 3) := by decide +kernel
theorem dX13_asks_32 : decode cX13_asks 32 = .ok (.iconst 0, 1) := by decide +kernel
theorem dX13_asks_33 : decode cX13_asks 33 = .ok (.ireturn, 1) := by decide +kernel
theorem dX13_strength_0 : decode cX13_strength 0 = .ok (.aload_n 0, 1) := by decide +kernel
theorem dX13_strength_1 : decode cX13_strength 1 = .ok (.iconst 0, 1) := by decide +kernel
theorem dX13_strength_2 : decode cX13_strength 2 = .ok (.putfield 72, 3) := by decide +kernel
theorem dX13_strength_5 : decode cX13_strength 5 = .ok (.aload_n 0, 1) := by decide +kernel
theorem dX13_strength_6 : decode cX13_strength 6 = .ok (.aload_n 0, 1) := by decide +kernel
theorem dX13_strength_7 : decode cX13_strength 7 = .ok (.iload_n 1, 1) := by decide +kernel
theorem dX13_strength_8 : decode cX13_strength 8 = .ok (.invokevirtual 425, 3) := by decide +kernel
theorem dX13_strength_11 : decode cX13_strength 11 = .ok (.ifCond .eq 15, 3) := by decide +kernel
theorem dX13_strength_14 : decode cX13_strength 14 = .ok (.aload_n 0, 1) := by decide +kernel
theorem dX13_strength_15 : decode cX13_strength 15 = .ok (.iload_n 2, 1) := by decide +kernel
theorem dX13_strength_16 : decode cX13_strength 16 = .ok (.invokevirtual 419, 3) := by decide +kernel
theorem dX13_strength_19 : decode cX13_strength 19 = .ok (.ifCond .eq 7, 3) := by decide +kernel
theorem dX13_strength_22 : decode cX13_strength 22 = .ok (.iconst 1, 1) := by decide +kernel
theorem dX13_strength_23 : decode cX13_strength 23 = .ok (.goto 4, 3) := by decide +kernel
theorem dX13_strength_26 : decode cX13_strength 26 = .ok (.iconst 0, 1) := by decide +kernel
theorem dX13_strength_27 : decode cX13_strength 27 = .ok (.iload_n 1, 1) := by decide +kernel
theorem dX13_strength_28 : decode cX13_strength 28 = .ok (.iload_n 3, 1) := by decide +kernel
theorem dX13_strength_29 : decode cX13_strength 29 = .ok (.invokevirtual 436, 3) := by decide +kernel
theorem dX13_strength_32 : decode cX13_strength 32 = .ok (.istore 4, 2) := by decide +kernel
theorem dX13_strength_34 : decode cX13_strength 34 = .ok (.iload 4, 2) := by decide +kernel
theorem dX13_strength_36 : decode cX13_strength 36 = .ok (.ifCond .le 12, 3) := by decide +kernel
theorem dX13_strength_39 : decode cX13_strength 39 = .ok (.aload_n 0, 1) := by decide +kernel
theorem dX13_strength_40 : decode cX13_strength 40 = .ok (.iload 4, 2) := by decide +kernel
theorem dX13_strength_42 : decode cX13_strength 42 = .ok (.invokevirtual 78, 3) := by decide +kernel
theorem dX13_strength_45 : decode cX13_strength 45 = .ok (.goto 15, 3) := by decide +kernel
theorem dX13_strength_48 : decode cX13_strength 48 = .ok (.aload_n 0, 1) := by decide +kernel
theorem dX13_strength_49 : decode cX13_strength 49 = .ok (.aload_n 0, 1) := by decide +kernel
theorem dX13_strength_50 : decode cX13_strength 50 = .ok (.getfield 27, 3) := by decide +kernel
theorem dX13_strength_53 : decode cX13_strength 53 = .ok (.iload_n 2, 1) := by decide +kernel
theorem dX13_strength_54 : decode cX13_strength 54 = .ok (.iaload, 1) := by decide +kernel
theorem dX13_strength_55 : decode cX13_strength 55 = .ok (.iconst 2, 1) := by decide +kernel
theorem dX13_strength_56 : decode cX13_strength 56 = .ok (.idiv, 1) := by decide +kernel
theorem dX13_strength_57 : decode cX13_strength 57 = .ok (.invokevirtual 82, 3) := by decide +kernel
theorem dX13_strength_60 : decode cX13_strength 60 = .ok (.ireturn, 1) := by decide +kernel
theorem dX13_covered_0 : decode cX13_covered 0 = .ok (.aload_n 0, 1) := by decide +kernel
theorem dX13_covered_1 : decode cX13_covered 1 = .ok (.iconst 0, 1) := by decide +kernel
theorem dX13_covered_2 : decode cX13_covered 2 = .ok (.putfield 72, 3) := by decide +kernel
theorem dX13_covered_5 : decode cX13_covered 5 = .ok (.aload_n 0, 1) := by decide +kernel
theorem dX13_covered_6 : decode cX13_covered 6 = .ok (.aload_n 0, 1) := by decide +kernel
theorem dX13_covered_7 : decode cX13_covered 7 = .ok (.iload_n 1, 1) := by decide +kernel
theorem dX13_covered_8 : decode cX13_covered 8 = .ok (.invokevirtual 425, 3) := by decide +kernel
theorem dX13_covered_11 : decode cX13_covered 11 = .ok (.ifCond .eq 15, 3) := by decide +kernel
theorem dX13_covered_14 : decode cX13_covered 14 = .ok (.aload_n 0, 1) := by decide +kernel
theorem dX13_covered_15 : decode cX13_covered 15 = .ok (.iload_n 2, 1) := by decide +kernel
