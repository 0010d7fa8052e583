theorem dX13_covered_16 : decode cX13_covered 16 = .ok (.invokevirtual 419, 3) := by decide +kernel
theorem dX13_covered_19 : decode cX13_covered 19 = .ok (.ifCond .eq 7, 3) := by decide +kernel
theorem dX13_covered_22 : decode cX13_covered 22 = .ok (.iconst 1, 1) := by decide +kernel
theorem dX13_covered_23 : decode cX13_covered 23 = .ok (.goto 4, 3) := by decide +kernel
theorem dX13_covered_26 : decode cX13_covered 26 = .ok (.iconst 0, 1) := by decide +kernel
theorem dX13_covered_27 : decode cX13_covered 27 = .ok (.iload_n 1, 1) := by decide +kernel
theorem dX13_covered_28 : decode cX13_covered 28 = .ok (.iload_n 3, 1) := by decide +kernel
theorem dX13_covered_29 : decode cX13_covered 29 = .ok (.invokevirtual 436, 3) := by decide +kernel
theorem dX13_covered_32 : decode cX13_covered 32 = .ok (.istore 4, 2) := by decide +kernel
theorem dX13_covered_34 : decode cX13_covered 34 = .ok (.iload 4, 2) := by decide +kernel
theorem dX13_covered_36 : decode cX13_covered 36 = .ok (.ifCond .le 12, 3) := by decide +kernel
theorem dX13_covered_39 : decode cX13_covered 39 = .ok (.aload_n 0, 1) := by decide +kernel
theorem dX13_covered_40 : decode cX13_covered 40 = .ok (.iload 4, 2) := by decide +kernel
theorem dX13_covered_42 : decode cX13_covered 42 = .ok (.invokevirtual 78, 3) := by decide +kernel
theorem dX13_covered_45 : decode cX13_covered 45 = .ok (.goto 12, 3) := by decide +kernel
theorem dX13_covered_48 : decode cX13_covered 48 = .ok (.aload_n 0, 1) := by decide +kernel
theorem dX13_covered_49 : decode cX13_covered 49 = .ok (.aload_n 0, 1) := by decide +kernel
theorem dX13_covered_50 : decode cX13_covered 50 = .ok (.iload_n 2, 1) := by decide +kernel
theorem dX13_covered_51 : decode cX13_covered 51 = .ok (.invokevirtual 408, 3) := by decide +kernel
theorem dX13_covered_54 : decode cX13_covered 54 = .ok (.invokevirtual 82, 3) := by decide +kernel
theorem dX13_covered_57 : decode cX13_covered 57 = .ok (.ireturn, 1) := by decide +kernel
theorem dX13_smelt_0 : decode cX13_smelt 0 = .ok (.aload_n 0, 1) := by decide +kernel
theorem dX13_smelt_1 : decode cX13_smelt 1 = .ok (.iconst 0, 1) := by decide +kernel
theorem dX13_smelt_2 : decode cX13_smelt 2 = .ok (.putfield 72, 3) := by decide +kernel
theorem dX13_smelt_5 : decode cX13_smelt 5 = .ok (.aload_n 0, 1) := by decide +kernel
theorem dX13_smelt_6 : decode cX13_smelt 6 = .ok (.aload_n 0, 1) := by decide +kernel
theorem dX13_smelt_7 : decode cX13_smelt 7 = .ok (.iload_n 1, 1) := by decide +kernel
theorem dX13_smelt_8 : decode cX13_smelt 8 = .ok (.invokevirtual 425, 3) := by decide +kernel
theorem dX13_smelt_11 : decode cX13_smelt 11 = .ok (.ifCond .eq 15, 3) := by decide +kernel
theorem dX13_smelt_14 : decode cX13_smelt 14 = .ok (.aload_n 0, 1) := by decide +kernel
theorem dX13_smelt_15 : decode cX13_smelt 15 = .ok (.iload_n 2, 1) := by decide +kernel
theorem dX13_smelt_16 : decode cX13_smelt 16 = .ok (.invokevirtual 439, 3) := by decide +kernel
theorem dX13_smelt_19 : decode cX13_smelt 19 = .ok (.ifCond .eq 7, 3) := by decide +kernel
theorem dX13_smelt_22 : decode cX13_smelt 22 = .ok (.iconst 1, 1) := by decide +kernel
theorem dX13_smelt_23 : decode cX13_smelt 23 = .ok (.goto 4, 3) := by decide +kernel
theorem dX13_smelt_26 : decode cX13_smelt 26 = .ok (.iconst 0, 1) := by decide +kernel
theorem dX13_smelt_27 : decode cX13_smelt 27 = .ok (.iload_n 1, 1) := by decide +kernel
theorem dX13_smelt_28 : decode cX13_smelt 28 = .ok (.iload_n 3, 1) := by decide +kernel
theorem dX13_smelt_29 : decode cX13_smelt 29 = .ok (.invokevirtual 436, 3) := by decide +kernel
theorem dX13_smelt_32 : decode cX13_smelt 32 = .ok (.istore 4, 2) := by decide +kernel
theorem dX13_smelt_34 : decode cX13_smelt 34 = .ok (.iload 4, 2) := by decide +kernel
theorem dX13_smelt_36 : decode cX13_smelt 36 = .ok (.ifCond .le 10, 3) := by decide +kernel
theorem dX13_smelt_39 : decode cX13_smelt 39 = .ok (.aload_n 0, 1) := by decide +kernel
theorem dX13_smelt_40 : decode cX13_smelt 40 = .ok (.iload 4, 2) := by decide +kernel
theorem dX13_smelt_42 : decode cX13_smelt 42 = .ok (.invokevirtual 78, 3) := by decide +kernel
theorem dX13_smelt_45 : decode cX13_smelt 45 = .ok (.ireturn, 1) := by decide +kernel
theorem dX13_smelt_46 : decode cX13_smelt 46 = .ok (.iconst 0, 1) := by decide +kernel
theorem dX13_smelt_47 : decode cX13_smelt 47 = .ok (.istore 5, 2) := by decide +kernel
theorem dX13_smelt_49 : decode cX13_smelt 49 = .ok (.iconst 0, 1) := by decide +kernel
theorem dX13_smelt_50 : decode cX13_smelt 50 = .ok (.istore 6, 2) := by decide +kernel
theorem dX13_smelt_52 : decode cX13_smelt 52 = .ok (.iload 6, 2) := by decide +kernel
theorem dX13_smelt_54 : decode cX13_smelt 54 = .ok (.aload_n 0, 1) := by decide +kernel
theorem dX13_smelt_55 : decode cX13_smelt 55 = .ok (.getfield 397, 3) := by decide +kernel
theorem dX13_smelt_58 : decode cX13_smelt 58 = .ok (.getfield 301, 3) := by decide +kernel
theorem dX13_smelt_61 : decode cX13_smelt 61 = .ok (.if_icmp .ge 40, 3) := by decide +kernel
theorem dX13_smelt_64 : decode cX13_smelt 64 = .ok (.iload 5, 2) := by decide +kernel
theorem dX13_smelt_66 : decode cX13_smelt 66 = .ok (.aload_n 0, 1) := by decide +kernel
theorem dX13_smelt_67 : decode cX13_smelt 67 = .ok (.iload 6, 2) := by decide +kernel
theorem dX13_smelt_69 : decode cX13_smelt 69 = .ok (.aload_n 0, 1) := by decide +kernel
theorem dX13_smelt_70 : decode cX13_smelt 70 = .ok (.getfield 397, 3) := by decide +kernel
theorem dX13_smelt_73 : decode cX13_smelt 73 = .ok (.getfield 323, 3) := by decide +kernel
theorem dX13_smelt_76 : decode cX13_smelt 76 = .ok (.iload_n 2, 1) := by decide +kernel
theorem dX13_smelt_77 : decode cX13_smelt 77 = .ok (.iaload, 1) := by decide +kernel
theorem dX13_smelt_78 : decode cX13_smelt 78 = .ok (.invokevirtual 411, 3) := by decide +kernel
theorem dX13_smelt_81 : decode cX13_smelt 81 = .ok (.ifCond .eq 10, 3) := by decide +kernel
theorem dX13_smelt_84 : decode cX13_smelt 84 = .ok (.iconst 1, 1) := by decide +kernel
theorem dX13_smelt_85 : decode cX13_smelt 85 = .ok (.iload 6, 2) := by decide +kernel
theorem dX13_smelt_87 : decode cX13_smelt 87 = .ok (.ishl, 1) := by decide +kernel
theorem dX13_smelt_88 : decode cX13_smelt 88 = .ok (.goto 4, 3) := by decide +kernel
theorem dX13_smelt_91 : decode cX13_smelt 91 = .ok (.iconst 0, 1) := by decide +kernel
theorem dX13_smelt_92 : decode cX13_smelt 92 = .ok (.ior, 1) := by decide +kernel
theorem dX13_smelt_93 : decode cX13_smelt 93 = .ok (.istore 5, 2) := by decide +kernel
theorem dX13_smelt_95 : decode cX13_smelt 95 = .ok (.iinc 6 1, 3) := by decide +kernel
theorem dX13_smelt_98 : decode cX13_smelt 98 = .ok (.goto (-46), 3) := by decide +kernel
theorem dX13_smelt_101 : decode cX13_smelt 101 = .ok (.aload_n 0, 1) := by decide +kernel
theorem dX13_smelt_102 : decode cX13_smelt 102 = .ok (.iload 5, 2) := by decide +kernel
theorem dX13_smelt_104 : decode cX13_smelt 104 = .ok (.invokevirtual 82, 3) := by decide +kernel
theorem dX13_smelt_107 : decode cX13_smelt 107 = .ok (.ireturn, 1) := by decide +kernel
theorem dX13_duty_0 : decode cX13_duty 0 = .ok (.aload_n 0, 1) := by decide +kernel
theorem dX13_duty_1 : decode cX13_duty 1 = .ok (.iconst 0, 1) := by decide +kernel
theorem dX13_duty_2 : decode cX13_duty 2 = .ok (.putfield 72, 3) := by decide +kernel
theorem dX13_duty_5 : decode cX13_duty 5 = .ok (.aload_n 0, 1) := by decide +kernel
theorem dX13_duty_6 : decode cX13_duty 6 = .ok (.aload_n 0, 1) := by decide +kernel
theorem dX13_duty_7 : decode cX13_duty 7 = .ok (.iload_n 1, 1) := by decide +kernel
theorem dX13_duty_8 : decode cX13_duty 8 = .ok (.invokevirtual 425, 3) := by decide +kernel
theorem dX13_duty_11 : decode cX13_duty 11 = .ok (.ifCond .eq 15, 3) := by decide +kernel
theorem dX13_duty_14 : decode cX13_duty 14 = .ok (.aload_n 0, 1) := by decide +kernel
theorem dX13_duty_15 : decode cX13_duty 15 = .ok (.iload_n 2, 1) := by decide +kernel
theorem dX13_duty_16 : decode cX13_duty 16 = .ok (.invokevirtual 422, 3) := by decide +kernel
theorem dX13_duty_19 : decode cX13_duty 19 = .ok (.ifCond .eq 7, 3) := by decide +kernel
theorem dX13_duty_22 : decode cX13_duty 22 = .ok (.iconst 1, 1) := by decide +kernel
theorem dX13_duty_23 : decode cX13_duty 23 = .ok (.goto 4, 3) := by decide +kernel
theorem dX13_duty_26 : decode cX13_duty 26 = .ok (.iconst 0, 1) := by decide +kernel
theorem dX13_duty_27 : decode cX13_duty 27 = .ok (.iload_n 1, 1) := by decide +kernel
theorem dX13_duty_28 : decode cX13_duty 28 = .ok (.iload_n 3, 1) := by decide +kernel
theorem dX13_duty_29 : decode cX13_duty 29 = .ok (.invokevirtual 436, 3) := by decide +kernel
theorem dX13_duty_32 : decode cX13_duty 32 = .ok (.istore 4, 2) := by decide +kernel
theorem dX13_duty_34 : decode cX13_duty 34 = .ok (.iload 4, 2) := by decide +kernel
theorem dX13_duty_36 : decode cX13_duty 36 = .ok (.ifCond .le 12, 3) := by decide +kernel
theorem dX13_duty_39 : decode cX13_duty 39 = .ok (.aload_n 0, 1) := by decide +kernel
theorem dX13_duty_40 : decode cX13_duty 40 = .ok (.iload 4, 2) := by decide +kernel
theorem dX13_duty_42 : decode cX13_duty 42 = .ok (.invokevirtual 78, 3) := by decide +kernel
theorem dX13_duty_45 : decode cX13_duty 45 = .ok (.goto 13, 3) := by decide +kernel
theorem dX13_duty_48 : decode cX13_duty 48 = .ok (.aload_n 0, 1) := by decide +kernel
theorem dX13_duty_49 : decode cX13_duty 49 = .ok (.aload_n 0, 1) := by decide +kernel
theorem dX13_duty_50 : decode cX13_duty 50 = .ok (.iload_n 1, 1) := by decide +kernel
theorem dX13_duty_51 : decode cX13_duty 51 = .ok (.iload_n 2, 1) := by decide +kernel
theorem dX13_duty_52 : decode cX13_duty 52 = .ok (.invokevirtual 442, 3) := by decide +kernel
theorem dX13_duty_55 : decode cX13_duty 55 = .ok (.invokevirtual 82, 3) := by decide +kernel
theorem dX13_duty_58 : decode cX13_duty 58 = .ok (.ireturn, 1) := by decide +kernel
theorem dX13_claim_0 : decode cX13_claim 0 = .ok (.aload_n 0, 1) := by decide +kernel
theorem dX13_claim_1 : decode cX13_claim 1 = .ok (.iconst 0, 1) := by decide +kernel
theorem dX13_claim_2 : decode cX13_claim 2 = .ok (.putfield 72, 3) := by decide +kernel
theorem dX13_claim_5 : decode cX13_claim 5 = .ok (.aload_n 0, 1) := by decide +kernel
theorem dX13_claim_6 : decode cX13_claim 6 = .ok (.aload_n 0, 1) := by decide +kernel
theorem dX13_claim_7 : decode cX13_claim 7 = .ok (.iload_n 1, 1) := by decide +kernel
theorem dX13_claim_8 : decode cX13_claim 8 = .ok (.invokevirtual 425, 3) := by decide +kernel
theorem dX13_claim_11 : decode cX13_claim 11 = .ok (.iload_n 1, 1) := by decide +kernel
theorem dX13_claim_12 : decode cX13_claim 12 = .ok (.iload_n 2, 1) := by decide +kernel
theorem dX13_claim_13 : decode cX13_claim 13 = .ok (.invokevirtual 436, 3) := by decide +kernel
theorem dX13_claim_16 : decode cX13_claim 16 = .ok (.istore_n 3, 1) := by decide +kernel
theorem dX13_claim_17 : decode cX13_claim 17 = .ok (.iload_n 3, 1) := by decide +kernel
theorem dX13_claim_18 : decode cX13_claim 18 = .ok (.ifCond .le 9, 3) := by decide +kernel
theorem dX13_claim_21 : decode cX13_claim 21 = .ok (.aload_n 0, 1) := by decide +kernel
theorem dX13_claim_22 : decode cX13_claim 22 = .ok (.iload_n 3, 1) := by decide +kernel
theorem dX13_claim_23 : decode cX13_claim 23 = .ok (.invokevirtual 78, 3) := by decide +kernel
theorem dX13_claim_26 : decode cX13_claim 26 = .ok (.ireturn, 1) := by decide +kernel
theorem dX13_claim_27 : decode cX13_claim 27 = .ok (.iconst 0, 1) := by decide +kernel
theorem dX13_claim_28 : decode cX13_claim 28 = .ok (.istore 4, 2) := by decide +kernel
theorem dX13_claim_30 : decode cX13_claim 30 = .ok (.iload 4, 2) := by decide +kernel
theorem dX13_claim_32 : decode cX13_claim 32 = .ok (.iconst 4, 1) := by decide +kernel
theorem dX13_claim_33 : decode cX13_claim 33 = .ok (.if_icmp .ge 17, 3) := by decide +kernel
theorem dX13_claim_36 : decode cX13_claim 36 = .ok (.aload_n 0, 1) := by decide +kernel
theorem dX13_claim_37 : decode cX13_claim 37 = .ok (.getfield 33, 3) := by decide +kernel
theorem dX13_claim_40 : decode cX13_claim 40 = .ok (.iload 4, 2) := by decide +kernel
theorem dX13_claim_42 : decode cX13_claim 42 = .ok (.iconst 0, 1) := by decide +kernel
theorem dX13_claim_43 : decode cX13_claim 43 = .ok (.iastore, 1) := by decide +kernel
theorem dX13_claim_44 : decode cX13_claim 44 = .ok (.iinc 4 1, 3) := by decide +kernel
theorem dX13_claim_47 : decode cX13_claim 47 = .ok (.goto (-17), 3) := by decide +kernel
theorem dX13_claim_50 : decode cX13_claim 50 = .ok (.iconst 0, 1) := by decide +kernel
theorem dX13_claim_51 : decode cX13_claim 51 = .ok (.istore 4, 2) := by decide +kernel
theorem dX13_claim_53 : decode cX13_claim 53 = .ok (.iload 4, 2) := by decide +kernel
theorem dX13_claim_55 : decode cX13_claim 55 = .ok (.aload_n 0, 1) := by decide +kernel
theorem dX13_claim_56 : decode cX13_claim 56 = .ok (.getfield 397, 3) := by decide +kernel
theorem dX13_claim_59 : decode cX13_claim 59 = .ok (.getfield 301, 3) := by decide +kernel
theorem dX13_claim_62 : decode cX13_claim 62 = .ok (.if_icmp .ge 51, 3) := by decide +kernel
theorem dX13_claim_65 : decode cX13_claim 65 = .ok (.aload_n 0, 1) := by decide +kernel
theorem dX13_claim_66 : decode cX13_claim 66 = .ok (.getfield 33, 3) := by decide +kernel
theorem dX13_claim_69 : decode cX13_claim 69 = .ok (.aload_n 0, 1) := by decide +kernel
theorem dX13_claim_70 : decode cX13_claim 70 = .ok (.getfield 397, 3) := by decide +kernel
theorem dX13_claim_73 : decode cX13_claim 73 = .ok (.getfield 316, 3) := by decide +kernel
theorem dX13_claim_76 : decode cX13_claim 76 = .ok (.iload 4, 2) := by decide +kernel
theorem dX13_claim_78 : decode cX13_claim 78 = .ok (.iaload, 1) := by decide +kernel
theorem dX13_claim_79 : decode cX13_claim 79 = .ok (.dup2, 1) := by decide +kernel
theorem dX13_claim_80 : decode cX13_claim 80 = .ok (.iaload, 1) := by decide +kernel
theorem dX13_claim_81 : decode cX13_claim 81 = .ok (.aload_n 0, 1) := by decide +kernel
theorem dX13_claim_82 : decode cX13_claim 82 = .ok (.getfield 397, 3) := by decide +kernel
theorem dX13_claim_85 : decode cX13_claim 85 = .ok (.getfield 313, 3) := by decide +kernel
theorem dX13_claim_88 : decode cX13_claim 88 = .ok (.iload 4, 2) := by decide +kernel
theorem dX13_claim_90 : decode cX13_claim 90 = .ok (.iaload, 1) := by decide +kernel
theorem dX13_claim_91 : decode cX13_claim 91 = .ok (.iconst 3, 1) := by decide +kernel
theorem dX13_claim_92 : decode cX13_claim 92 = .ok (.if_icmp .ne 7, 3) := by decide +kernel
theorem dX13_claim_95 : decode cX13_claim 95 = .ok (.iconst 0, 1) := by decide +kernel
theorem dX13_claim_96 : decode cX13_claim 96 = .ok (.goto 9, 3) := by decide +kernel
theorem dX13_claim_99 : decode cX13_claim 99 = .ok (.aload_n 0, 1) := by decide +kernel
theorem dX13_claim_100 : decode cX13_claim 100 = .ok (.iload 4, 2) := by decide +kernel
theorem dX13_claim_102 : decode cX13_claim 102 = .ok (.invokevirtual 408, 3) := by decide +kernel
theorem dX13_claim_105 : decode cX13_claim 105 = .ok (.iadd, 1) := by decide +kernel
theorem dX13_claim_106 : decode cX13_claim 106 = .ok (.iastore, 1) := by decide +kernel
theorem dX13_claim_107 : decode cX13_claim 107 = .ok (.iinc 4 1, 3) := by decide +kernel
theorem dX13_claim_110 : decode cX13_claim 110 = .ok (.goto (-57), 3) := by decide +kernel
theorem dX13_claim_113 : decode cX13_claim 113 = .ok (.iconst 0, 1) := by decide +kernel
theorem dX13_claim_114 : decode cX13_claim 114 = .ok (.istore 4, 2) := by decide +kernel
theorem dX13_claim_116 : decode cX13_claim 116 = .ok (.iconst 1, 1) := by decide +kernel
theorem dX13_claim_117 : decode cX13_claim 117 = .ok (.istore 5, 2) := by decide +kernel
theorem dX13_claim_119 : decode cX13_claim 119 = .ok (.iload 5, 2) := by decide +kernel
theorem dX13_claim_121 : decode cX13_claim 121 = .ok (.aload_n 0, 1) := by decide +kernel
theorem dX13_claim_122 : decode cX13_claim 122 = .ok (.getfield 397, 3) := by decide +kernel
theorem dX13_claim_125 : decode cX13_claim 125 = .ok (.getfield 227, 3) := by decide +kernel
theorem dX13_claim_128 : decode cX13_claim 128 = .ok (.if_icmp .ge 30, 3) := by decide +kernel
theorem dX13_claim_131 : decode cX13_claim 131 = .ok (.aload_n 0, 1) := by decide +kernel
theorem dX13_claim_132 : decode cX13_claim 132 = .ok (.getfield 33, 3) := by decide +kernel
theorem dX13_claim_135 : decode cX13_claim 135 = .ok (.iload 5, 2) := by decide +kernel
theorem dX13_claim_137 : decode cX13_claim 137 = .ok (.iaload, 1) := by decide +kernel
theorem dX13_claim_138 : decode cX13_claim 138 = .ok (.aload_n 0, 1) := by decide +kernel
theorem dX13_claim_139 : decode cX13_claim 139 = .ok (.getfield 33, 3) := by decide +kernel
theorem dX13_claim_142 : decode cX13_claim 142 = .ok (.iload 4, 2) := by decide +kernel
theorem dX13_claim_144 : decode cX13_claim 144 = .ok (.iaload, 1) := by decide +kernel
theorem dX13_claim_145 : decode cX13_claim 145 = .ok (.if_icmp .le 7, 3) := by decide +kernel
theorem dX13_claim_148 : decode cX13_claim 148 = .ok (.iload 5, 2) := by decide +kernel
theorem dX13_claim_150 : decode cX13_claim 150 = .ok (.istore 4, 2) := by decide +kernel
theorem dX13_claim_152 : decode cX13_claim 152 = .ok (.iinc 5 1, 3) := by decide +kernel
theorem dX13_claim_155 : decode cX13_claim 155 = .ok (.goto (-36), 3) := by decide +kernel
theorem dX13_claim_158 : decode cX13_claim 158 = .ok (.iconst 0, 1) := by decide +kernel
theorem dX13_claim_159 : decode cX13_claim 159 = .ok (.istore 5, 2) := by decide +kernel
theorem dX13_claim_161 : decode cX13_claim 161 = .ok (.iload 5, 2) := by decide +kernel
theorem dX13_claim_163 : decode cX13_claim 163 = .ok (.aload_n 0, 1) := by decide +kernel
theorem dX13_claim_164 : decode cX13_claim 164 = .ok (.getfield 397, 3) := by decide +kernel
theorem dX13_claim_167 : decode cX13_claim 167 = .ok (.getfield 227, 3) := by decide +kernel
theorem dX13_claim_170 : decode cX13_claim 170 = .ok (.if_icmp .ge 40, 3) := by decide +kernel
theorem dX13_claim_173 : decode cX13_claim 173 = .ok (.iload 5, 2) := by decide +kernel
theorem dX13_claim_175 : decode cX13_claim 175 = .ok (.iload 4, 2) := by decide +kernel
theorem dX13_claim_177 : decode cX13_claim 177 = .ok (.if_icmp .eq 27, 3) := by decide +kernel
theorem dX13_claim_180 : decode cX13_claim 180 = .ok (.aload_n 0, 1) := by decide +kernel
theorem dX13_claim_181 : decode cX13_claim 181 = .ok (.getfield 33, 3) := by decide +kernel
theorem dX13_claim_184 : decode cX13_claim 184 = .ok (.iload 5, 2) := by decide +kernel
theorem dX13_claim_186 : decode cX13_claim 186 = .ok (.iaload, 1) := by decide +kernel
theorem dX13_claim_187 : decode cX13_claim 187 = .ok (.aload_n 0, 1) := by decide +kernel
theorem dX13_claim_188 : decode cX13_claim 188 = .ok (.getfield 33, 3) := by decide +kernel
theorem dX13_claim_191 : decode cX13_claim 191 = .ok (.iload 4, 2) := by decide +kernel
theorem dX13_claim_193 : decode cX13_claim 193 = .ok (.iaload, 1) := by decide +kernel
theorem dX13_claim_194 : decode cX13_claim 194 = .ok (.if_icmp .ne 10, 3) := by decide +kernel
theorem dX13_claim_197 : decode cX13_claim 197 = .ok (.aload_n 0, 1) := by decide +kernel
theorem dX13_claim_198 : decode cX13_claim 198 = .ok (.bipush (-2), 2) := by decide +kernel
theorem dX13_claim_200 : decode cX13_claim 200 = .ok (.invokevirtual 82, 3) := by decide +kernel
theorem dX13_claim_203 : decode cX13_claim 203 = .ok (.ireturn, 1) := by decide +kernel
theorem dX13_claim_204 : decode cX13_claim 204 = .ok (.iinc 5 1, 3) := by decide +kernel
theorem dX13_claim_207 : decode cX13_claim 207 = .ok (.goto (-46), 3) := by decide +kernel
theorem dX13_claim_210 : decode cX13_claim 210 = .ok (.aload_n 0, 1) := by decide +kernel
theorem dX13_claim_211 : decode cX13_claim 211 = .ok (.aload_n 0, 1) := by decide +kernel
theorem dX13_claim_212 : decode cX13_claim 212 = .ok (.getfield 33, 3) := by decide +kernel
theorem dX13_claim_215 : decode cX13_claim 215 = .ok (.iload 4, 2) := by decide +kernel
theorem dX13_claim_217 : decode cX13_claim 217 = .ok (.iaload, 1) := by decide +kernel
theorem dX13_claim_218 : decode cX13_claim 218 = .ok (.ifCond .ne 8, 3) := by decide +kernel
theorem dX13_claim_221 : decode cX13_claim 221 = .ok (.bipush (-2), 2) := by decide +kernel
theorem dX13_claim_223 : decode cX13_claim 223 = .ok (.goto 5, 3) := by decide +kernel
theorem dX13_claim_226 : decode cX13_claim 226 = .ok (.iload 4, 2) := by decide +kernel
theorem dX13_claim_228 : decode cX13_claim 228 = .ok (.invokevirtual 82, 3) := by decide +kernel
theorem dX13_claim_231 : decode cX13_claim 231 = .ok (.ireturn, 1) := by decide +kernel
theorem dX13_gone_0 : decode cX13_gone 0 = .ok (.aload_n 0, 1) := by decide +kernel
theorem dX13_gone_1 : decode cX13_gone 1 = .ok (.iconst 0, 1) := by decide +kernel
theorem dX13_gone_2 : decode cX13_gone 2 = .ok (.putfield 72, 3) := by decide +kernel
theorem dX13_gone_5 : decode cX13_gone 5 = .ok (.aload_n 0, 1) := by decide +kernel
theorem dX13_gone_6 : decode cX13_gone 6 = .ok (.iload_n 1, 1) := by decide +kernel
theorem dX13_gone_7 : decode cX13_gone 7 = .ok (.invokevirtual 425, 3) := by decide +kernel
theorem dX13_gone_10 : decode cX13_gone 10 = .ok (.ifCond .eq 11, 3) := by decide +kernel
theorem dX13_gone_13 : decode cX13_gone 13 = .ok (.aload_n 0, 1) := by decide +kernel
theorem dX13_gone_14 : decode cX13_gone 14 = .ok (.iload_n 2, 1) := by decide +kernel
theorem dX13_gone_15 : decode cX13_gone 15 = .ok (.invokevirtual 419, 3) := by decide +kernel
theorem dX13_gone_18 : decode cX13_gone 18 = .ok (.ifCond .ne 9, 3) := by decide +kernel
theorem dX13_gone_21 : decode cX13_gone 21 = .ok (.aload_n 0, 1) := by decide +kernel
theorem dX13_gone_22 : decode cX13_gone 22 = .ok (.iconst 1, 1) := by decide +kernel
theorem dX13_gone_23 : decode cX13_gone 23 = .ok (.invokevirtual 78, 3) := by decide +kernel
theorem dX13_gone_26 : decode cX13_gone 26 = .ok (.ireturn, 1) := by decide +kernel
theorem dX13_gone_27 : decode cX13_gone 27 = .ok (.aload_n 0, 1) := by decide +kernel
theorem dX13_gone_28 : decode cX13_gone 28 = .ok (.iload_n 1, 1) := by decide +kernel
theorem dX13_gone_29 : decode cX13_gone 29 = .ok (.invokevirtual 428, 3) := by decide +kernel
theorem dX13_gone_32 : decode cX13_gone 32 = .ok (.iconst 0, 1) := by decide +kernel
theorem dX13_gone_33 : decode cX13_gone 33 = .ok (.istore_n 3, 1) := by decide +kernel
theorem dX13_gone_34 : decode cX13_gone 34 = .ok (.aload_n 0, 1) := by decide +kernel
theorem dX13_gone_35 : decode cX13_gone 35 = .ok (.getfield 27, 3) := by decide +kernel
theorem dX13_gone_38 : decode cX13_gone 38 = .ok (.iload_n 2, 1) := by decide +kernel
theorem dX13_gone_39 : decode cX13_gone 39 = .ok (.iaload, 1) := by decide +kernel
theorem dX13_gone_40 : decode cX13_gone 40 = .ok (.iconst 1, 1) := by decide +kernel
theorem dX13_gone_41 : decode cX13_gone 41 = .ok (.if_icmp .le 14, 3) := by decide +kernel
theorem dX13_gone_44 : decode cX13_gone 44 = .ok (.aload_n 0, 1) := by decide +kernel
theorem dX13_gone_45 : decode cX13_gone 45 = .ok (.iconst 1, 1) := by decide +kernel
theorem dX13_gone_46 : decode cX13_gone 46 = .ok (.invokevirtual 431, 3) := by decide +kernel
theorem dX13_gone_49 : decode cX13_gone 49 = .ok (.iinc 3 1, 3) := by decide +kernel
theorem dX13_gone_52 : decode cX13_gone 52 = .ok (.goto (-18), 3) := by decide +kernel
theorem dX13_gone_55 : decode cX13_gone 55 = .ok (.aload_n 0, 1) := by decide +kernel
theorem dX13_gone_56 : decode cX13_gone 56 = .ok (.iload_n 3, 1) := by decide +kernel
theorem dX13_gone_57 : decode cX13_gone 57 = .ok (.invokevirtual 82, 3) := by decide +kernel
theorem dX13_gone_60 : decode cX13_gone 60 = .ok (.ireturn, 1) := by decide +kernel
theorem dX13_mustWait_0 : decode cX13_mustWait 0 = .ok (.aload_n 0, 1) := by decide +kernel
theorem dX13_mustWait_1 : decode cX13_mustWait 1 = .ok (.iconst 0, 1) := by decide +kernel
theorem dX13_mustWait_2 : decode cX13_mustWait 2 = .ok (.putfield 72, 3) := by decide +kernel
theorem dX13_mustWait_5 : decode cX13_mustWait 5 = .ok (.aload_n 0, 1) := by decide +kernel
theorem dX13_mustWait_6 : decode cX13_mustWait 6 = .ok (.iload_n 1, 1) := by decide +kernel
theorem dX13_mustWait_7 : decode cX13_mustWait 7 = .ok (.invokevirtual 425, 3) := by decide +kernel
theorem dX13_mustWait_10 : decode cX13_mustWait 10 = .ok (.ifCond .eq 11, 3) := by decide +kernel
theorem dX13_mustWait_13 : decode cX13_mustWait 13 = .ok (.aload_n 0, 1) := by decide +kernel
theorem dX13_mustWait_14 : decode cX13_mustWait 14 = .ok (.iload_n 2, 1) := by decide +kernel
theorem dX13_mustWait_15 : decode cX13_mustWait 15 = .ok (.invokevirtual 422, 3) := by decide +kernel
theorem dX13_mustWait_18 : decode cX13_mustWait 18 = .ok (.ifCond .ne 9, 3) := by decide +kernel
theorem dX13_mustWait_21 : decode cX13_mustWait 21 = .ok (.aload_n 0, 1) := by decide +kernel
theorem dX13_mustWait_22 : decode cX13_mustWait 22 = .ok (.iconst 1, 1) := by decide +kernel
theorem dX13_mustWait_23 : decode cX13_mustWait 23 = .ok (.invokevirtual 78, 3) := by decide +kernel
theorem dX13_mustWait_26 : decode cX13_mustWait 26 = .ok (.ireturn, 1) := by decide +kernel
theorem dX13_mustWait_27 : decode cX13_mustWait 27 = .ok (.aload_n 0, 1) := by decide +kernel
theorem dX13_mustWait_28 : decode cX13_mustWait 28 = .ok (.iload_n 1, 1) := by decide +kernel
theorem dX13_mustWait_29 : decode cX13_mustWait 29 = .ok (.invokevirtual 428, 3) := by decide +kernel
theorem dX13_mustWait_32 : decode cX13_mustWait 32 = .ok (.aload_n 0, 1) := by decide +kernel
theorem dX13_mustWait_33 : decode cX13_mustWait 33 = .ok (.invokevirtual 433, 3) := by decide +kernel
theorem dX13_mustWait_36 : decode cX13_mustWait 36 = .ok (.iconst 0, 1) := by decide +kernel
theorem dX13_mustWait_37 : decode cX13_mustWait 37 = .ok (.istore_n 3, 1) := by decide +kernel
theorem dX13_mustWait_38 : decode cX13_mustWait 38 = .ok (.iload_n 3, 1) := by decide +kernel
theorem dX13_mustWait_39 : decode cX13_mustWait 39 = .ok (.sipush 200, 3) := by decide +kernel
theorem dX13_mustWait_42 : decode cX13_mustWait 42 = .ok (.if_icmp .ge 29, 3) := by decide +kernel
theorem dX13_mustWait_45 : decode cX13_mustWait 45 = .ok (.aload_n 0, 1) := by decide +kernel
theorem dX13_mustWait_46 : decode cX13_mustWait 46 = .ok (.iload_n 1, 1) := by decide +kernel
theorem dX13_mustWait_47 : decode cX13_mustWait 47 = .ok (.iload_n 2, 1) := by decide +kernel
theorem dX13_mustWait_48 : decode cX13_mustWait 48 = .ok (.invokevirtual 442, 3) := by decide +kernel
theorem dX13_mustWait_51 : decode cX13_mustWait 51 = .ok (.ifCond .ne 9, 3) := by decide +kernel
theorem dX13_mustWait_54 : decode cX13_mustWait 54 = .ok (.aload_n 0, 1) := by decide +kernel
theorem dX13_mustWait_55 : decode cX13_mustWait 55 = .ok (.iload_n 3, 1) := by decide +kernel
theorem dX13_mustWait_56 : decode cX13_mustWait 56 = .ok (.invokevirtual 82, 3) := by decide +kernel
theorem dX13_mustWait_59 : decode cX13_mustWait 59 = .ok (.ireturn, 1) := by decide +kernel
theorem dX13_mustWait_60 : decode cX13_mustWait 60 = .ok (.aload_n 0, 1) := by decide +kernel
theorem dX13_mustWait_61 : decode cX13_mustWait 61 = .ok (.iconst 1, 1) := by decide +kernel
theorem dX13_mustWait_62 : decode cX13_mustWait 62 = .ok (.invokevirtual 431, 3) := by decide +kernel
theorem dX13_mustWait_65 : decode cX13_mustWait 65 = .ok (.iinc 3 1, 3) := by decide +kernel
theorem dX13_mustWait_68 : decode cX13_mustWait 68 = .ok (.goto (-30), 3) := by decide +kernel
theorem dX13_mustWait_71 : decode cX13_mustWait 71 = .ok (.aload_n 0, 1) := by decide +kernel
theorem dX13_mustWait_72 : decode cX13_mustWait 72 = .ok (.sipush 200, 3) := by decide +kernel
theorem dX13_mustWait_75 : decode cX13_mustWait 75 = .ok (.invokevirtual 82, 3) := by decide +kernel
theorem dX13_mustWait_78 : decode cX13_mustWait 78 = .ok (.ireturn, 1) := by decide +kernel
theorem dX13_canWalk_0 : decode cX13_canWalk 0 = .ok (.aload_n 0, 1) := by decide +kernel
theorem dX13_canWalk_1 : decode cX13_canWalk 1 = .ok (.getfield 17, 3) := by decide +kernel
theorem dX13_canWalk_4 : decode cX13_canWalk 4 = .ok (.bipush 24, 2) := by decide +kernel
theorem dX13_canWalk_6 : decode cX13_canWalk 6 = .ok (.iload_n 1, 1) := by decide +kernel
theorem dX13_canWalk_7 : decode cX13_canWalk 7 = .ok (.iadd, 1) := by decide +kernel
theorem dX13_canWalk_8 : decode cX13_canWalk 8 = .ok (.iaload, 1) := by decide +kernel
theorem dX13_canWalk_9 : decode cX13_canWalk 9 = .ok (.istore_n 2, 1) := by decide +kernel
theorem dX13_canWalk_10 : decode cX13_canWalk 10 = .ok (.iconst 0, 1) := by decide +kernel
theorem dX13_canWalk_11 : decode cX13_canWalk 11 = .ok (.istore_n 3, 1) := by decide +kernel
theorem dX13_canWalk_12 : decode cX13_canWalk 12 = .ok (.iload_n 3, 1) := by decide +kernel
theorem dX13_canWalk_13 : decode cX13_canWalk 13 = .ok (.aload_n 0, 1) := by decide +kernel
theorem dX13_canWalk_14 : decode cX13_canWalk 14 = .ok (.getfield 397, 3) := by decide +kernel
theorem dX13_canWalk_17 : decode cX13_canWalk 17 = .ok (.getfield 370, 3) := by decide +kernel
theorem dX13_canWalk_20 : decode cX13_canWalk 20 = .ok (.iload_n 1, 1) := by decide +kernel
theorem dX13_canWalk_21 : decode cX13_canWalk 21 = .ok (.iaload, 1) := by decide +kernel
theorem dX13_canWalk_22 : decode cX13_canWalk 22 = .ok (.if_icmp .ge 47, 3) := by decide +kernel
theorem dX13_canWalk_25 : decode cX13_canWalk 25 = .ok (.aload_n 0, 1) := by decide +kernel
theorem dX13_canWalk_26 : decode cX13_canWalk 26 = .ok (.getfield 397, 3) := by decide +kernel
theorem dX13_canWalk_29 : decode cX13_canWalk 29 = .ok (.getfield 373, 3) := by decide +kernel
theorem dX13_canWalk_32 : decode cX13_canWalk 32 = .ok (.iconst 5, 1) := by decide +kernel
theorem dX13_canWalk_33 : decode cX13_canWalk 33 = .ok (.iload_n 1, 1) := by decide +kernel
theorem dX13_canWalk_34 : decode cX13_canWalk 34 = .ok (.imul, 1) := by decide +kernel
theorem dX13_canWalk_35 : decode cX13_canWalk 35 = .ok (.iload_n 3, 1) := by decide +kernel
theorem dX13_canWalk_36 : decode cX13_canWalk 36 = .ok (.iadd, 1) := by decide +kernel
theorem dX13_canWalk_37 : decode cX13_canWalk 37 = .ok (.iaload, 1) := by decide +kernel
theorem dX13_canWalk_38 : decode cX13_canWalk 38 = .ok (.istore 4, 2) := by decide +kernel
theorem dX13_canWalk_40 : decode cX13_canWalk 40 = .ok (.aload_n 0, 1) := by decide +kernel
theorem dX13_canWalk_41 : decode cX13_canWalk 41 = .ok (.getfield 397, 3) := by decide +kernel
theorem dX13_canWalk_44 : decode cX13_canWalk 44 = .ok (.getfield 334, 3) := by decide +kernel
theorem dX13_canWalk_47 : decode cX13_canWalk 47 = .ok (.bipush 6, 2) := by decide +kernel
theorem dX13_canWalk_49 : decode cX13_canWalk 49 = .ok (.iload_n 2, 1) := by decide +kernel
theorem dX13_canWalk_50 : decode cX13_canWalk 50 = .ok (.imul, 1) := by decide +kernel
theorem dX13_canWalk_51 : decode cX13_canWalk 51 = .ok (.iload 4, 2) := by decide +kernel
theorem dX13_canWalk_53 : decode cX13_canWalk 53 = .ok (.iadd, 1) := by decide +kernel
theorem dX13_canWalk_54 : decode cX13_canWalk 54 = .ok (.iaload, 1) := by decide +kernel
theorem dX13_canWalk_55 : decode cX13_canWalk 55 = .ok (.ifCond .ne 5, 3) := by decide +kernel
theorem dX13_canWalk_58 : decode cX13_canWalk 58 = .ok (.iconst 0, 1) := by decide +kernel
theorem dX13_canWalk_59 : decode cX13_canWalk 59 = .ok (.ireturn, 1) := by decide +kernel
theorem dX13_canWalk_60 : decode cX13_canWalk 60 = .ok (.iload 4, 2) := by decide +kernel
theorem dX13_canWalk_62 : decode cX13_canWalk 62 = .ok (.istore_n 2, 1) := by decide +kernel
theorem dX13_canWalk_63 : decode cX13_canWalk 63 = .ok (.iinc 3 1, 3) := by decide +kernel
theorem dX13_canWalk_66 : decode cX13_canWalk 66 = .ok (.goto (-54), 3) := by decide +kernel
theorem dX13_canWalk_69 : decode cX13_canWalk 69 = .ok (.iconst 1, 1) := by decide +kernel
theorem dX13_canWalk_70 : decode cX13_canWalk 70 = .ok (.ireturn, 1) := by decide +kernel
theorem dX13_walks_0 : decode cX13_walks 0 = .ok (.aload_n 0, 1) := by decide +kernel
theorem dX13_walks_1 : decode cX13_walks 1 = .ok (.getfield 17, 3) := by decide +kernel
theorem dX13_walks_4 : decode cX13_walks 4 = .ok (.bipush 24, 2) := by decide +kernel
theorem dX13_walks_6 : decode cX13_walks 6 = .ok (.iload_n 1, 1) := by decide +kernel
theorem dX13_walks_7 : decode cX13_walks 7 = .ok (.iadd, 1) := by decide +kernel
theorem dX13_walks_8 : decode cX13_walks 8 = .ok (.iaload, 1) := by decide +kernel
theorem dX13_walks_9 : decode cX13_walks 9 = .ok (.istore_n 2, 1) := by decide +kernel
theorem dX13_walks_10 : decode cX13_walks 10 = .ok (.iconst 0, 1) := by decide +kernel
theorem dX13_walks_11 : decode cX13_walks 11 = .ok (.istore_n 3, 1) := by decide +kernel
theorem dX13_walks_12 : decode cX13_walks 12 = .ok (.aload_n 0, 1) := by decide +kernel
theorem dX13_walks_13 : decode cX13_walks 13 = .ok (.iload_n 1, 1) := by decide +kernel
theorem dX13_walks_14 : decode cX13_walks 14 = .ok (.invokevirtual 428, 3) := by decide +kernel
theorem dX13_walks_17 : decode cX13_walks 17 = .ok (.iconst 0, 1) := by decide +kernel
theorem dX13_walks_18 : decode cX13_walks 18 = .ok (.istore 4, 2) := by decide +kernel
theorem dX13_walks_20 : decode cX13_walks 20 = .ok (.iload 4, 2) := by decide +kernel
theorem dX13_walks_22 : decode cX13_walks 22 = .ok (.aload_n 0, 1) := by decide +kernel
theorem dX13_walks_23 : decode cX13_walks 23 = .ok (.getfield 397, 3) := by decide +kernel
theorem dX13_walks_26 : decode cX13_walks 26 = .ok (.getfield 370, 3) := by decide +kernel
theorem dX13_walks_29 : decode cX13_walks 29 = .ok (.iload_n 1, 1) := by decide +kernel
theorem dX13_walks_30 : decode cX13_walks 30 = .ok (.iaload, 1) := by decide +kernel
theorem dX13_walks_31 : decode cX13_walks 31 = .ok (.if_icmp .ge 71, 3) := by decide +kernel
theorem dX13_walks_34 : decode cX13_walks 34 = .ok (.aload_n 0, 1) := by decide +kernel
theorem dX13_walks_35 : decode cX13_walks 35 = .ok (.getfield 397, 3) := by decide +kernel
theorem dX13_walks_38 : decode cX13_walks 38 = .ok (.getfield 373, 3) := by decide +kernel
theorem dX13_walks_41 : decode cX13_walks 41 = .ok (.iconst 5, 1) := by decide +kernel
theorem dX13_walks_42 : decode cX13_walks 42 = .ok (.iload_n 1, 1) := by decide +kernel
theorem dX13_walks_43 : decode cX13_walks 43 = .ok (.imul, 1) := by decide +kernel
theorem dX13_walks_44 : decode cX13_walks 44 = .ok (.iload 4, 2) := by decide +kernel
theorem dX13_walks_46 : decode cX13_walks 46 = .ok (.iadd, 1) := by decide +kernel
theorem dX13_walks_47 : decode cX13_walks 47 = .ok (.iaload, 1) := by decide +kernel
theorem dX13_walks_48 : decode cX13_walks 48 = .ok (.istore 5, 2) := by decide +kernel
theorem dX13_walks_50 : decode cX13_walks 50 = .ok (.aload_n 0, 1) := by decide +kernel
theorem dX13_walks_51 : decode cX13_walks 51 = .ok (.aload_n 0, 1) := by decide +kernel
theorem dX13_walks_52 : decode cX13_walks 52 = .ok (.getfield 397, 3) := by decide +kernel
theorem dX13_walks_55 : decode cX13_walks 55 = .ok (.getfield 334, 3) := by decide +kernel
theorem dX13_walks_58 : decode cX13_walks 58 = .ok (.bipush 6, 2) := by decide +kernel
theorem dX13_walks_60 : decode cX13_walks 60 = .ok (.iload_n 2, 1) := by decide +kernel
theorem dX13_walks_61 : decode cX13_walks 61 = .ok (.imul, 1) := by decide +kernel
theorem dX13_walks_62 : decode cX13_walks 62 = .ok (.iload 5, 2) := by decide +kernel
theorem dX13_walks_64 : decode cX13_walks 64 = .ok (.iadd, 1) := by decide +kernel
theorem dX13_walks_65 : decode cX13_walks 65 = .ok (.iaload, 1) := by decide +kernel
theorem dX13_walks_66 : decode cX13_walks 66 = .ok (.invokevirtual 431, 3) := by decide +kernel
theorem dX13_walks_69 : decode cX13_walks 69 = .ok (.aload_n 0, 1) := by decide +kernel
theorem dX13_walks_70 : decode cX13_walks 70 = .ok (.getfield 36, 3) := by decide +kernel
theorem dX13_walks_73 : decode cX13_walks 73 = .ok (.iload 4, 2) := by decide +kernel
theorem dX13_walks_75 : decode cX13_walks 75 = .ok (.aload_n 0, 1) := by decide +kernel
theorem dX13_walks_76 : decode cX13_walks 76 = .ok (.iload_n 1, 1) := by decide +kernel
theorem dX13_walks_77 : decode cX13_walks 77 = .ok (.iload 5, 2) := by decide +kernel
theorem dX13_walks_79 : decode cX13_walks 79 = .ok (.invokevirtual 442, 3) := by decide +kernel
theorem dX13_walks_82 : decode cX13_walks 82 = .ok (.iastore, 1) := by decide +kernel
theorem dX13_walks_83 : decode cX13_walks 83 = .ok (.iload_n 3, 1) := by decide +kernel
theorem dX13_walks_84 : decode cX13_walks 84 = .ok (.aload_n 0, 1) := by decide +kernel
theorem dX13_walks_85 : decode cX13_walks 85 = .ok (.getfield 36, 3) := by decide +kernel
theorem dX13_walks_88 : decode cX13_walks 88 = .ok (.iload 4, 2) := by decide +kernel
theorem dX13_walks_90 : decode cX13_walks 90 = .ok (.iaload, 1) := by decide +kernel
theorem dX13_walks_91 : decode cX13_walks 91 = .ok (.iadd, 1) := by decide +kernel
theorem dX13_walks_92 : decode cX13_walks 92 = .ok (.istore_n 3, 1) := by decide +kernel
theorem dX13_walks_93 : decode cX13_walks 93 = .ok (.iload 5, 2) := by decide +kernel
theorem dX13_walks_95 : decode cX13_walks 95 = .ok (.istore_n 2, 1) := by decide +kernel
theorem dX13_walks_96 : decode cX13_walks 96 = .ok (.iinc 4 1, 3) := by decide +kernel
theorem dX13_walks_99 : decode cX13_walks 99 = .ok (.goto (-79), 3) := by decide +kernel
theorem dX13_walks_102 : decode cX13_walks 102 = .ok (.iload_n 3, 1) := by decide +kernel
theorem dX13_walks_103 : decode cX13_walks 103 = .ok (.ireturn, 1) := by decide +kernel
theorem dX13_walked_0 : decode cX13_walked 0 = .ok (.aload_n 0, 1) := by decide +kernel
theorem dX13_walked_1 : decode cX13_walked 1 = .ok (.iconst 0, 1) := by decide +kernel
theorem dX13_walked_2 : decode cX13_walked 2 = .ok (.putfield 72, 3) := by decide +kernel
theorem dX13_walked_5 : decode cX13_walked 5 = .ok (.aload_n 0, 1) := by decide +kernel
theorem dX13_walked_6 : decode cX13_walked 6 = .ok (.iload_n 1, 1) := by decide +kernel
theorem dX13_walked_7 : decode cX13_walked 7 = .ok (.invokevirtual 425, 3) := by decide +kernel
theorem dX13_walked_10 : decode cX13_walked 10 = .ok (.ifCond .ne 9, 3) := by decide +kernel
theorem dX13_walked_13 : decode cX13_walked 13 = .ok (.aload_n 0, 1) := by decide +kernel
theorem dX13_walked_14 : decode cX13_walked 14 = .ok (.iconst 1, 1) := by decide +kernel
theorem dX13_walked_15 : decode cX13_walked 15 = .ok (.invokevirtual 78, 3) := by decide +kernel
theorem dX13_walked_18 : decode cX13_walked 18 = .ok (.ireturn, 1) := by decide +kernel
theorem dX13_walked_19 : decode cX13_walked 19 = .ok (.aload_n 0, 1) := by decide +kernel
theorem dX13_walked_20 : decode cX13_walked 20 = .ok (.getfield 397, 3) := by decide +kernel
theorem dX13_walked_23 : decode cX13_walked 23 = .ok (.getfield 370, 3) := by decide +kernel
theorem dX13_walked_26 : decode cX13_walked 26 = .ok (.iload_n 1, 1) := by decide +kernel
theorem dX13_walked_27 : decode cX13_walked 27 = .ok (.iaload, 1) := by decide +kernel
theorem dX13_walked_28 : decode cX13_walked 28 = .ok (.ifCond .ne 10, 3) := by decide +kernel
theorem dX13_walked_31 : decode cX13_walked 31 = .ok (.aload_n 0, 1) := by decide +kernel
theorem dX13_walked_32 : decode cX13_walked 32 = .ok (.bipush 6, 2) := by decide +kernel
theorem dX13_walked_34 : decode cX13_walked 34 = .ok (.invokevirtual 78, 3) := by decide +kernel
theorem dX13_walked_37 : decode cX13_walked 37 = .ok (.ireturn, 1) := by decide +kernel
theorem dX13_walked_38 : decode cX13_walked 38 = .ok (.aload_n 0, 1) := by decide +kernel
theorem dX13_walked_39 : decode cX13_walked 39 = .ok (.invokevirtual 433, 3) := by decide +kernel
theorem dX13_walked_42 : decode cX13_walked 42 = .ok (.aload_n 0, 1) := by decide +kernel
theorem dX13_walked_43 : decode cX13_walked 43 = .ok (.aload_n 0, 1) := by decide +kernel
theorem dX13_walked_44 : decode cX13_walked 44 = .ok (.iload_n 1, 1) := by decide +kernel
theorem dX13_walked_45 : decode cX13_walked 45 = .ok (.invokevirtual 445, 3) := by decide +kernel
theorem dX13_walked_48 : decode cX13_walked 48 = .ok (.ifCond .eq 11, 3) := by decide +kernel
theorem dX13_walked_51 : decode cX13_walked 51 = .ok (.aload_n 0, 1) := by decide +kernel
theorem dX13_walked_52 : decode cX13_walked 52 = .ok (.iload_n 1, 1) := by decide +kernel
theorem dX13_walked_53 : decode cX13_walked 53 = .ok (.invokevirtual 448, 3) := by decide +kernel
theorem dX13_walked_56 : decode cX13_walked 56 = .ok (.goto 5, 3) := by decide +kernel
theorem dX13_walked_59 : decode cX13_walked 59 = .ok (.bipush (-2), 2) := by decide +kernel
theorem dX13_walked_61 : decode cX13_walked 61 = .ok (.invokevirtual 82, 3) := by decide +kernel
theorem dX13_walked_64 : decode cX13_walked 64 = .ok (.ireturn, 1) := by decide +kernel
theorem dX13_walkedAt_0 : decode cX13_walkedAt 0 = .ok (.aload_n 0, 1) := by decide +kernel
theorem dX13_walkedAt_1 : decode cX13_walkedAt 1 = .ok (.iconst 0, 1) := by decide +kernel
theorem dX13_walkedAt_2 : decode cX13_walkedAt 2 = .ok (.putfield 72, 3) := by decide +kernel
theorem dX13_walkedAt_5 : decode cX13_walkedAt 5 = .ok (.aload_n 0, 1) := by decide +kernel
theorem dX13_walkedAt_6 : decode cX13_walkedAt 6 = .ok (.iload_n 1, 1) := by decide +kernel
theorem dX13_walkedAt_7 : decode cX13_walkedAt 7 = .ok (.invokevirtual 425, 3) := by decide +kernel
theorem dX13_walkedAt_10 : decode cX13_walkedAt 10 = .ok (.ifCond .ne 9, 3) := by decide +kernel
theorem dX13_walkedAt_13 : decode cX13_walkedAt 13 = .ok (.aload_n 0, 1) := by decide +kernel
theorem dX13_walkedAt_14 : decode cX13_walkedAt 14 = .ok (.iconst 1, 1) := by decide +kernel
theorem dX13_walkedAt_15 : decode cX13_walkedAt 15 = .ok (.invokevirtual 78, 3) := by decide +kernel
theorem dX13_walkedAt_18 : decode cX13_walkedAt 18 = .ok (.ireturn, 1) := by decide +kernel
theorem dX13_walkedAt_19 : decode cX13_walkedAt 19 = .ok (.aload_n 0, 1) := by decide +kernel
theorem dX13_walkedAt_20 : decode cX13_walkedAt 20 = .ok (.getfield 397, 3) := by decide +kernel
theorem dX13_walkedAt_23 : decode cX13_walkedAt 23 = .ok (.getfield 370, 3) := by decide +kernel
theorem dX13_walkedAt_26 : decode cX13_walkedAt 26 = .ok (.iload_n 1, 1) := by decide +kernel
theorem dX13_walkedAt_27 : decode cX13_walkedAt 27 = .ok (.iaload, 1) := by decide +kernel
theorem dX13_walkedAt_28 : decode cX13_walkedAt 28 = .ok (.ifCond .ne 10, 3) := by decide +kernel
theorem dX13_walkedAt_31 : decode cX13_walkedAt 31 = .ok (.aload_n 0, 1) := by decide +kernel
theorem dX13_walkedAt_32 : decode cX13_walkedAt 32 = .ok (.bipush 6, 2) := by decide +kernel
theorem dX13_walkedAt_34 : decode cX13_walkedAt 34 = .ok (.invokevirtual 78, 3) := by decide +kernel
theorem dX13_walkedAt_37 : decode cX13_walkedAt 37 = .ok (.ireturn, 1) := by decide +kernel
theorem dX13_walkedAt_38 : decode cX13_walkedAt 38 = .ok (.iload_n 2, 1) := by decide +kernel
theorem dX13_walkedAt_39 : decode cX13_walkedAt 39 = .ok (.iconst 0, 1) := by decide +kernel
theorem dX13_walkedAt_40 : decode cX13_walkedAt 40 = .ok (.aload_n 0, 1) := by decide +kernel
theorem dX13_walkedAt_41 : decode cX13_walkedAt 41 = .ok (.getfield 397, 3) := by decide +kernel
theorem dX13_walkedAt_44 : decode cX13_walkedAt 44 = .ok (.getfield 370, 3) := by decide +kernel
theorem dX13_walkedAt_47 : decode cX13_walkedAt 47 = .ok (.iload_n 1, 1) := by decide +kernel
theorem dX13_walkedAt_48 : decode cX13_walkedAt 48 = .ok (.iaload, 1) := by decide +kernel
theorem dX13_walkedAt_49 : decode cX13_walkedAt 49 = .ok (.iconst 1, 1) := by decide +kernel
theorem dX13_walkedAt_50 : decode cX13_walkedAt 50 = .ok (.isub, 1) := by decide +kernel
theorem dX13_walkedAt_51 : decode cX13_walkedAt 51 = .ok (.invokestatic 150, 3) := by decide +kernel
theorem dX13_walkedAt_54 : decode cX13_walkedAt 54 = .ok (.ifCond .ne 9, 3) := by decide +kernel
theorem dX13_walkedAt_57 : decode cX13_walkedAt 57 = .ok (.aload_n 0, 1) := by decide +kernel
theorem dX13_walkedAt_58 : decode cX13_walkedAt 58 = .ok (.iconst 1, 1) := by decide +kernel
theorem dX13_walkedAt_59 : decode cX13_walkedAt 59 = .ok (.invokevirtual 78, 3) := by decide +kernel
theorem dX13_walkedAt_62 : decode cX13_walkedAt 62 = .ok (.ireturn, 1) := by decide +kernel
theorem dX13_walkedAt_63 : decode cX13_walkedAt 63 = .ok (.aload_n 0, 1) := by decide +kernel
theorem dX13_walkedAt_64 : decode cX13_walkedAt 64 = .ok (.iload_n 1, 1) := by decide +kernel
theorem dX13_walkedAt_65 : decode cX13_walkedAt 65 = .ok (.invokevirtual 445, 3) := by decide +kernel
theorem dX13_walkedAt_68 : decode cX13_walkedAt 68 = .ok (.ifCond .ne 9, 3) := by decide +kernel
theorem dX13_walkedAt_71 : decode cX13_walkedAt 71 = .ok (.aload_n 0, 1) := by decide +kernel
theorem dX13_walkedAt_72 : decode cX13_walkedAt 72 = .ok (.iconst 5, 1) := by decide +kernel
theorem dX13_walkedAt_73 : decode cX13_walkedAt 73 = .ok (.invokevirtual 78, 3) := by decide +kernel
theorem dX13_walkedAt_76 : decode cX13_walkedAt 76 = .ok (.ireturn, 1) := by decide +kernel
theorem dX13_walkedAt_77 : decode cX13_walkedAt 77 = .ok (.aload_n 0, 1) := by decide +kernel
theorem dX13_walkedAt_78 : decode cX13_walkedAt 78 = .ok (.invokevirtual 433, 3) := by decide +kernel
theorem dX13_walkedAt_81 : decode cX13_walkedAt 81 = .ok (.aload_n 0, 1) := by decide +kernel
theorem dX13_walkedAt_82 : decode cX13_walkedAt 82 = .ok (.iload_n 1, 1) := by decide +kernel
theorem dX13_walkedAt_83 : decode cX13_walkedAt 83 = .ok (.invokevirtual 448, 3) := by decide +kernel
theorem dX13_walkedAt_86 : decode cX13_walkedAt 86 = .ok (.pop, 1) := by decide +kernel
theorem dX13_walkedAt_87 : decode cX13_walkedAt 87 = .ok (.aload_n 0, 1) := by decide +kernel
theorem dX13_walkedAt_88 : decode cX13_walkedAt 88 = .ok (.aload_n 0, 1) := by decide +kernel
theorem dX13_walkedAt_89 : decode cX13_walkedAt 89 = .ok (.getfield 36, 3) := by decide +kernel
theorem dX13_walkedAt_92 : decode cX13_walkedAt 92 = .ok (.iload_n 2, 1) := by decide +kernel
theorem dX13_walkedAt_93 : decode cX13_walkedAt 93 = .ok (.iaload, 1) := by decide +kernel
theorem dX13_walkedAt_94 : decode cX13_walkedAt 94 = .ok (.invokevirtual 82, 3) := by decide +kernel
theorem dX13_walkedAt_97 : decode cX13_walkedAt 97 = .ok (.ireturn, 1) := by decide +kernel
theorem dX13_judge_0 : decode cX13_judge 0 = .ok (.aload_n 0, 1) := by decide +kernel
theorem dX13_judge_1 : decode cX13_judge 1 = .ok (.iconst 0, 1) := by decide +kernel
theorem dX13_judge_2 : decode cX13_judge 2 = .ok (.putfield 72, 3) := by decide +kernel
theorem dX13_judge_5 : decode cX13_judge 5 = .ok (.aload_n 0, 1) := by decide +kernel
theorem dX13_judge_6 : decode cX13_judge 6 = .ok (.getfield 397, 3) := by decide +kernel
theorem dX13_judge_9 : decode cX13_judge 9 = .ok (.ifnonnull 9, 3) := by decide +kernel
theorem dX13_judge_12 : decode cX13_judge 12 = .ok (.aload_n 0, 1) := by decide +kernel
theorem dX13_judge_13 : decode cX13_judge 13 = .ok (.iconst 1, 1) := by decide +kernel
theorem dX13_judge_14 : decode cX13_judge 14 = .ok (.invokevirtual 78, 3) := by decide +kernel
theorem dX13_judge_17 : decode cX13_judge 17 = .ok (.ireturn, 1) := by decide +kernel
theorem dX13_judge_18 : decode cX13_judge 18 = .ok (.iconst 0, 1) := by decide +kernel
theorem dX13_judge_19 : decode cX13_judge 19 = .ok (.istore_n 1, 1) := by decide +kernel
theorem dX13_judge_20 : decode cX13_judge 20 = .ok (.iload_n 1, 1) := by decide +kernel
theorem dX13_judge_21 : decode cX13_judge 21 = .ok (.aload_n 0, 1) := by decide +kernel
theorem dX13_judge_22 : decode cX13_judge 22 = .ok (.getfield 397, 3) := by decide +kernel
theorem dX13_judge_25 : decode cX13_judge 25 = .ok (.getfield 343, 3) := by decide +kernel
theorem dX13_judge_28 : decode cX13_judge 28 = .ok (.if_icmp .ge 23, 3) := by decide +kernel
theorem dX13_judge_31 : decode cX13_judge 31 = .ok (.aload_n 0, 1) := by decide +kernel
theorem dX13_judge_32 : decode cX13_judge 32 = .ok (.iload_n 1, 1) := by decide +kernel
theorem dX13_judge_33 : decode cX13_judge 33 = .ok (.invokevirtual 445, 3) := by decide +kernel
theorem dX13_judge_36 : decode cX13_judge 36 = .ok (.ifCond .ne 9, 3) := by decide +kernel
theorem dX13_judge_39 : decode cX13_judge 39 = .ok (.aload_n 0, 1) := by decide +kernel
theorem dX13_judge_40 : decode cX13_judge 40 = .ok (.iload_n 1, 1) := by decide +kernel
theorem dX13_judge_41 : decode cX13_judge 41 = .ok (.invokevirtual 82, 3) := by decide +kernel
theorem dX13_judge_44 : decode cX13_judge 44 = .ok (.ireturn, 1) := by decide +kernel
theorem dX13_judge_45 : decode cX13_judge 45 = .ok (.iinc 1 1, 3) := by decide +kernel
theorem dX13_judge_48 : decode cX13_judge 48 = .ok (.goto (-28), 3) := by decide +kernel
theorem dX13_judge_51 : decode cX13_judge 51 = .ok (.aload_n 0, 1) := by decide +kernel
theorem dX13_judge_52 : decode cX13_judge 52 = .ok (.bipush (-2), 2) := by decide +kernel
theorem dX13_judge_54 : decode cX13_judge 54 = .ok (.invokevirtual 82, 3) := by decide +kernel
theorem dX13_judge_57 : decode cX13_judge 57 = .ok (.ireturn, 1) := by decide +kernel
theorem dX13_wrongly_0 : decode cX13_wrongly 0 = .ok (.aload_n 0, 1) := by decide +kernel
theorem dX13_wrongly_1 : decode cX13_wrongly 1 = .ok (.iconst 0, 1) := by decide +kernel
theorem dX13_wrongly_2 : decode cX13_wrongly 2 = .ok (.putfield 72, 3) := by decide +kernel
theorem dX13_wrongly_5 : decode cX13_wrongly 5 = .ok (.aload_n 0, 1) := by decide +kernel
theorem dX13_wrongly_6 : decode cX13_wrongly 6 = .ok (.getfield 397, 3) := by decide +kernel
theorem dX13_wrongly_9 : decode cX13_wrongly 9 = .ok (.ifnonnull 9, 3) := by decide +kernel
theorem dX13_wrongly_12 : decode cX13_wrongly 12 = .ok (.aload_n 0, 1) := by decide +kernel
theorem dX13_wrongly_13 : decode cX13_wrongly 13 = .ok (.iconst 1, 1) := by decide +kernel
theorem dX13_wrongly_14 : decode cX13_wrongly 14 = .ok (.invokevirtual 78, 3) := by decide +kernel
theorem dX13_wrongly_17 : decode cX13_wrongly 17 = .ok (.ireturn, 1) := by decide +kernel
theorem dX13_wrongly_18 : decode cX13_wrongly 18 = .ok (.aload_n 0, 1) := by decide +kernel
theorem dX13_wrongly_19 : decode cX13_wrongly 19 = .ok (.invokevirtual 433, 3) := by decide +kernel
theorem dX13_wrongly_22 : decode cX13_wrongly 22 = .ok (.iconst 0, 1) := by decide +kernel
theorem dX13_wrongly_23 : decode cX13_wrongly 23 = .ok (.istore_n 1, 1) := by decide +kernel
theorem dX13_wrongly_24 : decode cX13_wrongly 24 = .ok (.iload_n 1, 1) := by decide +kernel
theorem dX13_wrongly_25 : decode cX13_wrongly 25 = .ok (.aload_n 0, 1) := by decide +kernel
theorem dX13_wrongly_26 : decode cX13_wrongly 26 = .ok (.getfield 397, 3) := by decide +kernel
theorem dX13_wrongly_29 : decode cX13_wrongly 29 = .ok (.getfield 378, 3) := by decide +kernel
theorem dX13_wrongly_32 : decode cX13_wrongly 32 = .ok (.if_icmp .ge 62, 3) := by decide +kernel
theorem dX13_wrongly_35 : decode cX13_wrongly 35 = .ok (.aload_n 0, 1) := by decide +kernel
theorem dX13_wrongly_36 : decode cX13_wrongly 36 = .ok (.getfield 397, 3) := by decide +kernel
theorem dX13_wrongly_39 : decode cX13_wrongly 39 = .ok (.getfield 381, 3) := by decide +kernel
theorem dX13_wrongly_42 : decode cX13_wrongly 42 = .ok (.iload_n 1, 1) := by decide +kernel
theorem dX13_wrongly_43 : decode cX13_wrongly 43 = .ok (.iaload, 1) := by decide +kernel
theorem dX13_wrongly_44 : decode cX13_wrongly 44 = .ok (.istore_n 2, 1) := by decide +kernel
theorem dX13_wrongly_45 : decode cX13_wrongly 45 = .ok (.aload_n 0, 1) := by decide +kernel
theorem dX13_wrongly_46 : decode cX13_wrongly 46 = .ok (.getfield 397, 3) := by decide +kernel
theorem dX13_wrongly_49 : decode cX13_wrongly 49 = .ok (.getfield 370, 3) := by decide +kernel
theorem dX13_wrongly_52 : decode cX13_wrongly 52 = .ok (.iload_n 2, 1) := by decide +kernel
theorem dX13_wrongly_53 : decode cX13_wrongly 53 = .ok (.iaload, 1) := by decide +kernel
theorem dX13_wrongly_54 : decode cX13_wrongly 54 = .ok (.ifCond .eq 28, 3) := by decide +kernel
theorem dX13_wrongly_57 : decode cX13_wrongly 57 = .ok (.aload_n 0, 1) := by decide +kernel
theorem dX13_wrongly_58 : decode cX13_wrongly 58 = .ok (.iload_n 2, 1) := by decide +kernel
theorem dX13_wrongly_59 : decode cX13_wrongly 59 = .ok (.invokevirtual 445, 3) := by decide +kernel
theorem dX13_wrongly_62 : decode cX13_wrongly 62 = .ok (.ifCond .eq 20, 3) := by decide +kernel
theorem dX13_wrongly_65 : decode cX13_wrongly 65 = .ok (.aload_n 0, 1) := by decide +kernel
theorem dX13_wrongly_66 : decode cX13_wrongly 66 = .ok (.iload_n 2, 1) := by decide +kernel
theorem dX13_wrongly_67 : decode cX13_wrongly 67 = .ok (.invokevirtual 448, 3) := by decide +kernel
theorem dX13_wrongly_70 : decode cX13_wrongly 70 = .ok (.aload_n 0, 1) := by decide +kernel
theorem dX13_wrongly_71 : decode cX13_wrongly 71 = .ok (.getfield 397, 3) := by decide +kernel
theorem dX13_wrongly_74 : decode cX13_wrongly 74 = .ok (.getfield 384, 3) := by decide +kernel
theorem dX13_wrongly_77 : decode cX13_wrongly 77 = .ok (.iload_n 1, 1) := by decide +kernel
theorem dX13_wrongly_78 : decode cX13_wrongly 78 = .ok (.iaload, 1) := by decide +kernel
theorem dX13_wrongly_79 : decode cX13_wrongly 79 = .ok (.if_icmp .eq 9, 3) := by decide +kernel
theorem dX13_wrongly_82 : decode cX13_wrongly 82 = .ok (.aload_n 0, 1) := by decide +kernel
theorem dX13_wrongly_83 : decode cX13_wrongly 83 = .ok (.iload_n 1, 1) := by decide +kernel
theorem dX13_wrongly_84 : decode cX13_wrongly 84 = .ok (.invokevirtual 82, 3) := by decide +kernel
theorem dX13_wrongly_87 : decode cX13_wrongly 87 = .ok (.ireturn, 1) := by decide +kernel
theorem dX13_wrongly_88 : decode cX13_wrongly 88 = .ok (.iinc 1 1, 3) := by decide +kernel
theorem dX13_wrongly_91 : decode cX13_wrongly 91 = .ok (.goto (-67), 3) := by decide +kernel
theorem dX13_wrongly_94 : decode cX13_wrongly 94 = .ok (.aload_n 0, 1) := by decide +kernel
theorem dX13_wrongly_95 : decode cX13_wrongly 95 = .ok (.bipush (-2), 2) := by decide +kernel
theorem dX13_wrongly_97 : decode cX13_wrongly 97 = .ok (.invokevirtual 82, 3) := by decide +kernel
theorem dX13_wrongly_100 : decode cX13_wrongly 100 = .ok (.ireturn, 1) := by decide +kernel
theorem dX13_walksAll_0 : decode cX13_walksAll 0 = .ok (.aload_n 0, 1) := by decide +kernel
theorem dX13_walksAll_1 : decode cX13_walksAll 1 = .ok (.iconst 0, 1) := by decide +kernel
theorem dX13_walksAll_2 : decode cX13_walksAll 2 = .ok (.putfield 450, 3) := by decide +kernel
theorem dX13_walksAll_5 : decode cX13_walksAll 5 = .ok (.iconst 0, 1) := by decide +kernel
theorem dX13_walksAll_6 : decode cX13_walksAll 6 = .ok (.istore_n 3, 1) := by decide +kernel
theorem dX13_walksAll_7 : decode cX13_walksAll 7 = .ok (.iload_n 3, 1) := by decide +kernel
theorem dX13_walksAll_8 : decode cX13_walksAll 8 = .ok (.iconst 3, 1) := by decide +kernel
theorem dX13_walksAll_9 : decode cX13_walksAll 9 = .ok (.if_icmp .ge 16, 3) := by decide +kernel
theorem dX13_walksAll_12 : decode cX13_walksAll 12 = .ok (.aload_n 0, 1) := by decide +kernel
theorem dX13_walksAll_13 : decode cX13_walksAll 13 = .ok (.getfield 45, 3) := by decide +kernel
theorem dX13_walksAll_16 : decode cX13_walksAll 16 = .ok (.iload_n 3, 1) := by decide +kernel
theorem dX13_walksAll_17 : decode cX13_walksAll 17 = .ok (.iconst 0, 1) := by decide +kernel
theorem dX13_walksAll_18 : decode cX13_walksAll 18 = .ok (.iastore, 1) := by decide +kernel
theorem dX13_walksAll_19 : decode cX13_walksAll 19 = .ok (.iinc 3 1, 3) := by decide +kernel
theorem dX13_walksAll_22 : decode cX13_walksAll 22 = .ok (.goto (-15), 3) := by decide +kernel
theorem dX13_walksAll_25 : decode cX13_walksAll 25 = .ok (.aload_n 0, 1) := by decide +kernel
theorem dX13_walksAll_26 : decode cX13_walksAll 26 = .ok (.getfield 39, 3) := by decide +kernel
theorem dX13_walksAll_29 : decode cX13_walksAll 29 = .ok (.iconst 0, 1) := by decide +kernel
theorem dX13_walksAll_30 : decode cX13_walksAll 30 = .ok (.aload_n 0, 1) := by decide +kernel
theorem dX13_walksAll_31 : decode cX13_walksAll 31 = .ok (.getfield 17, 3) := by decide +kernel
theorem dX13_walksAll_34 : decode cX13_walksAll 34 = .ok (.bipush 24, 2) := by decide +kernel
theorem dX13_walksAll_36 : decode cX13_walksAll 36 = .ok (.iload_n 1, 1) := by decide +kernel
theorem dX13_walksAll_37 : decode cX13_walksAll 37 = .ok (.iadd, 1) := by decide +kernel
theorem dX13_walksAll_38 : decode cX13_walksAll 38 = .ok (.iaload, 1) := by decide +kernel
theorem dX13_walksAll_39 : decode cX13_walksAll 39 = .ok (.iastore, 1) := by decide +kernel
theorem dX13_walksAll_40 : decode cX13_walksAll 40 = .ok (.aload_n 0, 1) := by decide +kernel
theorem dX13_walksAll_41 : decode cX13_walksAll 41 = .ok (.getfield 39, 3) := by decide +kernel
theorem dX13_walksAll_44 : decode cX13_walksAll 44 = .ok (.iconst 0, 1) := by decide +kernel
theorem dX13_walksAll_45 : decode cX13_walksAll 45 = .ok (.iaload, 1) := by decide +kernel
theorem dX13_walksAll_46 : decode cX13_walksAll 46 = .ok (.iload_n 2, 1) := by decide +kernel
theorem dX13_walksAll_47 : decode cX13_walksAll 47 = .ok (.if_icmp .ne 10, 3) := by decide +kernel
theorem dX13_walksAll_50 : decode cX13_walksAll 50 = .ok (.aload_n 0, 1) := by decide +kernel
theorem dX13_walksAll_51 : decode cX13_walksAll 51 = .ok (.iload_n 1, 1) := by decide +kernel
theorem dX13_walksAll_52 : decode cX13_walksAll 52 = .ok (.iconst 1, 1) := by decide +kernel
theorem dX13_walksAll_53 : decode cX13_walksAll 53 = .ok (.invokevirtual 453, 3) := by decide +kernel
theorem dX13_walksAll_56 : decode cX13_walksAll 56 = .ok (.return_, 1) := by decide +kernel
theorem dX13_walksAll_57 : decode cX13_walksAll 57 = .ok (.iconst 1, 1) := by decide +kernel
theorem dX13_walksAll_58 : decode cX13_walksAll 58 = .ok (.aload_n 0, 1) := by decide +kernel
theorem dX13_walksAll_59 : decode cX13_walksAll 59 = .ok (.getfield 39, 3) := by decide +kernel
theorem dX13_walksAll_62 : decode cX13_walksAll 62 = .ok (.iconst 0, 1) := by decide +kernel
theorem dX13_walksAll_63 : decode cX13_walksAll 63 = .ok (.iaload, 1) := by decide +kernel
theorem dX13_walksAll_64 : decode cX13_walksAll 64 = .ok (.ishl, 1) := by decide +kernel
theorem dX13_walksAll_65 : decode cX13_walksAll 65 = .ok (.istore_n 3, 1) := by decide +kernel
theorem dX13_walksAll_66 : decode cX13_walksAll 66 = .ok (.iconst 1, 1) := by decide +kernel
theorem dX13_walksAll_67 : decode cX13_walksAll 67 = .ok (.istore 4, 2) := by decide +kernel
theorem dX13_walksAll_69 : decode cX13_walksAll 69 = .ok (.aload_n 0, 1) := by decide +kernel
theorem dX13_walksAll_70 : decode cX13_walksAll 70 = .ok (.getfield 39, 3) := by decide +kernel
theorem dX13_walksAll_73 : decode cX13_walksAll 73 = .ok (.iconst 1, 1) := by decide +kernel
theorem dX13_walksAll_74 : decode cX13_walksAll 74 = .ok (.iconst (-1), 1) := by decide +kernel
theorem dX13_walksAll_75 : decode cX13_walksAll 75 = .ok (.iastore, 1) := by decide +kernel
theorem dX13_walksAll_76 : decode cX13_walksAll 76 = .ok (.iload 4, 2) := by decide +kernel
theorem dX13_walksAll_78 : decode cX13_walksAll 78 = .ok (.ifCond .le 201, 3) := by decide +kernel
theorem dX13_walksAll_81 : decode cX13_walksAll 81 = .ok (.aload_n 0, 1) := by decide +kernel
theorem dX13_walksAll_82 : decode cX13_walksAll 82 = .ok (.getfield 39, 3) := by decide +kernel
theorem dX13_walksAll_85 : decode cX13_walksAll 85 = .ok (.iload 4, 2) := by decide +kernel
theorem dX13_walksAll_87 : decode cX13_walksAll 87 = .ok (.iaload, 1) := by decide +kernel
theorem dX13_walksAll_88 : decode cX13_walksAll 88 = .ok (.iconst (-1), 1) := by decide +kernel
theorem dX13_walksAll_89 : decode cX13_walksAll 89 = .ok (.if_icmp .eq 17, 3) := by decide +kernel
theorem dX13_walksAll_92 : decode cX13_walksAll 92 = .ok (.iload_n 3, 1) := by decide +kernel
theorem dX13_walksAll_93 : decode cX13_walksAll 93 = .ok (.iconst 1, 1) := by decide +kernel
theorem dX13_walksAll_94 : decode cX13_walksAll 94 = .ok (.aload_n 0, 1) := by decide +kernel
theorem dX13_walksAll_95 : decode cX13_walksAll 95 = .ok (.getfield 39, 3) := by decide +kernel
theorem dX13_walksAll_98 : decode cX13_walksAll 98 = .ok (.iload 4, 2) := by decide +kernel
theorem dX13_walksAll_100 : decode cX13_walksAll 100 = .ok (.iaload, 1) := by decide +kernel
theorem dX13_walksAll_101 : decode cX13_walksAll 101 = .ok (.ishl, 1) := by decide +kernel
theorem dX13_walksAll_102 : decode cX13_walksAll 102 = .ok (.iconst (-1), 1) := by decide +kernel
theorem dX13_walksAll_103 : decode cX13_walksAll 103 = .ok (.ixor, 1) := by decide +kernel
theorem dX13_walksAll_104 : decode cX13_walksAll 104 = .ok (.iand, 1) := by decide +kernel
theorem dX13_walksAll_105 : decode cX13_walksAll 105 = .ok (.istore_n 3, 1) := by decide +kernel
theorem dX13_walksAll_106 : decode cX13_walksAll 106 = .ok (.aload_n 0, 1) := by decide +kernel
theorem dX13_walksAll_107 : decode cX13_walksAll 107 = .ok (.getfield 39, 3) := by decide +kernel
theorem dX13_walksAll_110 : decode cX13_walksAll 110 = .ok (.iload 4, 2) := by decide +kernel
theorem dX13_walksAll_112 : decode cX13_walksAll 112 = .ok (.dup2, 1) := by decide +kernel
theorem dX13_walksAll_113 : decode cX13_walksAll 113 = .ok (.iaload, 1) := by decide +kernel
theorem dX13_walksAll_114 : decode cX13_walksAll 114 = .ok (.iconst 1, 1) := by decide +kernel
theorem dX13_walksAll_115 : decode cX13_walksAll 115 = .ok (.iadd, 1) := by decide +kernel
theorem dX13_walksAll_116 : decode cX13_walksAll 116 = .ok (.iastore, 1) := by decide +kernel
theorem dX13_walksAll_117 : decode cX13_walksAll 117 = .ok (.aload_n 0, 1) := by decide +kernel
theorem dX13_walksAll_118 : decode cX13_walksAll 118 = .ok (.getfield 39, 3) := by decide +kernel
theorem dX13_walksAll_121 : decode cX13_walksAll 121 = .ok (.iload 4, 2) := by decide +kernel
theorem dX13_walksAll_123 : decode cX13_walksAll 123 = .ok (.iaload, 1) := by decide +kernel
theorem dX13_walksAll_124 : decode cX13_walksAll 124 = .ok (.aload_n 0, 1) := by decide +kernel
theorem dX13_walksAll_125 : decode cX13_walksAll 125 = .ok (.getfield 397, 3) := by decide +kernel
theorem dX13_walksAll_128 : decode cX13_walksAll 128 = .ok (.getfield 230, 3) := by decide +kernel
theorem dX13_walksAll_131 : decode cX13_walksAll 131 = .ok (.if_icmp .ge 62, 3) := by decide +kernel
theorem dX13_walksAll_134 : decode cX13_walksAll 134 = .ok (.iload_n 3, 1) := by decide +kernel
theorem dX13_walksAll_135 : decode cX13_walksAll 135 = .ok (.aload_n 0, 1) := by decide +kernel
theorem dX13_walksAll_136 : decode cX13_walksAll 136 = .ok (.getfield 39, 3) := by decide +kernel
theorem dX13_walksAll_139 : decode cX13_walksAll 139 = .ok (.iload 4, 2) := by decide +kernel
theorem dX13_walksAll_141 : decode cX13_walksAll 141 = .ok (.iaload, 1) := by decide +kernel
theorem dX13_walksAll_142 : decode cX13_walksAll 142 = .ok (.invokestatic 456, 3) := by decide +kernel
theorem dX13_walksAll_145 : decode cX13_walksAll 145 = .ok (.ifCond .ne 34, 3) := by decide +kernel
theorem dX13_walksAll_148 : decode cX13_walksAll 148 = .ok (.aload_n 0, 1) := by decide +kernel
theorem dX13_walksAll_149 : decode cX13_walksAll 149 = .ok (.getfield 397, 3) := by decide +kernel
theorem dX13_walksAll_152 : decode cX13_walksAll 152 = .ok (.getfield 334, 3) := by decide +kernel
theorem dX13_walksAll_155 : decode cX13_walksAll 155 = .ok (.bipush 6, 2) := by decide +kernel
theorem dX13_walksAll_157 : decode cX13_walksAll 157 = .ok (.aload_n 0, 1) := by decide +kernel
theorem dX13_walksAll_158 : decode cX13_walksAll 158 = .ok (.getfield 39, 3) := by decide +kernel
theorem dX13_walksAll_161 : decode cX13_walksAll 161 = .ok (.iload 4, 2) := by decide +kernel
theorem dX13_walksAll_163 : decode cX13_walksAll 163 = .ok (.iconst 1, 1) := by decide +kernel
theorem dX13_walksAll_164 : decode cX13_walksAll 164 = .ok (.isub, 1) := by decide +kernel
theorem dX13_walksAll_165 : decode cX13_walksAll 165 = .ok (.iaload, 1) := by decide +kernel
theorem dX13_walksAll_166 : decode cX13_walksAll 166 = .ok (.imul, 1) := by decide +kernel
theorem dX13_walksAll_167 : decode cX13_walksAll 167 = .ok (.aload_n 0, 1) := by decide +kernel
theorem dX13_walksAll_168 : decode cX13_walksAll 168 = .ok (.getfield 39, 3) := by decide +kernel
theorem dX13_walksAll_171 : decode cX13_walksAll 171 = .ok (.iload 4, 2) := by decide +kernel
theorem dX13_walksAll_173 : decode cX13_walksAll 173 = .ok (.iaload, 1) := by decide +kernel
theorem dX13_walksAll_174 : decode cX13_walksAll 174 = .ok (.iadd, 1) := by decide +kernel
theorem dX13_walksAll_175 : decode cX13_walksAll 175 = .ok (.iaload, 1) := by decide +kernel
theorem dX13_walksAll_176 : decode cX13_walksAll 176 = .ok (.ifCond .ne 17, 3) := by decide +kernel
theorem dX13_walksAll_179 : decode cX13_walksAll 179 = .ok (.aload_n 0, 1) := by decide +kernel
theorem dX13_walksAll_180 : decode cX13_walksAll 180 = .ok (.getfield 39, 3) := by decide +kernel
theorem dX13_walksAll_183 : decode cX13_walksAll 183 = .ok (.iload 4, 2) := by decide +kernel
theorem dX13_walksAll_185 : decode cX13_walksAll 185 = .ok (.dup2, 1) := by decide +kernel
theorem dX13_walksAll_186 : decode cX13_walksAll 186 = .ok (.iaload, 1) := by decide +kernel
theorem dX13_walksAll_187 : decode cX13_walksAll 187 = .ok (.iconst 1, 1) := by decide +kernel
theorem dX13_walksAll_188 : decode cX13_walksAll 188 = .ok (.iadd, 1) := by decide +kernel
theorem dX13_walksAll_189 : decode cX13_walksAll 189 = .ok (.iastore, 1) := by decide +kernel
theorem dX13_walksAll_190 : decode cX13_walksAll 190 = .ok (.goto (-73), 3) := by decide +kernel
theorem dX13_walksAll_193 : decode cX13_walksAll 193 = .ok (.aload_n 0, 1) := by decide +kernel
theorem dX13_walksAll_194 : decode cX13_walksAll 194 = .ok (.getfield 39, 3) := by decide +kernel
theorem dX13_walksAll_197 : decode cX13_walksAll 197 = .ok (.iload 4, 2) := by decide +kernel
theorem dX13_walksAll_199 : decode cX13_walksAll 199 = .ok (.iaload, 1) := by decide +kernel
theorem dX13_walksAll_200 : decode cX13_walksAll 200 = .ok (.aload_n 0, 1) := by decide +kernel
theorem dX13_walksAll_201 : decode cX13_walksAll 201 = .ok (.getfield 397, 3) := by decide +kernel
theorem dX13_walksAll_204 : decode cX13_walksAll 204 = .ok (.getfield 230, 3) := by decide +kernel
theorem dX13_walksAll_207 : decode cX13_walksAll 207 = .ok (.if_icmp .lt 9, 3) := by decide +kernel
theorem dX13_walksAll_210 : decode cX13_walksAll 210 = .ok (.iinc 4 (-1), 3) := by decide +kernel
theorem dX13_walksAll_213 : decode cX13_walksAll 213 = .ok (.goto (-137), 3) := by decide +kernel
theorem dX13_walksAll_216 : decode cX13_walksAll 216 = .ok (.iload_n 3, 1) := by decide +kernel
theorem dX13_walksAll_217 : decode cX13_walksAll 217 = .ok (.iconst 1, 1) := by decide +kernel
theorem dX13_walksAll_218 : decode cX13_walksAll 218 = .ok (.aload_n 0, 1) := by decide +kernel
theorem dX13_walksAll_219 : decode cX13_walksAll 219 = .ok (.getfield 39, 3) := by decide +kernel
theorem dX13_walksAll_222 : decode cX13_walksAll 222 = .ok (.iload 4, 2) := by decide +kernel
theorem dX13_walksAll_224 : decode cX13_walksAll 224 = .ok (.iaload, 1) := by decide +kernel
theorem dX13_walksAll_225 : decode cX13_walksAll 225 = .ok (.ishl, 1) := by decide +kernel
theorem dX13_walksAll_226 : decode cX13_walksAll 226 = .ok (.ior, 1) := by decide +kernel
theorem dX13_walksAll_227 : decode cX13_walksAll 227 = .ok (.istore_n 3, 1) := by decide +kernel
theorem dX13_walksAll_228 : decode cX13_walksAll 228 = .ok (.aload_n 0, 1) := by decide +kernel
theorem dX13_walksAll_229 : decode cX13_walksAll 229 = .ok (.getfield 39, 3) := by decide +kernel
theorem dX13_walksAll_232 : decode cX13_walksAll 232 = .ok (.iload 4, 2) := by decide +kernel
theorem dX13_walksAll_234 : decode cX13_walksAll 234 = .ok (.iaload, 1) := by decide +kernel
theorem dX13_walksAll_235 : decode cX13_walksAll 235 = .ok (.iload_n 2, 1) := by decide +kernel
theorem dX13_walksAll_236 : decode cX13_walksAll 236 = .ok (.if_icmp .ne 15, 3) := by decide +kernel
theorem dX13_walksAll_239 : decode cX13_walksAll 239 = .ok (.aload_n 0, 1) := by decide +kernel
theorem dX13_walksAll_240 : decode cX13_walksAll 240 = .ok (.iload_n 1, 1) := by decide +kernel
theorem dX13_walksAll_241 : decode cX13_walksAll 241 = .ok (.iload 4, 2) := by decide +kernel
theorem dX13_walksAll_243 : decode cX13_walksAll 243 = .ok (.iconst 1, 1) := by decide +kernel
theorem dX13_walksAll_244 : decode cX13_walksAll 244 = .ok (.iadd, 1) := by decide +kernel
theorem dX13_walksAll_245 : decode cX13_walksAll 245 = .ok (.invokevirtual 453, 3) := by decide +kernel
theorem dX13_walksAll_248 : decode cX13_walksAll 248 = .ok (.goto (-172), 3) := by decide +kernel
theorem dX13_walksAll_251 : decode cX13_walksAll 251 = .ok (.iload 4, 2) := by decide +kernel
theorem dX13_walksAll_253 : decode cX13_walksAll 253 = .ok (.iconst 1, 1) := by decide +kernel
theorem dX13_walksAll_254 : decode cX13_walksAll 254 = .ok (.iadd, 1) := by decide +kernel
theorem dX13_walksAll_255 : decode cX13_walksAll 255 = .ok (.aload_n 0, 1) := by decide +kernel
theorem dX13_walksAll_256 : decode cX13_walksAll 256 = .ok (.getfield 397, 3) := by decide +kernel
theorem dX13_walksAll_259 : decode cX13_walksAll 259 = .ok (.getfield 230, 3) := by decide +kernel
theorem dX13_walksAll_262 : decode cX13_walksAll 262 = .ok (.if_icmp .ge (-186), 3) := by decide +kernel
theorem dX13_walksAll_265 : decode cX13_walksAll 265 = .ok (.iinc 4 1, 3) := by decide +kernel
theorem dX13_walksAll_268 : decode cX13_walksAll 268 = .ok (.aload_n 0, 1) := by decide +kernel
theorem dX13_walksAll_269 : decode cX13_walksAll 269 = .ok (.getfield 39, 3) := by decide +kernel
theorem dX13_walksAll_272 : decode cX13_walksAll 272 = .ok (.iload 4, 2) := by decide +kernel
theorem dX13_walksAll_274 : decode cX13_walksAll 274 = .ok (.iconst (-1), 1) := by decide +kernel
theorem dX13_walksAll_275 : decode cX13_walksAll 275 = .ok (.iastore, 1) := by decide +kernel
theorem dX13_walksAll_276 : decode cX13_walksAll 276 = .ok (.goto (-200), 3) := by decide +kernel
theorem dX13_walksAll_279 : decode cX13_walksAll 279 = .ok (.return_, 1) := by decide +kernel
theorem dX13_ends_0 : decode cX13_ends 0 = .ok (.iconst 0, 1) := by decide +kernel
theorem dX13_ends_1 : decode cX13_ends 1 = .ok (.istore_n 3, 1) := by decide +kernel
theorem dX13_ends_2 : decode cX13_ends 2 = .ok (.iconst 0, 1) := by decide +kernel
theorem dX13_ends_3 : decode cX13_ends 3 = .ok (.istore 4, 2) := by decide +kernel
theorem dX13_ends_5 : decode cX13_ends 5 = .ok (.aload_n 0, 1) := by decide +kernel
theorem dX13_ends_6 : decode cX13_ends 6 = .ok (.iload_n 1, 1) := by decide +kernel
theorem dX13_ends_7 : decode cX13_ends 7 = .ok (.invokevirtual 428, 3) := by decide +kernel
theorem dX13_ends_10 : decode cX13_ends 10 = .ok (.iconst 0, 1) := by decide +kernel
theorem dX13_ends_11 : decode cX13_ends 11 = .ok (.istore 5, 2) := by decide +kernel
theorem dX13_ends_13 : decode cX13_ends 13 = .ok (.iload 5, 2) := by decide +kernel
theorem dX13_ends_15 : decode cX13_ends 15 = .ok (.bipush 6, 2) := by decide +kernel
theorem dX13_ends_17 : decode cX13_ends 17 = .ok (.if_icmp .ge 25, 3) := by decide +kernel
theorem dX13_ends_20 : decode cX13_ends 20 = .ok (.aload_n 0, 1) := by decide +kernel
theorem dX13_ends_21 : decode cX13_ends 21 = .ok (.getfield 54, 3) := by decide +kernel
theorem dX13_ends_24 : decode cX13_ends 24 = .ok (.bipush 6, 2) := by decide +kernel
theorem dX13_ends_26 : decode cX13_ends 26 = .ok (.aload_n 0, 1) := by decide +kernel
theorem dX13_ends_27 : decode cX13_ends 27 = .ok (.getfield 450, 3) := by decide +kernel
theorem dX13_ends_30 : decode cX13_ends 30 = .ok (.imul, 1) := by decide +kernel
theorem dX13_ends_31 : decode cX13_ends 31 = .ok (.iload 5, 2) := by decide +kernel
theorem dX13_ends_33 : decode cX13_ends 33 = .ok (.iadd, 1) := by decide +kernel
theorem dX13_ends_34 : decode cX13_ends 34 = .ok (.iconst 0, 1) := by decide +kernel
theorem dX13_ends_35 : decode cX13_ends 35 = .ok (.iastore, 1) := by decide +kernel
theorem dX13_ends_36 : decode cX13_ends 36 = .ok (.iinc 5 1, 3) := by decide +kernel
theorem dX13_ends_39 : decode cX13_ends 39 = .ok (.goto (-26), 3) := by decide +kernel
theorem dX13_ends_42 : decode cX13_ends 42 = .ok (.iconst 1, 1) := by decide +kernel
theorem dX13_ends_43 : decode cX13_ends 43 = .ok (.istore 5, 2) := by decide +kernel
theorem dX13_ends_45 : decode cX13_ends 45 = .ok (.iload 5, 2) := by decide +kernel
theorem dX13_ends_47 : decode cX13_ends 47 = .ok (.iload_n 2, 1) := by decide +kernel
theorem dX13_ends_48 : decode cX13_ends 48 = .ok (.if_icmp .ge 116, 3) := by decide +kernel
theorem dX13_ends_51 : decode cX13_ends 51 = .ok (.aload_n 0, 1) := by decide +kernel
theorem dX13_ends_52 : decode cX13_ends 52 = .ok (.getfield 397, 3) := by decide +kernel
theorem dX13_ends_55 : decode cX13_ends 55 = .ok (.getfield 334, 3) := by decide +kernel
theorem dX13_ends_58 : decode cX13_ends 58 = .ok (.bipush 6, 2) := by decide +kernel
theorem dX13_ends_60 : decode cX13_ends 60 = .ok (.aload_n 0, 1) := by decide +kernel
theorem dX13_ends_61 : decode cX13_ends 61 = .ok (.getfield 39, 3) := by decide +kernel
theorem dX13_ends_64 : decode cX13_ends 64 = .ok (.iload 5, 2) := by decide +kernel
theorem dX13_ends_66 : decode cX13_ends 66 = .ok (.iconst 1, 1) := by decide +kernel
theorem dX13_ends_67 : decode cX13_ends 67 = .ok (.isub, 1) := by decide +kernel
theorem dX13_ends_68 : decode cX13_ends 68 = .ok (.iaload, 1) := by decide +kernel
theorem dX13_ends_69 : decode cX13_ends 69 = .ok (.imul, 1) := by decide +kernel
theorem dX13_ends_70 : decode cX13_ends 70 = .ok (.aload_n 0, 1) := by decide +kernel
theorem dX13_ends_71 : decode cX13_ends 71 = .ok (.getfield 39, 3) := by decide +kernel
theorem dX13_ends_74 : decode cX13_ends 74 = .ok (.iload 5, 2) := by decide +kernel
theorem dX13_ends_76 : decode cX13_ends 76 = .ok (.iaload, 1) := by decide +kernel
theorem dX13_ends_77 : decode cX13_ends 77 = .ok (.iadd, 1) := by decide +kernel
theorem dX13_ends_78 : decode cX13_ends 78 = .ok (.iaload, 1) := by decide +kernel
theorem dX13_ends_79 : decode cX13_ends 79 = .ok (.istore 6, 2) := by decide +kernel
theorem dX13_ends_81 : decode cX13_ends 81 = .ok (.iload_n 3, 1) := by decide +kernel
theorem dX13_ends_82 : decode cX13_ends 82 = .ok (.iload 6, 2) := by decide +kernel
theorem dX13_ends_84 : decode cX13_ends 84 = .ok (.iadd, 1) := by decide +kernel
theorem dX13_ends_85 : decode cX13_ends 85 = .ok (.istore_n 3, 1) := by decide +kernel
theorem dX13_ends_86 : decode cX13_ends 86 = .ok (.aload_n 0, 1) := by decide +kernel
theorem dX13_ends_87 : decode cX13_ends 87 = .ok (.iload 6, 2) := by decide +kernel
theorem dX13_ends_89 : decode cX13_ends 89 = .ok (.invokevirtual 431, 3) := by decide +kernel
theorem dX13_ends_92 : decode cX13_ends 92 = .ok (.iload 4, 2) := by decide +kernel
theorem dX13_ends_94 : decode cX13_ends 94 = .ok (.aload_n 0, 1) := by decide +kernel
theorem dX13_ends_95 : decode cX13_ends 95 = .ok (.iload_n 1, 1) := by decide +kernel
theorem dX13_ends_96 : decode cX13_ends 96 = .ok (.aload_n 0, 1) := by decide +kernel
theorem dX13_ends_97 : decode cX13_ends 97 = .ok (.getfield 39, 3) := by decide +kernel
theorem dX13_ends_100 : decode cX13_ends 100 = .ok (.iload 5, 2) := by decide +kernel
theorem dX13_ends_102 : decode cX13_ends 102 = .ok (.iaload, 1) := by decide +kernel
theorem dX13_ends_103 : decode cX13_ends 103 = .ok (.invokevirtual 442, 3) := by decide +kernel
theorem dX13_ends_106 : decode cX13_ends 106 = .ok (.iadd, 1) := by decide +kernel
theorem dX13_ends_107 : decode cX13_ends 107 = .ok (.istore 4, 2) := by decide +kernel
theorem dX13_ends_109 : decode cX13_ends 109 = .ok (.aload_n 0, 1) := by decide +kernel
theorem dX13_ends_110 : decode cX13_ends 110 = .ok (.getfield 54, 3) := by decide +kernel
theorem dX13_ends_113 : decode cX13_ends 113 = .ok (.bipush 6, 2) := by decide +kernel
theorem dX13_ends_115 : decode cX13_ends 115 = .ok (.aload_n 0, 1) := by decide +kernel
theorem dX13_ends_116 : decode cX13_ends 116 = .ok (.getfield 450, 3) := by decide +kernel
theorem dX13_ends_119 : decode cX13_ends 119 = .ok (.imul, 1) := by decide +kernel
theorem dX13_ends_120 : decode cX13_ends 120 = .ok (.aload_n 0, 1) := by decide +kernel
theorem dX13_ends_121 : decode cX13_ends 121 = .ok (.getfield 39, 3) := by decide +kernel
theorem dX13_ends_124 : decode cX13_ends 124 = .ok (.iload 5, 2) := by decide +kernel
theorem dX13_ends_126 : decode cX13_ends 126 = .ok (.iaload, 1) := by decide +kernel
theorem dX13_ends_127 : decode cX13_ends 127 = .ok (.iadd, 1) := by decide +kernel
theorem dX13_ends_128 : decode cX13_ends 128 = .ok (.aload_n 0, 1) := by decide +kernel
theorem dX13_ends_129 : decode cX13_ends 129 = .ok (.aload_n 0, 1) := by decide +kernel
theorem dX13_ends_130 : decode cX13_ends 130 = .ok (.getfield 397, 3) := by decide +kernel
theorem dX13_ends_133 : decode cX13_ends 133 = .ok (.getfield 358, 3) := by decide +kernel
theorem dX13_ends_136 : decode cX13_ends 136 = .ok (.iload_n 1, 1) := by decide +kernel
theorem dX13_ends_137 : decode cX13_ends 137 = .ok (.iaload, 1) := by decide +kernel
theorem dX13_ends_138 : decode cX13_ends 138 = .ok (.aload_n 0, 1) := by decide +kernel
theorem dX13_ends_139 : decode cX13_ends 139 = .ok (.getfield 397, 3) := by decide +kernel
theorem dX13_ends_142 : decode cX13_ends 142 = .ok (.getfield 325, 3) := by decide +kernel
theorem dX13_ends_145 : decode cX13_ends 145 = .ok (.aload_n 0, 1) := by decide +kernel
theorem dX13_ends_146 : decode cX13_ends 146 = .ok (.getfield 39, 3) := by decide +kernel
theorem dX13_ends_149 : decode cX13_ends 149 = .ok (.iload 5, 2) := by decide +kernel
theorem dX13_ends_151 : decode cX13_ends 151 = .ok (.iaload, 1) := by decide +kernel
theorem dX13_ends_152 : decode cX13_ends 152 = .ok (.iaload, 1) := by decide +kernel
theorem dX13_ends_153 : decode cX13_ends 153 = .ok (.iconst 1, 1) := by decide +kernel
theorem dX13_ends_154 : decode cX13_ends 154 = .ok (.invokevirtual 415, 3) := by decide +kernel
theorem dX13_ends_157 : decode cX13_ends 157 = .ok (.iastore, 1) := by decide +kernel
theorem dX13_ends_158 : decode cX13_ends 158 = .ok (.iinc 5 1, 3) := by decide +kernel
theorem dX13_ends_161 : decode cX13_ends 161 = .ok (.goto (-116), 3) := by decide +kernel
theorem dX13_ends_164 : decode cX13_ends 164 = .ok (.aload_n 0, 1) := by decide +kernel
theorem dX13_ends_165 : decode cX13_ends 165 = .ok (.dup, 1) := by decide +kernel
theorem dX13_ends_166 : decode cX13_ends 166 = .ok (.getfield 450, 3) := by decide +kernel
theorem dX13_ends_169 : decode cX13_ends 169 = .ok (.iconst 1, 1) := by decide +kernel
theorem dX13_ends_170 : decode cX13_ends 170 = .ok (.iadd, 1) := by decide +kernel
theorem dX13_ends_171 : decode cX13_ends 171 = .ok (.putfield 450, 3) := by decide +kernel
theorem dX13_ends_174 : decode cX13_ends 174 = .ok (.aload_n 0, 1) := by decide +kernel
theorem dX13_ends_175 : decode cX13_ends 175 = .ok (.iconst 0, 1) := by decide +kernel
theorem dX13_ends_176 : decode cX13_ends 176 = .ok (.iload_n 2, 1) := by decide +kernel
theorem dX13_ends_177 : decode cX13_ends 177 = .ok (.iload_n 3, 1) := by decide +kernel
theorem dX13_ends_178 : decode cX13_ends 178 = .ok (.iload 4, 2) := by decide +kernel
theorem dX13_ends_180 : decode cX13_ends 180 = .ok (.aload_n 0, 1) := by decide +kernel
theorem dX13_ends_181 : decode cX13_ends 181 = .ok (.getfield 45, 3) := by decide +kernel
theorem dX13_ends_184 : decode cX13_ends 184 = .ok (.iconst 0, 1) := by decide +kernel
theorem dX13_ends_185 : decode cX13_ends 185 = .ok (.iaload, 1) := by decide +kernel
theorem dX13_ends_186 : decode cX13_ends 186 = .ok (.ifCond .eq 13, 3) := by decide +kernel
theorem dX13_ends_189 : decode cX13_ends 189 = .ok (.iload_n 3, 1) := by decide +kernel
theorem dX13_ends_190 : decode cX13_ends 190 = .ok (.aload_n 0, 1) := by decide +kernel
theorem dX13_ends_191 : decode cX13_ends 191 = .ok (.getfield 48, 3) := by decide +kernel
theorem dX13_ends_194 : decode cX13_ends 194 = .ok (.iconst 0, 1) := by decide +kernel
theorem dX13_ends_195 : decode cX13_ends 195 = .ok (.iaload, 1) := by decide +kernel
theorem dX13_ends_196 : decode cX13_ends 196 = .ok (.if_icmp .ge 7, 3) := by decide +kernel
theorem dX13_ends_199 : decode cX13_ends 199 = .ok (.iconst 1, 1) := by decide +kernel
theorem dX13_ends_200 : decode cX13_ends 200 = .ok (.goto 4, 3) := by decide +kernel
theorem dX13_ends_203 : decode cX13_ends 203 = .ok (.iconst 0, 1) := by decide +kernel
theorem dX13_ends_204 : decode cX13_ends 204 = .ok (.invokevirtual 459, 3) := by decide +kernel
theorem dX13_ends_207 : decode cX13_ends 207 = .ok (.aload_n 0, 1) := by decide +kernel
theorem dX13_ends_208 : decode cX13_ends 208 = .ok (.iconst 1, 1) := by decide +kernel
theorem dX13_ends_209 : decode cX13_ends 209 = .ok (.iload_n 2, 1) := by decide +kernel
theorem dX13_ends_210 : decode cX13_ends 210 = .ok (.iload_n 3, 1) := by decide +kernel
theorem dX13_ends_211 : decode cX13_ends 211 = .ok (.iload 4, 2) := by decide +kernel
theorem dX13_ends_213 : decode cX13_ends 213 = .ok (.aload_n 0, 1) := by decide +kernel
theorem dX13_ends_214 : decode cX13_ends 214 = .ok (.getfield 45, 3) := by decide +kernel
theorem dX13_ends_217 : decode cX13_ends 217 = .ok (.iconst 1, 1) := by decide +kernel
theorem dX13_ends_218 : decode cX13_ends 218 = .ok (.iaload, 1) := by decide +kernel
theorem dX13_ends_219 : decode cX13_ends 219 = .ok (.ifCond .eq 35, 3) := by decide +kernel
theorem dX13_ends_222 : decode cX13_ends 222 = .ok (.iload 4, 2) := by decide +kernel
theorem dX13_ends_224 : decode cX13_ends 224 = .ok (.aload_n 0, 1) := by decide +kernel
theorem dX13_ends_225 : decode cX13_ends 225 = .ok (.getfield 51, 3) := by decide +kernel
theorem dX13_ends_228 : decode cX13_ends 228 = .ok (.iconst 1, 1) := by decide +kernel
theorem dX13_ends_229 : decode cX13_ends 229 = .ok (.iaload, 1) := by decide +kernel
theorem dX13_ends_230 : decode cX13_ends 230 = .ok (.if_icmp .lt 24, 3) := by decide +kernel
theorem dX13_ends_233 : decode cX13_ends 233 = .ok (.iload 4, 2) := by decide +kernel
theorem dX13_ends_235 : decode cX13_ends 235 = .ok (.aload_n 0, 1) := by decide +kernel
theorem dX13_ends_236 : decode cX13_ends 236 = .ok (.getfield 51, 3) := by decide +kernel
theorem dX13_ends_239 : decode cX13_ends 239 = .ok (.iconst 1, 1) := by decide +kernel
theorem dX13_ends_240 : decode cX13_ends 240 = .ok (.iaload, 1) := by decide +kernel
theorem dX13_ends_241 : decode cX13_ends 241 = .ok (.if_icmp .ne 17, 3) := by decide +kernel
theorem dX13_ends_244 : decode cX13_ends 244 = .ok (.iload_n 3, 1) := by decide +kernel
theorem dX13_ends_245 : decode cX13_ends 245 = .ok (.aload_n 0, 1) := by decide +kernel
theorem dX13_ends_246 : decode cX13_ends 246 = .ok (.getfield 48, 3) := by decide +kernel
theorem dX13_ends_249 : decode cX13_ends 249 = .ok (.iconst 1, 1) := by decide +kernel
theorem dX13_ends_250 : decode cX13_ends 250 = .ok (.iaload, 1) := by decide +kernel
theorem dX13_ends_251 : decode cX13_ends 251 = .ok (.if_icmp .ge 7, 3) := by decide +kernel
theorem dX13_ends_254 : decode cX13_ends 254 = .ok (.iconst 1, 1) := by decide +kernel
theorem dX13_ends_255 : decode cX13_ends 255 = .ok (.goto 4, 3) := by decide +kernel
theorem dX13_ends_258 : decode cX13_ends 258 = .ok (.iconst 0, 1) := by decide +kernel
theorem dX13_ends_259 : decode cX13_ends 259 = .ok (.invokevirtual 459, 3) := by decide +kernel
theorem dX13_ends_262 : decode cX13_ends 262 = .ok (.aload_n 0, 1) := by decide +kernel
theorem dX13_ends_263 : decode cX13_ends 263 = .ok (.iconst 2, 1) := by decide +kernel
theorem dX13_ends_264 : decode cX13_ends 264 = .ok (.iload_n 2, 1) := by decide +kernel
theorem dX13_ends_265 : decode cX13_ends 265 = .ok (.iload_n 3, 1) := by decide +kernel
theorem dX13_ends_266 : decode cX13_ends 266 = .ok (.iload 4, 2) := by decide +kernel
theorem dX13_ends_268 : decode cX13_ends 268 = .ok (.iload 4, 2) := by decide +kernel
theorem dX13_ends_270 : decode cX13_ends 270 = .ok (.ifCond .ne 26, 3) := by decide +kernel
theorem dX13_ends_273 : decode cX13_ends 273 = .ok (.aload_n 0, 1) := by decide +kernel
theorem dX13_ends_274 : decode cX13_ends 274 = .ok (.getfield 45, 3) := by decide +kernel
theorem dX13_ends_277 : decode cX13_ends 277 = .ok (.iconst 2, 1) := by decide +kernel
theorem dX13_ends_278 : decode cX13_ends 278 = .ok (.iaload, 1) := by decide +kernel
theorem dX13_ends_279 : decode cX13_ends 279 = .ok (.ifCond .eq 13, 3) := by decide +kernel
theorem dX13_ends_282 : decode cX13_ends 282 = .ok (.iload_n 3, 1) := by decide +kernel
theorem dX13_ends_283 : decode cX13_ends 283 = .ok (.aload_n 0, 1) := by decide +kernel
theorem dX13_ends_284 : decode cX13_ends 284 = .ok (.getfield 48, 3) := by decide +kernel
theorem dX13_ends_287 : decode cX13_ends 287 = .ok (.iconst 2, 1) := by decide +kernel
theorem dX13_ends_288 : decode cX13_ends 288 = .ok (.iaload, 1) := by decide +kernel
theorem dX13_ends_289 : decode cX13_ends 289 = .ok (.if_icmp .ge 7, 3) := by decide +kernel
theorem dX13_ends_292 : decode cX13_ends 292 = .ok (.iconst 1, 1) := by decide +kernel
theorem dX13_ends_293 : decode cX13_ends 293 = .ok (.goto 4, 3) := by decide +kernel
theorem dX13_ends_296 : decode cX13_ends 296 = .ok (.iconst 0, 1) := by decide +kernel
theorem dX13_ends_297 : decode cX13_ends 297 = .ok (.invokevirtual 459, 3) := by decide +kernel
theorem dX13_ends_300 : decode cX13_ends 300 = .ok (.return_, 1) := by decide +kernel
theorem dX13_takes_0 : decode cX13_takes 0 = .ok (.iload 5, 2) := by decide +kernel
theorem dX13_takes_2 : decode cX13_takes 2 = .ok (.ifCond .ne 4, 3) := by decide +kernel
theorem dX13_takes_5 : decode cX13_takes 5 = .ok (.return_, 1) := by decide +kernel
theorem dX13_takes_6 : decode cX13_takes 6 = .ok (.aload_n 0, 1) := by decide +kernel
theorem dX13_takes_7 : decode cX13_takes 7 = .ok (.getfield 45, 3) := by decide +kernel
theorem dX13_takes_10 : decode cX13_takes 10 = .ok (.iload_n 1, 1) := by decide +kernel
theorem dX13_takes_11 : decode cX13_takes 11 = .ok (.iload_n 2, 1) := by decide +kernel
theorem dX13_takes_12 : decode cX13_takes 12 = .ok (.iastore, 1) := by decide +kernel
theorem dX13_takes_13 : decode cX13_takes 13 = .ok (.aload_n 0, 1) := by decide +kernel
theorem dX13_takes_14 : decode cX13_takes 14 = .ok (.getfield 48, 3) := by decide +kernel
theorem dX13_takes_17 : decode cX13_takes 17 = .ok (.iload_n 1, 1) := by decide +kernel
theorem dX13_takes_18 : decode cX13_takes 18 = .ok (.iload_n 3, 1) := by decide +kernel
theorem dX13_takes_19 : decode cX13_takes 19 = .ok (.iastore, 1) := by decide +kernel
theorem dX13_takes_20 : decode cX13_takes 20 = .ok (.aload_n 0, 1) := by decide +kernel
theorem dX13_takes_21 : decode cX13_takes 21 = .ok (.getfield 51, 3) := by decide +kernel
theorem dX13_takes_24 : decode cX13_takes 24 = .ok (.iload_n 1, 1) := by decide +kernel
theorem dX13_takes_25 : decode cX13_takes 25 = .ok (.iload 4, 2) := by decide +kernel
theorem dX13_takes_27 : decode cX13_takes 27 = .ok (.iastore, 1) := by decide +kernel
theorem dX13_takes_28 : decode cX13_takes 28 = .ok (.iconst 0, 1) := by decide +kernel
theorem dX13_takes_29 : decode cX13_takes 29 = .ok (.istore 6, 2) := by decide +kernel
theorem dX13_takes_31 : decode cX13_takes 31 = .ok (.iload 6, 2) := by decide +kernel
theorem dX13_takes_33 : decode cX13_takes 33 = .ok (.iload_n 2, 1) := by decide +kernel
theorem dX13_takes_34 : decode cX13_takes 34 = .ok (.if_icmp .ge 28, 3) := by decide +kernel
theorem dX13_takes_37 : decode cX13_takes 37 = .ok (.aload_n 0, 1) := by decide +kernel
theorem dX13_takes_38 : decode cX13_takes 38 = .ok (.getfield 42, 3) := by decide +kernel
theorem dX13_takes_41 : decode cX13_takes 41 = .ok (.bipush 6, 2) := by decide +kernel
theorem dX13_takes_43 : decode cX13_takes 43 = .ok (.iload_n 1, 1) := by decide +kernel
theorem dX13_takes_44 : decode cX13_takes 44 = .ok (.imul, 1) := by decide +kernel
theorem dX13_takes_45 : decode cX13_takes 45 = .ok (.iload 6, 2) := by decide +kernel
theorem dX13_takes_47 : decode cX13_takes 47 = .ok (.iadd, 1) := by decide +kernel
theorem dX13_takes_48 : decode cX13_takes 48 = .ok (.aload_n 0, 1) := by decide +kernel
theorem dX13_takes_49 : decode cX13_takes 49 = .ok (.getfield 39, 3) := by decide +kernel
theorem dX13_takes_52 : decode cX13_takes 52 = .ok (.iload 6, 2) := by decide +kernel
theorem dX13_takes_54 : decode cX13_takes 54 = .ok (.iaload, 1) := by decide +kernel
theorem dX13_takes_55 : decode cX13_takes 55 = .ok (.iastore, 1) := by decide +kernel
theorem dX13_takes_56 : decode cX13_takes 56 = .ok (.iinc 6 1, 3) := by decide +kernel
theorem dX13_takes_59 : decode cX13_takes 59 = .ok (.goto (-28), 3) := by decide +kernel
theorem dX13_takes_62 : decode cX13_takes 62 = .ok (.return_, 1) := by decide +kernel
theorem dX13_asksWays_0 : decode cX13_asksWays 0 = .ok (.aload_n 0, 1) := by decide +kernel
theorem dX13_asksWays_1 : decode cX13_asksWays 1 = .ok (.invokevirtual 433, 3) := by decide +kernel
theorem dX13_asksWays_4 : decode cX13_asksWays 4 = .ok (.aload_n 0, 1) := by decide +kernel
theorem dX13_asksWays_5 : decode cX13_asksWays 5 = .ok (.iload_n 1, 1) := by decide +kernel
theorem dX13_asksWays_6 : decode cX13_asksWays 6 = .ok (.iload_n 2, 1) := by decide +kernel
theorem dX13_asksWays_7 : decode cX13_asksWays 7 = .ok (.invokevirtual 463, 3) := by decide +kernel
theorem dX13_asksWays_10 : decode cX13_asksWays 10 = .ok (.return_, 1) := by decide +kernel
theorem dX13_quickest_0 : decode cX13_quickest 0 = .ok (.aload_n 0, 1) := by decide +kernel
theorem dX13_quickest_1 : decode cX13_quickest 1 = .ok (.iconst 0, 1) := by decide +kernel
theorem dX13_quickest_2 : decode cX13_quickest 2 = .ok (.putfield 72, 3) := by decide +kernel
theorem dX13_quickest_5 : decode cX13_quickest 5 = .ok (.aload_n 0, 1) := by decide +kernel
theorem dX13_quickest_6 : decode cX13_quickest 6 = .ok (.iload_n 1, 1) := by decide +kernel
theorem dX13_quickest_7 : decode cX13_quickest 7 = .ok (.invokevirtual 425, 3) := by decide +kernel
theorem dX13_quickest_10 : decode cX13_quickest 10 = .ok (.ifCond .eq 11, 3) := by decide +kernel
theorem dX13_quickest_13 : decode cX13_quickest 13 = .ok (.aload_n 0, 1) := by decide +kernel
theorem dX13_quickest_14 : decode cX13_quickest 14 = .ok (.iload_n 2, 1) := by decide +kernel
theorem dX13_quickest_15 : decode cX13_quickest 15 = .ok (.invokevirtual 422, 3) := by decide +kernel
theorem dX13_quickest_18 : decode cX13_quickest 18 = .ok (.ifCond .ne 9, 3) := by decide +kernel
theorem dX13_quickest_21 : decode cX13_quickest 21 = .ok (.aload_n 0, 1) := by decide +kernel
theorem dX13_quickest_22 : decode cX13_quickest 22 = .ok (.iconst 1, 1) := by decide +kernel
theorem dX13_quickest_23 : decode cX13_quickest 23 = .ok (.invokevirtual 78, 3) := by decide +kernel
theorem dX13_quickest_26 : decode cX13_quickest 26 = .ok (.ireturn, 1) := by decide +kernel
theorem dX13_quickest_27 : decode cX13_quickest 27 = .ok (.aload_n 0, 1) := by decide +kernel
theorem dX13_quickest_28 : decode cX13_quickest 28 = .ok (.iload_n 1, 1) := by decide +kernel
theorem dX13_quickest_29 : decode cX13_quickest 29 = .ok (.iload_n 2, 1) := by decide +kernel
theorem dX13_quickest_30 : decode cX13_quickest 30 = .ok (.invokevirtual 466, 3) := by decide +kernel
theorem dX13_quickest_33 : decode cX13_quickest 33 = .ok (.aload_n 0, 1) := by decide +kernel
theorem dX13_quickest_34 : decode cX13_quickest 34 = .ok (.aload_n 0, 1) := by decide +kernel
theorem dX13_quickest_35 : decode cX13_quickest 35 = .ok (.getfield 45, 3) := by decide +kernel
theorem dX13_quickest_38 : decode cX13_quickest 38 = .ok (.iconst 0, 1) := by decide +kernel
theorem dX13_quickest_39 : decode cX13_quickest 39 = .ok (.iaload, 1) := by decide +kernel
theorem dX13_quickest_40 : decode cX13_quickest 40 = .ok (.ifCond .ne 8, 3) := by decide +kernel
theorem dX13_quickest_43 : decode cX13_quickest 43 = .ok (.bipush (-2), 2) := by decide +kernel
theorem dX13_quickest_45 : decode cX13_quickest 45 = .ok (.goto 9, 3) := by decide +kernel
theorem dX13_quickest_48 : decode cX13_quickest 48 = .ok (.aload_n 0, 1) := by decide +kernel
theorem dX13_quickest_49 : decode cX13_quickest 49 = .ok (.getfield 48, 3) := by decide +kernel
theorem dX13_quickest_52 : decode cX13_quickest 52 = .ok (.iconst 0, 1) := by decide +kernel
theorem dX13_quickest_53 : decode cX13_quickest 53 = .ok (.iaload, 1) := by decide +kernel
theorem dX13_quickest_54 : decode cX13_quickest 54 = .ok (.invokevirtual 82, 3) := by decide +kernel
theorem dX13_quickest_57 : decode cX13_quickest 57 = .ok (.ireturn, 1) := by decide +kernel
theorem dX13_cheapest_0 : decode cX13_cheapest 0 = .ok (.aload_n 0, 1) := by decide +kernel
theorem dX13_cheapest_1 : decode cX13_cheapest 1 = .ok (.iconst 0, 1) := by decide +kernel
theorem dX13_cheapest_2 : decode cX13_cheapest 2 = .ok (.putfield 72, 3) := by decide +kernel
theorem dX13_cheapest_5 : decode cX13_cheapest 5 = .ok (.aload_n 0, 1) := by decide +kernel
theorem dX13_cheapest_6 : decode cX13_cheapest 6 = .ok (.iload_n 1, 1) := by decide +kernel
theorem dX13_cheapest_7 : decode cX13_cheapest 7 = .ok (.invokevirtual 425, 3) := by decide +kernel
theorem dX13_cheapest_10 : decode cX13_cheapest 10 = .ok (.ifCond .eq 11, 3) := by decide +kernel
theorem dX13_cheapest_13 : decode cX13_cheapest 13 = .ok (.aload_n 0, 1) := by decide +kernel
theorem dX13_cheapest_14 : decode cX13_cheapest 14 = .ok (.iload_n 2, 1) := by decide +kernel
theorem dX13_cheapest_15 : decode cX13_cheapest 15 = .ok (.invokevirtual 422, 3) := by decide +kernel
theorem dX13_cheapest_18 : decode cX13_cheapest 18 = .ok (.ifCond .ne 9, 3) := by decide +kernel
theorem dX13_cheapest_21 : decode cX13_cheapest 21 = .ok (.aload_n 0, 1) := by decide +kernel
theorem dX13_cheapest_22 : decode cX13_cheapest 22 = .ok (.iconst 1, 1) := by decide +kernel
theorem dX13_cheapest_23 : decode cX13_cheapest 23 = .ok (.invokevirtual 78, 3) := by decide +kernel
theorem dX13_cheapest_26 : decode cX13_cheapest 26 = .ok (.ireturn, 1) := by decide +kernel
theorem dX13_cheapest_27 : decode cX13_cheapest 27 = .ok (.aload_n 0, 1) := by decide +kernel
theorem dX13_cheapest_28 : decode cX13_cheapest 28 = .ok (.iload_n 1, 1) := by decide +kernel
theorem dX13_cheapest_29 : decode cX13_cheapest 29 = .ok (.iload_n 2, 1) := by decide +kernel
theorem dX13_cheapest_30 : decode cX13_cheapest 30 = .ok (.invokevirtual 466, 3) := by decide +kernel
theorem dX13_cheapest_33 : decode cX13_cheapest 33 = .ok (.aload_n 0, 1) := by decide +kernel
theorem dX13_cheapest_34 : decode cX13_cheapest 34 = .ok (.aload_n 0, 1) := by decide +kernel
theorem dX13_cheapest_35 : decode cX13_cheapest 35 = .ok (.getfield 45, 3) := by decide +kernel
theorem dX13_cheapest_38 : decode cX13_cheapest 38 = .ok (.iconst 1, 1) := by decide +kernel
theorem dX13_cheapest_39 : decode cX13_cheapest 39 = .ok (.iaload, 1) := by decide +kernel
theorem dX13_cheapest_40 : decode cX13_cheapest 40 = .ok (.ifCond .ne 8, 3) := by decide +kernel
theorem dX13_cheapest_43 : decode cX13_cheapest 43 = .ok (.bipush (-2), 2) := by decide +kernel
theorem dX13_cheapest_45 : decode cX13_cheapest 45 = .ok (.goto 9, 3) := by decide +kernel
theorem dX13_cheapest_48 : decode cX13_cheapest 48 = .ok (.aload_n 0, 1) := by decide +kernel
theorem dX13_cheapest_49 : decode cX13_cheapest 49 = .ok (.getfield 51, 3) := by decide +kernel
theorem dX13_cheapest_52 : decode cX13_cheapest 52 = .ok (.iconst 1, 1) := by decide +kernel
theorem dX13_cheapest_53 : decode cX13_cheapest 53 = .ok (.iaload, 1) := by decide +kernel
theorem dX13_cheapest_54 : decode cX13_cheapest 54 = .ok (.invokevirtual 82, 3) := by decide +kernel
theorem dX13_cheapest_57 : decode cX13_cheapest 57 = .ok (.ireturn, 1) := by decide +kernel
theorem dX13_secret_0 : decode cX13_secret 0 = .ok (.aload_n 0, 1) := by decide +kernel
theorem dX13_secret_1 : decode cX13_secret 1 = .ok (.iconst 0, 1) := by decide +kernel
theorem dX13_secret_2 : decode cX13_secret 2 = .ok (.putfield 72, 3) := by decide +kernel
theorem dX13_secret_5 : decode cX13_secret 5 = .ok (.aload_n 0, 1) := by decide +kernel
theorem dX13_secret_6 : decode cX13_secret 6 = .ok (.iload_n 1, 1) := by decide +kernel
theorem dX13_secret_7 : decode cX13_secret 7 = .ok (.invokevirtual 425, 3) := by decide +kernel
theorem dX13_secret_10 : decode cX13_secret 10 = .ok (.ifCond .eq 11, 3) := by decide +kernel
theorem dX13_secret_13 : decode cX13_secret 13 = .ok (.aload_n 0, 1) := by decide +kernel
theorem dX13_secret_14 : decode cX13_secret 14 = .ok (.iload_n 2, 1) := by decide +kernel
theorem dX13_secret_15 : decode cX13_secret 15 = .ok (.invokevirtual 422, 3) := by decide +kernel
theorem dX13_secret_18 : decode cX13_secret 18 = .ok (.ifCond .ne 9, 3) := by decide +kernel
theorem dX13_secret_21 : decode cX13_secret 21 = .ok (.aload_n 0, 1) := by decide +kernel
theorem dX13_secret_22 : decode cX13_secret 22 = .ok (.iconst 1, 1) := by decide +kernel
theorem dX13_secret_23 : decode cX13_secret 23 = .ok (.invokevirtual 78, 3) := by decide +kernel
theorem dX13_secret_26 : decode cX13_secret 26 = .ok (.ireturn, 1) := by decide +kernel
theorem dX13_secret_27 : decode cX13_secret 27 = .ok (.aload_n 0, 1) := by decide +kernel
theorem dX13_secret_28 : decode cX13_secret 28 = .ok (.iload_n 1, 1) := by decide +kernel
theorem dX13_secret_29 : decode cX13_secret 29 = .ok (.iload_n 2, 1) := by decide +kernel
theorem dX13_secret_30 : decode cX13_secret 30 = .ok (.invokevirtual 466, 3) := by decide +kernel
theorem dX13_secret_33 : decode cX13_secret 33 = .ok (.aload_n 0, 1) := by decide +kernel
theorem dX13_secret_34 : decode cX13_secret 34 = .ok (.aload_n 0, 1) := by decide +kernel
theorem dX13_secret_35 : decode cX13_secret 35 = .ok (.getfield 45, 3) := by decide +kernel
theorem dX13_secret_38 : decode cX13_secret 38 = .ok (.iconst 2, 1) := by decide +kernel
theorem dX13_secret_39 : decode cX13_secret 39 = .ok (.iaload, 1) := by decide +kernel
theorem dX13_secret_40 : decode cX13_secret 40 = .ok (.ifCond .ne 8, 3) := by decide +kernel
theorem dX13_secret_43 : decode cX13_secret 43 = .ok (.bipush (-2), 2) := by decide +kernel
theorem dX13_secret_45 : decode cX13_secret 45 = .ok (.goto 9, 3) := by decide +kernel
theorem dX13_secret_48 : decode cX13_secret 48 = .ok (.aload_n 0, 1) := by decide +kernel
theorem dX13_secret_49 : decode cX13_secret 49 = .ok (.getfield 48, 3) := by decide +kernel
theorem dX13_secret_52 : decode cX13_secret 52 = .ok (.iconst 2, 1) := by decide +kernel
theorem dX13_secret_53 : decode cX13_secret 53 = .ok (.iaload, 1) := by decide +kernel
theorem dX13_secret_54 : decode cX13_secret 54 = .ok (.invokevirtual 82, 3) := by decide +kernel
theorem dX13_secret_57 : decode cX13_secret 57 = .ok (.ireturn, 1) := by decide +kernel
theorem dX13_wayAt_0 : decode cX13_wayAt 0 = .ok (.aload_n 0, 1) := by decide +kernel
theorem dX13_wayAt_1 : decode cX13_wayAt 1 = .ok (.iconst 0, 1) := by decide +kernel
theorem dX13_wayAt_2 : decode cX13_wayAt 2 = .ok (.putfield 72, 3) := by decide +kernel
theorem dX13_wayAt_5 : decode cX13_wayAt 5 = .ok (.iload_n 1, 1) := by decide +kernel
theorem dX13_wayAt_6 : decode cX13_wayAt 6 = .ok (.iconst 0, 1) := by decide +kernel
theorem dX13_wayAt_7 : decode cX13_wayAt 7 = .ok (.iconst 2, 1) := by decide +kernel
theorem dX13_wayAt_8 : decode cX13_wayAt 8 = .ok (.invokestatic 150, 3) := by decide +kernel
theorem dX13_wayAt_11 : decode cX13_wayAt 11 = .ok (.ifCond .eq 19, 3) := by decide +kernel
theorem dX13_wayAt_14 : decode cX13_wayAt 14 = .ok (.aload_n 0, 1) := by decide +kernel
theorem dX13_wayAt_15 : decode cX13_wayAt 15 = .ok (.iload_n 2, 1) := by decide +kernel
theorem dX13_wayAt_16 : decode cX13_wayAt 16 = .ok (.invokevirtual 425, 3) := by decide +kernel
theorem dX13_wayAt_19 : decode cX13_wayAt 19 = .ok (.ifCond .eq 11, 3) := by decide +kernel
theorem dX13_wayAt_22 : decode cX13_wayAt 22 = .ok (.aload_n 0, 1) := by decide +kernel
theorem dX13_wayAt_23 : decode cX13_wayAt 23 = .ok (.iload_n 3, 1) := by decide +kernel
theorem dX13_wayAt_24 : decode cX13_wayAt 24 = .ok (.invokevirtual 422, 3) := by decide +kernel
theorem dX13_wayAt_27 : decode cX13_wayAt 27 = .ok (.ifCond .ne 9, 3) := by decide +kernel
theorem dX13_wayAt_30 : decode cX13_wayAt 30 = .ok (.aload_n 0, 1) := by decide +kernel
theorem dX13_wayAt_31 : decode cX13_wayAt 31 = .ok (.iconst 1, 1) := by decide +kernel
theorem dX13_wayAt_32 : decode cX13_wayAt 32 = .ok (.invokevirtual 78, 3) := by decide +kernel
theorem dX13_wayAt_35 : decode cX13_wayAt 35 = .ok (.ireturn, 1) := by decide +kernel
theorem dX13_wayAt_36 : decode cX13_wayAt 36 = .ok (.aload_n 0, 1) := by decide +kernel
theorem dX13_wayAt_37 : decode cX13_wayAt 37 = .ok (.iload_n 2, 1) := by decide +kernel
theorem dX13_wayAt_38 : decode cX13_wayAt 38 = .ok (.iload_n 3, 1) := by decide +kernel
theorem dX13_wayAt_39 : decode cX13_wayAt 39 = .ok (.invokevirtual 466, 3) := by decide +kernel
theorem dX13_wayAt_42 : decode cX13_wayAt 42 = .ok (.iload 4, 2) := by decide +kernel
theorem dX13_wayAt_44 : decode cX13_wayAt 44 = .ok (.ifCond .lt 33, 3) := by decide +kernel
theorem dX13_wayAt_47 : decode cX13_wayAt 47 = .ok (.iload 4, 2) := by decide +kernel
theorem dX13_wayAt_49 : decode cX13_wayAt 49 = .ok (.aload_n 0, 1) := by decide +kernel
theorem dX13_wayAt_50 : decode cX13_wayAt 50 = .ok (.getfield 45, 3) := by decide +kernel
theorem dX13_wayAt_53 : decode cX13_wayAt 53 = .ok (.iload_n 1, 1) := by decide +kernel
theorem dX13_wayAt_54 : decode cX13_wayAt 54 = .ok (.iaload, 1) := by decide +kernel
theorem dX13_wayAt_55 : decode cX13_wayAt 55 = .ok (.if_icmp .ge 22, 3) := by decide +kernel
theorem dX13_wayAt_58 : decode cX13_wayAt 58 = .ok (.aload_n 0, 1) := by decide +kernel
theorem dX13_wayAt_59 : decode cX13_wayAt 59 = .ok (.aload_n 0, 1) := by decide +kernel
theorem dX13_wayAt_60 : decode cX13_wayAt 60 = .ok (.getfield 42, 3) := by decide +kernel
theorem dX13_wayAt_63 : decode cX13_wayAt 63 = .ok (.bipush 6, 2) := by decide +kernel
theorem dX13_wayAt_65 : decode cX13_wayAt 65 = .ok (.iload_n 1, 1) := by decide +kernel
theorem dX13_wayAt_66 : decode cX13_wayAt 66 = .ok (.imul, 1) := by decide +kernel
theorem dX13_wayAt_67 : decode cX13_wayAt 67 = .ok (.iload 4, 2) := by decide +kernel
theorem dX13_wayAt_69 : decode cX13_wayAt 69 = .ok (.iadd, 1) := by decide +kernel
theorem dX13_wayAt_70 : decode cX13_wayAt 70 = .ok (.iaload, 1) := by decide +kernel
theorem dX13_wayAt_71 : decode cX13_wayAt 71 = .ok (.invokevirtual 82, 3) := by decide +kernel
theorem dX13_wayAt_74 : decode cX13_wayAt 74 = .ok (.goto 8, 3) := by decide +kernel
theorem dX13_wayAt_77 : decode cX13_wayAt 77 = .ok (.aload_n 0, 1) := by decide +kernel
theorem dX13_wayAt_78 : decode cX13_wayAt 78 = .ok (.iconst 1, 1) := by decide +kernel
theorem dX13_wayAt_79 : decode cX13_wayAt 79 = .ok (.invokevirtual 78, 3) := by decide +kernel
theorem dX13_wayAt_82 : decode cX13_wayAt 82 = .ok (.ireturn, 1) := by decide +kernel
theorem dX13_rounds_0 : decode cX13_rounds 0 = .ok (.aload_n 0, 1) := by decide +kernel
theorem dX13_rounds_1 : decode cX13_rounds 1 = .ok (.iconst 0, 1) := by decide +kernel
theorem dX13_rounds_2 : decode cX13_rounds 2 = .ok (.putfield 72, 3) := by decide +kernel
theorem dX13_rounds_5 : decode cX13_rounds 5 = .ok (.aload_n 0, 1) := by decide +kernel
theorem dX13_rounds_6 : decode cX13_rounds 6 = .ok (.getfield 397, 3) := by decide +kernel
theorem dX13_rounds_9 : decode cX13_rounds 9 = .ok (.ifnonnull 9, 3) := by decide +kernel
theorem dX13_rounds_12 : decode cX13_rounds 12 = .ok (.aload_n 0, 1) := by decide +kernel
theorem dX13_rounds_13 : decode cX13_rounds 13 = .ok (.iconst 1, 1) := by decide +kernel
theorem dX13_rounds_14 : decode cX13_rounds 14 = .ok (.invokevirtual 78, 3) := by decide +kernel
theorem dX13_rounds_17 : decode cX13_rounds 17 = .ok (.ireturn, 1) := by decide +kernel
theorem dX13_rounds_18 : decode cX13_rounds 18 = .ok (.iconst 0, 1) := by decide +kernel
theorem dX13_rounds_19 : decode cX13_rounds 19 = .ok (.istore_n 1, 1) := by decide +kernel
theorem dX13_rounds_20 : decode cX13_rounds 20 = .ok (.iconst 0, 1) := by decide +kernel
theorem dX13_rounds_21 : decode cX13_rounds 21 = .ok (.istore_n 2, 1) := by decide +kernel
theorem dX13_rounds_22 : decode cX13_rounds 22 = .ok (.iload_n 2, 1) := by decide +kernel
theorem dX13_rounds_23 : decode cX13_rounds 23 = .ok (.aload_n 0, 1) := by decide +kernel
theorem dX13_rounds_24 : decode cX13_rounds 24 = .ok (.getfield 397, 3) := by decide +kernel
theorem dX13_rounds_27 : decode cX13_rounds 27 = .ok (.getfield 343, 3) := by decide +kernel
theorem dX13_rounds_30 : decode cX13_rounds 30 = .ok (.if_icmp .ge 66, 3) := by decide +kernel
theorem dX13_rounds_33 : decode cX13_rounds 33 = .ok (.iconst 0, 1) := by decide +kernel
theorem dX13_rounds_34 : decode cX13_rounds 34 = .ok (.istore_n 3, 1) := by decide +kernel
theorem dX13_rounds_35 : decode cX13_rounds 35 = .ok (.iload_n 3, 1) := by decide +kernel
theorem dX13_rounds_36 : decode cX13_rounds 36 = .ok (.aload_n 0, 1) := by decide +kernel
theorem dX13_rounds_37 : decode cX13_rounds 37 = .ok (.getfield 397, 3) := by decide +kernel
theorem dX13_rounds_40 : decode cX13_rounds 40 = .ok (.getfield 230, 3) := by decide +kernel
theorem dX13_rounds_43 : decode cX13_rounds 43 = .ok (.if_icmp .ge 47, 3) := by decide +kernel
theorem dX13_rounds_46 : decode cX13_rounds 46 = .ok (.aload_n 0, 1) := by decide +kernel
theorem dX13_rounds_47 : decode cX13_rounds 47 = .ok (.iload_n 2, 1) := by decide +kernel
theorem dX13_rounds_48 : decode cX13_rounds 48 = .ok (.iload_n 3, 1) := by decide +kernel
theorem dX13_rounds_49 : decode cX13_rounds 49 = .ok (.invokevirtual 466, 3) := by decide +kernel
theorem dX13_rounds_52 : decode cX13_rounds 52 = .ok (.iload_n 1, 1) := by decide +kernel
theorem dX13_rounds_53 : decode cX13_rounds 53 = .ok (.aload_n 0, 1) := by decide +kernel
theorem dX13_rounds_54 : decode cX13_rounds 54 = .ok (.getfield 45, 3) := by decide +kernel
theorem dX13_rounds_57 : decode cX13_rounds 57 = .ok (.iconst 0, 1) := by decide +kernel
theorem dX13_rounds_58 : decode cX13_rounds 58 = .ok (.iaload, 1) := by decide +kernel
theorem dX13_rounds_59 : decode cX13_rounds 59 = .ok (.ifCond .le 22, 3) := by decide +kernel
theorem dX13_rounds_62 : decode cX13_rounds 62 = .ok (.aload_n 0, 1) := by decide +kernel
theorem dX13_rounds_63 : decode cX13_rounds 63 = .ok (.getfield 51, 3) := by decide +kernel
theorem dX13_rounds_66 : decode cX13_rounds 66 = .ok (.iconst 1, 1) := by decide +kernel
theorem dX13_rounds_67 : decode cX13_rounds 67 = .ok (.iaload, 1) := by decide +kernel
theorem dX13_rounds_68 : decode cX13_rounds 68 = .ok (.aload_n 0, 1) := by decide +kernel
theorem dX13_rounds_69 : decode cX13_rounds 69 = .ok (.getfield 51, 3) := by decide +kernel
theorem dX13_rounds_72 : decode cX13_rounds 72 = .ok (.iconst 0, 1) := by decide +kernel
theorem dX13_rounds_73 : decode cX13_rounds 73 = .ok (.iaload, 1) := by decide +kernel
theorem dX13_rounds_74 : decode cX13_rounds 74 = .ok (.if_icmp .ge 7, 3) := by decide +kernel
theorem dX13_rounds_77 : decode cX13_rounds 77 = .ok (.iconst 1, 1) := by decide +kernel
theorem dX13_rounds_78 : decode cX13_rounds 78 = .ok (.goto 4, 3) := by decide +kernel
theorem dX13_rounds_81 : decode cX13_rounds 81 = .ok (.iconst 0, 1) := by decide +kernel
theorem dX13_rounds_82 : decode cX13_rounds 82 = .ok (.iadd, 1) := by decide +kernel
theorem dX13_rounds_83 : decode cX13_rounds 83 = .ok (.istore_n 1, 1) := by decide +kernel
theorem dX13_rounds_84 : decode cX13_rounds 84 = .ok (.iinc 3 1, 3) := by decide +kernel
theorem dX13_rounds_87 : decode cX13_rounds 87 = .ok (.goto (-52), 3) := by decide +kernel
theorem dX13_rounds_90 : decode cX13_rounds 90 = .ok (.iinc 2 1, 3) := by decide +kernel
theorem dX13_rounds_93 : decode cX13_rounds 93 = .ok (.goto (-71), 3) := by decide +kernel
theorem dX13_rounds_96 : decode cX13_rounds 96 = .ok (.aload_n 0, 1) := by decide +kernel
theorem dX13_rounds_97 : decode cX13_rounds 97 = .ok (.iload_n 1, 1) := by decide +kernel
theorem dX13_rounds_98 : decode cX13_rounds 98 = .ok (.invokevirtual 82, 3) := by decide +kernel
theorem dX13_rounds_101 : decode cX13_rounds 101 = .ok (.ireturn, 1) := by decide +kernel
theorem dX13_cover_0 : decode cX13_cover 0 = .ok (.aload_n 0, 1) := by decide +kernel
theorem dX13_cover_1 : decode cX13_cover 1 = .ok (.iconst 0, 1) := by decide +kernel
theorem dX13_cover_2 : decode cX13_cover 2 = .ok (.putfield 72, 3) := by decide +kernel
theorem dX13_cover_5 : decode cX13_cover 5 = .ok (.aload_n 0, 1) := by decide +kernel
theorem dX13_cover_6 : decode cX13_cover 6 = .ok (.iload_n 1, 1) := by decide +kernel
theorem dX13_cover_7 : decode cX13_cover 7 = .ok (.invokevirtual 425, 3) := by decide +kernel
theorem dX13_cover_10 : decode cX13_cover 10 = .ok (.ifCond .eq 32, 3) := by decide +kernel
theorem dX13_cover_13 : decode cX13_cover 13 = .ok (.aload_n 0, 1) := by decide +kernel
theorem dX13_cover_14 : decode cX13_cover 14 = .ok (.iload_n 2, 1) := by decide +kernel
theorem dX13_cover_15 : decode cX13_cover 15 = .ok (.invokevirtual 419, 3) := by decide +kernel
theorem dX13_cover_18 : decode cX13_cover 18 = .ok (.ifCond .eq 24, 3) := by decide +kernel
theorem dX13_cover_21 : decode cX13_cover 21 = .ok (.aload_n 0, 1) := by decide +kernel
theorem dX13_cover_22 : decode cX13_cover 22 = .ok (.getfield 397, 3) := by decide +kernel
theorem dX13_cover_25 : decode cX13_cover 25 = .ok (.getfield 313, 3) := by decide +kernel
theorem dX13_cover_28 : decode cX13_cover 28 = .ok (.iload_n 2, 1) := by decide +kernel
theorem dX13_cover_29 : decode cX13_cover 29 = .ok (.iaload, 1) := by decide +kernel
theorem dX13_cover_30 : decode cX13_cover 30 = .ok (.iconst 2, 1) := by decide +kernel
theorem dX13_cover_31 : decode cX13_cover 31 = .ok (.if_icmp .ne 11, 3) := by decide +kernel
theorem dX13_cover_34 : decode cX13_cover 34 = .ok (.aload_n 0, 1) := by decide +kernel
theorem dX13_cover_35 : decode cX13_cover 35 = .ok (.iload_n 3, 1) := by decide +kernel
theorem dX13_cover_36 : decode cX13_cover 36 = .ok (.invokevirtual 422, 3) := by decide +kernel
theorem dX13_cover_39 : decode cX13_cover 39 = .ok (.ifCond .ne 9, 3) := by decide +kernel
theorem dX13_cover_42 : decode cX13_cover 42 = .ok (.aload_n 0, 1) := by decide +kernel
theorem dX13_cover_43 : decode cX13_cover 43 = .ok (.iconst 1, 1) := by decide +kernel
theorem dX13_cover_44 : decode cX13_cover 44 = .ok (.invokevirtual 78, 3) := by decide +kernel
theorem dX13_cover_47 : decode cX13_cover 47 = .ok (.ireturn, 1) := by decide +kernel
theorem dX13_cover_48 : decode cX13_cover 48 = .ok (.aload_n 0, 1) := by decide +kernel
theorem dX13_cover_49 : decode cX13_cover 49 = .ok (.iload_n 1, 1) := by decide +kernel
theorem dX13_cover_50 : decode cX13_cover 50 = .ok (.iload_n 3, 1) := by decide +kernel
theorem dX13_cover_51 : decode cX13_cover 51 = .ok (.invokevirtual 466, 3) := by decide +kernel
theorem dX13_cover_54 : decode cX13_cover 54 = .ok (.aload_n 0, 1) := by decide +kernel
theorem dX13_cover_55 : decode cX13_cover 55 = .ok (.getfield 45, 3) := by decide +kernel
theorem dX13_cover_58 : decode cX13_cover 58 = .ok (.iconst 0, 1) := by decide +kernel
theorem dX13_cover_59 : decode cX13_cover 59 = .ok (.iaload, 1) := by decide +kernel
theorem dX13_cover_60 : decode cX13_cover 60 = .ok (.istore 4, 2) := by decide +kernel
theorem dX13_cover_62 : decode cX13_cover 62 = .ok (.iconst 0, 1) := by decide +kernel
theorem dX13_cover_63 : decode cX13_cover 63 = .ok (.istore 5, 2) := by decide +kernel
theorem dX13_cover_65 : decode cX13_cover 65 = .ok (.iload 5, 2) := by decide +kernel
theorem dX13_cover_67 : decode cX13_cover 67 = .ok (.bipush 99, 2) := by decide +kernel
theorem dX13_cover_69 : decode cX13_cover 69 = .ok (.if_icmp .gt 109, 3) := by decide +kernel
theorem dX13_cover_72 : decode cX13_cover 72 = .ok (.iload 4, 2) := by decide +kernel
theorem dX13_cover_74 : decode cX13_cover 74 = .ok (.ifCond .le 104, 3) := by decide +kernel
theorem dX13_cover_77 : decode cX13_cover 77 = .ok (.iconst 0, 1) := by decide +kernel
theorem dX13_cover_78 : decode cX13_cover 78 = .ok (.istore 6, 2) := by decide +kernel
theorem dX13_cover_80 : decode cX13_cover 80 = .ok (.aload_n 0, 1) := by decide +kernel
theorem dX13_cover_81 : decode cX13_cover 81 = .ok (.iload_n 1, 1) := by decide +kernel
theorem dX13_cover_82 : decode cX13_cover 82 = .ok (.invokevirtual 428, 3) := by decide +kernel
theorem dX13_cover_85 : decode cX13_cover 85 = .ok (.aload_n 0, 1) := by decide +kernel
theorem dX13_cover_86 : decode cX13_cover 86 = .ok (.getfield 27, 3) := by decide +kernel
theorem dX13_cover_89 : decode cX13_cover 89 = .ok (.iload_n 2, 1) := by decide +kernel
theorem dX13_cover_90 : decode cX13_cover 90 = .ok (.iconst 2, 1) := by decide +kernel
theorem dX13_cover_91 : decode cX13_cover 91 = .ok (.iload 5, 2) := by decide +kernel
theorem dX13_cover_93 : decode cX13_cover 93 = .ok (.imul, 1) := by decide +kernel
theorem dX13_cover_94 : decode cX13_cover 94 = .ok (.iastore, 1) := by decide +kernel
theorem dX13_cover_95 : decode cX13_cover 95 = .ok (.iconst 1, 1) := by decide +kernel
theorem dX13_cover_96 : decode cX13_cover 96 = .ok (.istore 7, 2) := by decide +kernel
theorem dX13_cover_98 : decode cX13_cover 98 = .ok (.iload 7, 2) := by decide +kernel
theorem dX13_cover_100 : decode cX13_cover 100 = .ok (.iload 4, 2) := by decide +kernel
theorem dX13_cover_102 : decode cX13_cover 102 = .ok (.if_icmp .ge 58, 3) := by decide +kernel
theorem dX13_cover_105 : decode cX13_cover 105 = .ok (.aload_n 0, 1) := by decide +kernel
theorem dX13_cover_106 : decode cX13_cover 106 = .ok (.aload_n 0, 1) := by decide +kernel
theorem dX13_cover_107 : decode cX13_cover 107 = .ok (.getfield 397, 3) := by decide +kernel
theorem dX13_cover_110 : decode cX13_cover 110 = .ok (.getfield 334, 3) := by decide +kernel
theorem dX13_cover_113 : decode cX13_cover 113 = .ok (.bipush 6, 2) := by decide +kernel
theorem dX13_cover_115 : decode cX13_cover 115 = .ok (.aload_n 0, 1) := by decide +kernel
theorem dX13_cover_116 : decode cX13_cover 116 = .ok (.getfield 42, 3) := by decide +kernel
theorem dX13_cover_119 : decode cX13_cover 119 = .ok (.iload 7, 2) := by decide +kernel
theorem dX13_cover_121 : decode cX13_cover 121 = .ok (.iconst 1, 1) := by decide +kernel
theorem dX13_cover_122 : decode cX13_cover 122 = .ok (.isub, 1) := by decide +kernel
theorem dX13_cover_123 : decode cX13_cover 123 = .ok (.iaload, 1) := by decide +kernel
theorem dX13_cover_124 : decode cX13_cover 124 = .ok (.imul, 1) := by decide +kernel
theorem dX13_cover_125 : decode cX13_cover 125 = .ok (.aload_n 0, 1) := by decide +kernel
theorem dX13_cover_126 : decode cX13_cover 126 = .ok (.getfield 42, 3) := by decide +kernel
theorem dX13_cover_129 : decode cX13_cover 129 = .ok (.iload 7, 2) := by decide +kernel
theorem dX13_cover_131 : decode cX13_cover 131 = .ok (.iaload, 1) := by decide +kernel
theorem dX13_cover_132 : decode cX13_cover 132 = .ok (.iadd, 1) := by decide +kernel
theorem dX13_cover_133 : decode cX13_cover 133 = .ok (.iaload, 1) := by decide +kernel
theorem dX13_cover_134 : decode cX13_cover 134 = .ok (.invokevirtual 431, 3) := by decide +kernel
theorem dX13_cover_137 : decode cX13_cover 137 = .ok (.iload 6, 2) := by decide +kernel
theorem dX13_cover_139 : decode cX13_cover 139 = .ok (.aload_n 0, 1) := by decide +kernel
theorem dX13_cover_140 : decode cX13_cover 140 = .ok (.iload_n 1, 1) := by decide +kernel
theorem dX13_cover_141 : decode cX13_cover 141 = .ok (.aload_n 0, 1) := by decide +kernel
theorem dX13_cover_142 : decode cX13_cover 142 = .ok (.getfield 42, 3) := by decide +kernel
theorem dX13_cover_145 : decode cX13_cover 145 = .ok (.iload 7, 2) := by decide +kernel
theorem dX13_cover_147 : decode cX13_cover 147 = .ok (.iaload, 1) := by decide +kernel
theorem dX13_cover_148 : decode cX13_cover 148 = .ok (.invokevirtual 442, 3) := by decide +kernel
theorem dX13_cover_151 : decode cX13_cover 151 = .ok (.iadd, 1) := by decide +kernel
theorem dX13_cover_152 : decode cX13_cover 152 = .ok (.istore 6, 2) := by decide +kernel
theorem dX13_cover_154 : decode cX13_cover 154 = .ok (.iinc 7 1, 3) := by decide +kernel
theorem dX13_cover_157 : decode cX13_cover 157 = .ok (.goto (-59), 3) := by decide +kernel
theorem dX13_cover_160 : decode cX13_cover 160 = .ok (.iload 6, 2) := by decide +kernel
theorem dX13_cover_162 : decode cX13_cover 162 = .ok (.ifCond .ne 10, 3) := by decide +kernel
theorem dX13_cover_165 : decode cX13_cover 165 = .ok (.aload_n 0, 1) := by decide +kernel
theorem dX13_cover_166 : decode cX13_cover 166 = .ok (.iload 5, 2) := by decide +kernel
theorem dX13_cover_168 : decode cX13_cover 168 = .ok (.invokevirtual 82, 3) := by decide +kernel
theorem dX13_cover_171 : decode cX13_cover 171 = .ok (.ireturn, 1) := by decide +kernel
theorem dX13_cover_172 : decode cX13_cover 172 = .ok (.iinc 5 1, 3) := by decide +kernel
theorem dX13_cover_175 : decode cX13_cover 175 = .ok (.goto (-110), 3) := by decide +kernel
theorem dX13_cover_178 : decode cX13_cover 178 = .ok (.aload_n 0, 1) := by decide +kernel
theorem dX13_cover_179 : decode cX13_cover 179 = .ok (.bipush (-2), 2) := by decide +kernel
theorem dX13_cover_181 : decode cX13_cover 181 = .ok (.invokevirtual 82, 3) := by decide +kernel
theorem dX13_cover_184 : decode cX13_cover 184 = .ok (.ireturn, 1) := by decide +kernel
theorem dX13_comesBy_0 : decode cX13_comesBy 0 = .ok (.iconst 0, 1) := by decide +kernel
theorem dX13_comesBy_1 : decode cX13_comesBy 1 = .ok (.istore_n 2, 1) := by decide +kernel
theorem dX13_comesBy_2 : decode cX13_comesBy 2 = .ok (.iload_n 2, 1) := by decide +kernel
theorem dX13_comesBy_3 : decode cX13_comesBy 3 = .ok (.aload_n 0, 1) := by decide +kernel
theorem dX13_comesBy_4 : decode cX13_comesBy 4 = .ok (.getfield 397, 3) := by decide +kernel
theorem dX13_comesBy_7 : decode cX13_comesBy 7 = .ok (.getfield 301, 3) := by decide +kernel
theorem dX13_comesBy_10 : decode cX13_comesBy 10 = .ok (.if_icmp .ge 43, 3) := by decide +kernel
theorem dX13_comesBy_13 : decode cX13_comesBy 13 = .ok (.iconst 2, 1) := by decide +kernel
theorem dX13_comesBy_14 : decode cX13_comesBy 14 = .ok (.aload_n 0, 1) := by decide +kernel
theorem dX13_comesBy_15 : decode cX13_comesBy 15 = .ok (.getfield 397, 3) := by decide +kernel
theorem dX13_comesBy_18 : decode cX13_comesBy 18 = .ok (.getfield 341, 3) := by decide +kernel
theorem dX13_comesBy_21 : decode cX13_comesBy 21 = .ok (.bipush 6, 2) := by decide +kernel
theorem dX13_comesBy_23 : decode cX13_comesBy 23 = .ok (.iload_n 1, 1) := by decide +kernel
theorem dX13_comesBy_24 : decode cX13_comesBy 24 = .ok (.imul, 1) := by decide +kernel
theorem dX13_comesBy_25 : decode cX13_comesBy 25 = .ok (.iload_n 2, 1) := by decide +kernel
theorem dX13_comesBy_26 : decode cX13_comesBy 26 = .ok (.iadd, 1) := by decide +kernel
theorem dX13_comesBy_27 : decode cX13_comesBy 27 = .ok (.iaload, 1) := by decide +kernel
theorem dX13_comesBy_28 : decode cX13_comesBy 28 = .ok (.imul, 1) := by decide +kernel
theorem dX13_comesBy_29 : decode cX13_comesBy 29 = .ok (.istore_n 3, 1) := by decide +kernel
theorem dX13_comesBy_30 : decode cX13_comesBy 30 = .ok (.iload_n 3, 1) := by decide +kernel
theorem dX13_comesBy_31 : decode cX13_comesBy 31 = .ok (.aload_n 0, 1) := by decide +kernel
theorem dX13_comesBy_32 : decode cX13_comesBy 32 = .ok (.getfield 27, 3) := by decide +kernel
theorem dX13_comesBy_35 : decode cX13_comesBy 35 = .ok (.iload_n 2, 1) := by decide +kernel
theorem dX13_comesBy_36 : decode cX13_comesBy 36 = .ok (.iaload, 1) := by decide +kernel
theorem dX13_comesBy_37 : decode cX13_comesBy 37 = .ok (.if_icmp .le 10, 3) := by decide +kernel
theorem dX13_comesBy_40 : decode cX13_comesBy 40 = .ok (.aload_n 0, 1) := by decide +kernel
theorem dX13_comesBy_41 : decode cX13_comesBy 41 = .ok (.getfield 27, 3) := by decide +kernel
theorem dX13_comesBy_44 : decode cX13_comesBy 44 = .ok (.iload_n 2, 1) := by decide +kernel
theorem dX13_comesBy_45 : decode cX13_comesBy 45 = .ok (.iload_n 3, 1) := by decide +kernel
theorem dX13_comesBy_46 : decode cX13_comesBy 46 = .ok (.iastore, 1) := by decide +kernel
theorem dX13_comesBy_47 : decode cX13_comesBy 47 = .ok (.iinc 2 1, 3) := by decide +kernel
theorem dX13_comesBy_50 : decode cX13_comesBy 50 = .ok (.goto (-48), 3) := by decide +kernel
theorem dX13_comesBy_53 : decode cX13_comesBy 53 = .ok (.return_, 1) := by decide +kernel
theorem dX13_isWhiffed_0 : decode cX13_isWhiffed 0 = .ok (.iconst 0, 1) := by decide +kernel
theorem dX13_isWhiffed_1 : decode cX13_isWhiffed 1 = .ok (.istore_n 2, 1) := by decide +kernel
theorem dX13_isWhiffed_2 : decode cX13_isWhiffed 2 = .ok (.iload_n 2, 1) := by decide +kernel
theorem dX13_isWhiffed_3 : decode cX13_isWhiffed 3 = .ok (.bipush 6, 2) := by decide +kernel
theorem dX13_isWhiffed_5 : decode cX13_isWhiffed 5 = .ok (.if_icmp .ge 16, 3) := by decide +kernel
theorem dX13_isWhiffed_8 : decode cX13_isWhiffed 8 = .ok (.aload_n 0, 1) := by decide +kernel
theorem dX13_isWhiffed_9 : decode cX13_isWhiffed 9 = .ok (.getfield 27, 3) := by decide +kernel
theorem dX13_isWhiffed_12 : decode cX13_isWhiffed 12 = .ok (.iload_n 2, 1) := by decide +kernel
theorem dX13_isWhiffed_13 : decode cX13_isWhiffed 13 = .ok (.iconst 0, 1) := by decide +kernel
theorem dX13_isWhiffed_14 : decode cX13_isWhiffed 14 = .ok (.iastore, 1) := by decide +kernel
theorem dX13_isWhiffed_15 : decode cX13_isWhiffed 15 = .ok (.iinc 2 1, 3) := by decide +kernel
theorem dX13_isWhiffed_18 : decode cX13_isWhiffed 18 = .ok (.goto (-16), 3) := by decide +kernel
theorem dX13_isWhiffed_21 : decode cX13_isWhiffed 21 = .ok (.iconst 0, 1) := by decide +kernel
theorem dX13_isWhiffed_22 : decode cX13_isWhiffed 22 = .ok (.istore_n 2, 1) := by decide +kernel
theorem dX13_isWhiffed_23 : decode cX13_isWhiffed 23 = .ok (.iload_n 2, 1) := by decide +kernel
theorem dX13_isWhiffed_24 : decode cX13_isWhiffed 24 = .ok (.iload_n 1, 1) := by decide +kernel
theorem dX13_isWhiffed_25 : decode cX13_isWhiffed 25 = .ok (.if_icmp .ge 53, 3) := by decide +kernel
theorem dX13_isWhiffed_28 : decode cX13_isWhiffed 28 = .ok (.iload_n 2, 1) := by decide +kernel
theorem dX13_isWhiffed_29 : decode cX13_isWhiffed 29 = .ok (.ifCond .le 33, 3) := by decide +kernel
theorem dX13_isWhiffed_32 : decode cX13_isWhiffed 32 = .ok (.aload_n 0, 1) := by decide +kernel
theorem dX13_isWhiffed_33 : decode cX13_isWhiffed 33 = .ok (.aload_n 0, 1) := by decide +kernel
theorem dX13_isWhiffed_34 : decode cX13_isWhiffed 34 = .ok (.getfield 397, 3) := by decide +kernel
theorem dX13_isWhiffed_37 : decode cX13_isWhiffed 37 = .ok (.getfield 334, 3) := by decide +kernel
theorem dX13_isWhiffed_40 : decode cX13_isWhiffed 40 = .ok (.bipush 6, 2) := by decide +kernel
theorem dX13_isWhiffed_42 : decode cX13_isWhiffed 42 = .ok (.aload_n 0, 1) := by decide +kernel
theorem dX13_isWhiffed_43 : decode cX13_isWhiffed 43 = .ok (.getfield 57, 3) := by decide +kernel
theorem dX13_isWhiffed_46 : decode cX13_isWhiffed 46 = .ok (.iload_n 2, 1) := by decide +kernel
theorem dX13_isWhiffed_47 : decode cX13_isWhiffed 47 = .ok (.iconst 1, 1) := by decide +kernel
theorem dX13_isWhiffed_48 : decode cX13_isWhiffed 48 = .ok (.isub, 1) := by decide +kernel
theorem dX13_isWhiffed_49 : decode cX13_isWhiffed 49 = .ok (.iaload, 1) := by decide +kernel
theorem dX13_isWhiffed_50 : decode cX13_isWhiffed 50 = .ok (.imul, 1) := by decide +kernel
theorem dX13_isWhiffed_51 : decode cX13_isWhiffed 51 = .ok (.aload_n 0, 1) := by decide +kernel
theorem dX13_isWhiffed_52 : decode cX13_isWhiffed 52 = .ok (.getfield 57, 3) := by decide +kernel
theorem dX13_isWhiffed_55 : decode cX13_isWhiffed 55 = .ok (.iload_n 2, 1) := by decide +kernel
theorem dX13_isWhiffed_56 : decode cX13_isWhiffed 56 = .ok (.iaload, 1) := by decide +kernel
theorem dX13_isWhiffed_57 : decode cX13_isWhiffed 57 = .ok (.iadd, 1) := by decide +kernel
theorem dX13_isWhiffed_58 : decode cX13_isWhiffed 58 = .ok (.iaload, 1) := by decide +kernel
theorem dX13_isWhiffed_59 : decode cX13_isWhiffed 59 = .ok (.invokevirtual 431, 3) := by decide +kernel
theorem dX13_isWhiffed_62 : decode cX13_isWhiffed 62 = .ok (.aload_n 0, 1) := by decide +kernel
theorem dX13_isWhiffed_63 : decode cX13_isWhiffed 63 = .ok (.aload_n 0, 1) := by decide +kernel
theorem dX13_isWhiffed_64 : decode cX13_isWhiffed 64 = .ok (.getfield 57, 3) := by decide +kernel
theorem dX13_isWhiffed_67 : decode cX13_isWhiffed 67 = .ok (.iload_n 2, 1) := by decide +kernel
theorem dX13_isWhiffed_68 : decode cX13_isWhiffed 68 = .ok (.iaload, 1) := by decide +kernel
theorem dX13_isWhiffed_69 : decode cX13_isWhiffed 69 = .ok (.invokevirtual 469, 3) := by decide +kernel
theorem dX13_isWhiffed_72 : decode cX13_isWhiffed 72 = .ok (.iinc 2 1, 3) := by decide +kernel
theorem dX13_isWhiffed_75 : decode cX13_isWhiffed 75 = .ok (.goto (-52), 3) := by decide +kernel
theorem dX13_isWhiffed_78 : decode cX13_isWhiffed 78 = .ok (.iconst 0, 1) := by decide +kernel
theorem dX13_isWhiffed_79 : decode cX13_isWhiffed 79 = .ok (.istore_n 2, 1) := by decide +kernel
theorem dX13_isWhiffed_80 : decode cX13_isWhiffed 80 = .ok (.iload_n 2, 1) := by decide +kernel
theorem dX13_isWhiffed_81 : decode cX13_isWhiffed 81 = .ok (.aload_n 0, 1) := by decide +kernel
theorem dX13_isWhiffed_82 : decode cX13_isWhiffed 82 = .ok (.getfield 397, 3) := by decide +kernel
theorem dX13_isWhiffed_85 : decode cX13_isWhiffed 85 = .ok (.getfield 301, 3) := by decide +kernel
theorem dX13_isWhiffed_88 : decode cX13_isWhiffed 88 = .ok (.if_icmp .ge 44, 3) := by decide +kernel
theorem dX13_isWhiffed_91 : decode cX13_isWhiffed 91 = .ok (.aload_n 0, 1) := by decide +kernel
theorem dX13_isWhiffed_92 : decode cX13_isWhiffed 92 = .ok (.getfield 397, 3) := by decide +kernel
theorem dX13_isWhiffed_95 : decode cX13_isWhiffed 95 = .ok (.getfield 274, 3) := by decide +kernel
theorem dX13_isWhiffed_98 : decode cX13_isWhiffed 98 = .ok (.iload_n 2, 1) := by decide +kernel
theorem dX13_isWhiffed_99 : decode cX13_isWhiffed 99 = .ok (.iaload, 1) := by decide +kernel
theorem dX13_isWhiffed_100 : decode cX13_isWhiffed 100 = .ok (.iconst (-1), 1) := by decide +kernel
theorem dX13_isWhiffed_101 : decode cX13_isWhiffed 101 = .ok (.if_icmp .eq 25, 3) := by decide +kernel
theorem dX13_isWhiffed_104 : decode cX13_isWhiffed 104 = .ok (.aload_n 0, 1) := by decide +kernel
theorem dX13_isWhiffed_105 : decode cX13_isWhiffed 105 = .ok (.getfield 27, 3) := by decide +kernel
theorem dX13_isWhiffed_108 : decode cX13_isWhiffed 108 = .ok (.iload_n 2, 1) := by decide +kernel
theorem dX13_isWhiffed_109 : decode cX13_isWhiffed 109 = .ok (.iaload, 1) := by decide +kernel
theorem dX13_isWhiffed_110 : decode cX13_isWhiffed 110 = .ok (.iconst 2, 1) := by decide +kernel
theorem dX13_isWhiffed_111 : decode cX13_isWhiffed 111 = .ok (.idiv, 1) := by decide +kernel
theorem dX13_isWhiffed_112 : decode cX13_isWhiffed 112 = .ok (.aload_n 0, 1) := by decide +kernel
theorem dX13_isWhiffed_113 : decode cX13_isWhiffed 113 = .ok (.getfield 397, 3) := by decide +kernel
theorem dX13_isWhiffed_116 : decode cX13_isWhiffed 116 = .ok (.getfield 274, 3) := by decide +kernel
theorem dX13_isWhiffed_119 : decode cX13_isWhiffed 119 = .ok (.iload_n 2, 1) := by decide +kernel
theorem dX13_isWhiffed_120 : decode cX13_isWhiffed 120 = .ok (.iaload, 1) := by decide +kernel
theorem dX13_isWhiffed_121 : decode cX13_isWhiffed 121 = .ok (.if_icmp .eq 5, 3) := by decide +kernel
theorem dX13_isWhiffed_124 : decode cX13_isWhiffed 124 = .ok (.iconst 0, 1) := by decide +kernel
theorem dX13_isWhiffed_125 : decode cX13_isWhiffed 125 = .ok (.ireturn, 1) := by decide +kernel
theorem dX13_isWhiffed_126 : decode cX13_isWhiffed 126 = .ok (.iinc 2 1, 3) := by decide +kernel
theorem dX13_isWhiffed_129 : decode cX13_isWhiffed 129 = .ok (.goto (-49), 3) := by decide +kernel
theorem dX13_isWhiffed_132 : decode cX13_isWhiffed 132 = .ok (.iconst 1, 1) := by decide +kernel
theorem dX13_isWhiffed_133 : decode cX13_isWhiffed 133 = .ok (.ireturn, 1) := by decide +kernel
theorem dX13_beens_0 : decode cX13_beens 0 = .ok (.aload_n 0, 1) := by decide +kernel
theorem dX13_beens_1 : decode cX13_beens 1 = .ok (.iconst 0, 1) := by decide +kernel
theorem dX13_beens_2 : decode cX13_beens 2 = .ok (.putfield 472, 3) := by decide +kernel
theorem dX13_beens_5 : decode cX13_beens 5 = .ok (.aload_n 0, 1) := by decide +kernel
theorem dX13_beens_6 : decode cX13_beens 6 = .ok (.iconst 0, 1) := by decide +kernel
theorem dX13_beens_7 : decode cX13_beens 7 = .ok (.putfield 475, 3) := by decide +kernel
theorem dX13_beens_10 : decode cX13_beens 10 = .ok (.aload_n 0, 1) := by decide +kernel
theorem dX13_beens_11 : decode cX13_beens 11 = .ok (.iconst 1, 1) := by decide +kernel
theorem dX13_beens_12 : decode cX13_beens 12 = .ok (.aload_n 0, 1) := by decide +kernel
theorem dX13_beens_13 : decode cX13_beens 13 = .ok (.getfield 397, 3) := by decide +kernel
theorem dX13_beens_16 : decode cX13_beens 16 = .ok (.getfield 230, 3) := by decide +kernel
theorem dX13_beens_19 : decode cX13_beens 19 = .ok (.ishl, 1) := by decide +kernel
theorem dX13_beens_20 : decode cX13_beens 20 = .ok (.iconst 1, 1) := by decide +kernel
theorem dX13_beens_21 : decode cX13_beens 21 = .ok (.isub, 1) := by decide +kernel
theorem dX13_beens_22 : decode cX13_beens 22 = .ok (.putfield 478, 3) := by decide +kernel
theorem dX13_beens_25 : decode cX13_beens 25 = .ok (.iconst 1, 1) := by decide +kernel
theorem dX13_beens_26 : decode cX13_beens 26 = .ok (.istore_n 1, 1) := by decide +kernel
theorem dX13_beens_27 : decode cX13_beens 27 = .ok (.iload_n 1, 1) := by decide +kernel
theorem dX13_beens_28 : decode cX13_beens 28 = .ok (.iconst 4, 1) := by decide +kernel
theorem dX13_beens_29 : decode cX13_beens 29 = .ok (.if_icmp .gt 25, 3) := by decide +kernel
theorem dX13_beens_32 : decode cX13_beens 32 = .ok (.iload_n 1, 1) := by decide +kernel
theorem dX13_beens_33 : decode cX13_beens 33 = .ok (.aload_n 0, 1) := by decide +kernel
theorem dX13_beens_34 : decode cX13_beens 34 = .ok (.getfield 397, 3) := by decide +kernel
theorem dX13_beens_37 : decode cX13_beens 37 = .ok (.getfield 230, 3) := by decide +kernel
theorem dX13_beens_40 : decode cX13_beens 40 = .ok (.if_icmp .gt 14, 3) := by decide +kernel
theorem dX13_beens_43 : decode cX13_beens 43 = .ok (.aload_n 0, 1) := by decide +kernel
theorem dX13_beens_44 : decode cX13_beens 44 = .ok (.iload_n 1, 1) := by decide +kernel
theorem dX13_beens_45 : decode cX13_beens 45 = .ok (.invokevirtual 481, 3) := by decide +kernel
theorem dX13_beens_48 : decode cX13_beens 48 = .ok (.iinc 1 1, 3) := by decide +kernel
theorem dX13_beens_51 : decode cX13_beens 51 = .ok (.goto (-24), 3) := by decide +kernel
theorem dX13_beens_54 : decode cX13_beens 54 = .ok (.aload_n 0, 1) := by decide +kernel
theorem dX13_beens_55 : decode cX13_beens 55 = .ok (.getfield 472, 3) := by decide +kernel
theorem dX13_beens_58 : decode cX13_beens 58 = .ok (.ifCond .ne 8, 3) := by decide +kernel
theorem dX13_beens_61 : decode cX13_beens 61 = .ok (.aload_n 0, 1) := by decide +kernel
theorem dX13_beens_62 : decode cX13_beens 62 = .ok (.iconst 0, 1) := by decide +kernel
theorem dX13_beens_63 : decode cX13_beens 63 = .ok (.putfield 478, 3) := by decide +kernel
theorem dX13_beens_66 : decode cX13_beens 66 = .ok (.return_, 1) := by decide +kernel
theorem dX13_isNext_0 : decode cX13_isNext 0 = .ok (.iconst 0, 1) := by decide +kernel
theorem dX13_isNext_1 : decode cX13_isNext 1 = .ok (.istore_n 2, 1) := by decide +kernel
theorem dX13_isNext_2 : decode cX13_isNext 2 = .ok (.iload_n 2, 1) := by decide +kernel
theorem dX13_isNext_3 : decode cX13_isNext 3 = .ok (.iload_n 1, 1) := by decide +kernel
theorem dX13_isNext_4 : decode cX13_isNext 4 = .ok (.if_icmp .ge 26, 3) := by decide +kernel
theorem dX13_isNext_7 : decode cX13_isNext 7 = .ok (.aload_n 0, 1) := by decide +kernel
theorem dX13_isNext_8 : decode cX13_isNext 8 = .ok (.getfield 57, 3) := by decide +kernel
theorem dX13_isNext_11 : decode cX13_isNext 11 = .ok (.iload_n 2, 1) := by decide +kernel
theorem dX13_isNext_12 : decode cX13_isNext 12 = .ok (.iaload, 1) := by decide +kernel
theorem dX13_isNext_13 : decode cX13_isNext 13 = .ok (.aload_n 0, 1) := by decide +kernel
theorem dX13_isNext_14 : decode cX13_isNext 14 = .ok (.getfield 57, 3) := by decide +kernel
theorem dX13_isNext_17 : decode cX13_isNext 17 = .ok (.iload_n 1, 1) := by decide +kernel
theorem dX13_isNext_18 : decode cX13_isNext 18 = .ok (.iaload, 1) := by decide +kernel
theorem dX13_isNext_19 : decode cX13_isNext 19 = .ok (.if_icmp .ne 5, 3) := by decide +kernel
theorem dX13_isNext_22 : decode cX13_isNext 22 = .ok (.iconst 0, 1) := by decide +kernel
theorem dX13_isNext_23 : decode cX13_isNext 23 = .ok (.ireturn, 1) := by decide +kernel
theorem dX13_isNext_24 : decode cX13_isNext 24 = .ok (.iinc 2 1, 3) := by decide +kernel
theorem dX13_isNext_27 : decode cX13_isNext 27 = .ok (.goto (-25), 3) := by decide +kernel
theorem dX13_isNext_30 : decode cX13_isNext 30 = .ok (.iload_n 1, 1) := by decide +kernel
theorem dX13_isNext_31 : decode cX13_isNext 31 = .ok (.ifCond .eq 32, 3) := by decide +kernel
theorem dX13_isNext_34 : decode cX13_isNext 34 = .ok (.aload_n 0, 1) := by decide +kernel
theorem dX13_isNext_35 : decode cX13_isNext 35 = .ok (.getfield 397, 3) := by decide +kernel
theorem dX13_isNext_38 : decode cX13_isNext 38 = .ok (.getfield 334, 3) := by decide +kernel
theorem dX13_isNext_41 : decode cX13_isNext 41 = .ok (.bipush 6, 2) := by decide +kernel
theorem dX13_isNext_43 : decode cX13_isNext 43 = .ok (.aload_n 0, 1) := by decide +kernel
theorem dX13_isNext_44 : decode cX13_isNext 44 = .ok (.getfield 57, 3) := by decide +kernel
theorem dX13_isNext_47 : decode cX13_isNext 47 = .ok (.iload_n 1, 1) := by decide +kernel
theorem dX13_isNext_48 : decode cX13_isNext 48 = .ok (.iconst 1, 1) := by decide +kernel
theorem dX13_isNext_49 : decode cX13_isNext 49 = .ok (.isub, 1) := by decide +kernel
theorem dX13_isNext_50 : decode cX13_isNext 50 = .ok (.iaload, 1) := by decide +kernel
theorem dX13_isNext_51 : decode cX13_isNext 51 = .ok (.imul, 1) := by decide +kernel
theorem dX13_isNext_52 : decode cX13_isNext 52 = .ok (.aload_n 0, 1) := by decide +kernel
theorem dX13_isNext_53 : decode cX13_isNext 53 = .ok (.getfield 57, 3) := by decide +kernel
theorem dX13_isNext_56 : decode cX13_isNext 56 = .ok (.iload_n 1, 1) := by decide +kernel
theorem dX13_isNext_57 : decode cX13_isNext 57 = .ok (.iaload, 1) := by decide +kernel
theorem dX13_isNext_58 : decode cX13_isNext 58 = .ok (.iadd, 1) := by decide +kernel
theorem dX13_isNext_59 : decode cX13_isNext 59 = .ok (.iaload, 1) := by decide +kernel
theorem dX13_isNext_60 : decode cX13_isNext 60 = .ok (.ifCond .le 7, 3) := by decide +kernel
theorem dX13_isNext_63 : decode cX13_isNext 63 = .ok (.iconst 1, 1) := by decide +kernel
theorem dX13_isNext_64 : decode cX13_isNext 64 = .ok (.goto 4, 3) := by decide +kernel
theorem dX13_isNext_67 : decode cX13_isNext 67 = .ok (.iconst 0, 1) := by decide +kernel
theorem dX13_isNext_68 : decode cX13_isNext 68 = .ok (.ireturn, 1) := by decide +kernel
theorem dX13_beensOf_0 : decode cX13_beensOf 0 = .ok (.iconst 0, 1) := by decide +kernel
theorem dX13_beensOf_1 : decode cX13_beensOf 1 = .ok (.istore_n 2, 1) := by decide +kernel
theorem dX13_beensOf_2 : decode cX13_beensOf 2 = .ok (.aload_n 0, 1) := by decide +kernel
theorem dX13_beensOf_3 : decode cX13_beensOf 3 = .ok (.getfield 57, 3) := by decide +kernel
theorem dX13_beensOf_6 : decode cX13_beensOf 6 = .ok (.iconst 0, 1) := by decide +kernel
theorem dX13_beensOf_7 : decode cX13_beensOf 7 = .ok (.iconst (-1), 1) := by decide +kernel
theorem dX13_beensOf_8 : decode cX13_beensOf 8 = .ok (.iastore, 1) := by decide +kernel
theorem dX13_beensOf_9 : decode cX13_beensOf 9 = .ok (.iload_n 2, 1) := by decide +kernel
theorem dX13_beensOf_10 : decode cX13_beensOf 10 = .ok (.ifCond .lt 108, 3) := by decide +kernel
theorem dX13_beensOf_13 : decode cX13_beensOf 13 = .ok (.aload_n 0, 1) := by decide +kernel
theorem dX13_beensOf_14 : decode cX13_beensOf 14 = .ok (.getfield 57, 3) := by decide +kernel
theorem dX13_beensOf_17 : decode cX13_beensOf 17 = .ok (.iload_n 2, 1) := by decide +kernel
theorem dX13_beensOf_18 : decode cX13_beensOf 18 = .ok (.dup2, 1) := by decide +kernel
theorem dX13_beensOf_19 : decode cX13_beensOf 19 = .ok (.iaload, 1) := by decide +kernel
theorem dX13_beensOf_20 : decode cX13_beensOf 20 = .ok (.iconst 1, 1) := by decide +kernel
theorem dX13_beensOf_21 : decode cX13_beensOf 21 = .ok (.iadd, 1) := by decide +kernel
theorem dX13_beensOf_22 : decode cX13_beensOf 22 = .ok (.iastore, 1) := by decide +kernel
theorem dX13_beensOf_23 : decode cX13_beensOf 23 = .ok (.aload_n 0, 1) := by decide +kernel
theorem dX13_beensOf_24 : decode cX13_beensOf 24 = .ok (.getfield 57, 3) := by decide +kernel
theorem dX13_beensOf_27 : decode cX13_beensOf 27 = .ok (.iload_n 2, 1) := by decide +kernel
theorem dX13_beensOf_28 : decode cX13_beensOf 28 = .ok (.iaload, 1) := by decide +kernel
theorem dX13_beensOf_29 : decode cX13_beensOf 29 = .ok (.aload_n 0, 1) := by decide +kernel
theorem dX13_beensOf_30 : decode cX13_beensOf 30 = .ok (.getfield 397, 3) := by decide +kernel
theorem dX13_beensOf_33 : decode cX13_beensOf 33 = .ok (.getfield 230, 3) := by decide +kernel
theorem dX13_beensOf_36 : decode cX13_beensOf 36 = .ok (.if_icmp .ge 24, 3) := by decide +kernel
theorem dX13_beensOf_39 : decode cX13_beensOf 39 = .ok (.aload_n 0, 1) := by decide +kernel
theorem dX13_beensOf_40 : decode cX13_beensOf 40 = .ok (.iload_n 2, 1) := by decide +kernel
