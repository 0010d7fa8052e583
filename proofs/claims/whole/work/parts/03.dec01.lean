theorem dX6_readLine_203 : decode cX6_readLine 203 = .ok (.ireturn, 1) := by decide +kernel
theorem dX6_readLine_204 : decode cX6_readLine 204 = .ok (.aload_n 0, 1) := by decide +kernel
theorem dX6_readLine_205 : decode cX6_readLine 205 = .ok (.invokevirtual 99, 3) := by decide +kernel
theorem dX6_readLine_208 : decode cX6_readLine 208 = .ok (.ireturn, 1) := by decide +kernel
theorem dX6_readLine_209 : decode cX6_readLine 209 = .ok (.aload_n 0, 1) := by decide +kernel
theorem dX6_readLine_210 : decode cX6_readLine 210 = .ok (.invokevirtual 102, 3) := by decide +kernel
theorem dX6_readLine_213 : decode cX6_readLine 213 = .ok (.ireturn, 1) := by decide +kernel
theorem dX6_readLine_214 : decode cX6_readLine 214 = .ok (.aload_n 0, 1) := by decide +kernel
theorem dX6_readLine_215 : decode cX6_readLine 215 = .ok (.bipush 6, 2) := by decide +kernel
theorem dX6_readLine_217 : decode cX6_readLine 217 = .ok (.iconst 4, 1) := by decide +kernel
theorem dX6_readLine_218 : decode cX6_readLine 218 = .ok (.aload_n 0, 1) := by decide +kernel
theorem dX6_readLine_219 : decode cX6_readLine 219 = .ok (.getfield 12, 3) := by decide +kernel
theorem dX6_readLine_222 : decode cX6_readLine 222 = .ok (.getfield 105, 3) := by decide +kernel
theorem dX6_readLine_225 : decode cX6_readLine 225 = .ok (.bipush 60, 2) := by decide +kernel
theorem dX6_readLine_227 : decode cX6_readLine 227 = .ok (.invokevirtual 109, 3) := by decide +kernel
theorem dX6_readLine_230 : decode cX6_readLine 230 = .ok (.ireturn, 1) := by decide +kernel
theorem dX6_readLine_231 : decode cX6_readLine 231 = .ok (.aload_n 0, 1) := by decide +kernel
theorem dX6_readLine_232 : decode cX6_readLine 232 = .ok (.invokevirtual 113, 3) := by decide +kernel
theorem dX6_readLine_235 : decode cX6_readLine 235 = .ok (.ireturn, 1) := by decide +kernel
theorem dX6_readLine_236 : decode cX6_readLine 236 = .ok (.aload_n 0, 1) := by decide +kernel
theorem dX6_readLine_237 : decode cX6_readLine 237 = .ok (.invokevirtual 116, 3) := by decide +kernel
theorem dX6_readLine_240 : decode cX6_readLine 240 = .ok (.ireturn, 1) := by decide +kernel
theorem dX6_readLine_241 : decode cX6_readLine 241 = .ok (.aload_n 0, 1) := by decide +kernel
theorem dX6_readLine_242 : decode cX6_readLine 242 = .ok (.invokevirtual 119, 3) := by decide +kernel
theorem dX6_readLine_245 : decode cX6_readLine 245 = .ok (.ireturn, 1) := by decide +kernel
theorem dX6_readLine_246 : decode cX6_readLine 246 = .ok (.aload_n 0, 1) := by decide +kernel
theorem dX6_readLine_247 : decode cX6_readLine 247 = .ok (.invokevirtual 122, 3) := by decide +kernel
theorem dX6_readLine_250 : decode cX6_readLine 250 = .ok (.ireturn, 1) := by decide +kernel
theorem dX6_readLine_251 : decode cX6_readLine 251 = .ok (.aload_n 0, 1) := by decide +kernel
theorem dX6_readLine_252 : decode cX6_readLine 252 = .ok (.bipush 11, 2) := by decide +kernel
theorem dX6_readLine_254 : decode cX6_readLine 254 = .ok (.bipush 7, 2) := by decide +kernel
theorem dX6_readLine_256 : decode cX6_readLine 256 = .ok (.aload_n 0, 1) := by decide +kernel
theorem dX6_readLine_257 : decode cX6_readLine 257 = .ok (.getfield 12, 3) := by decide +kernel
theorem dX6_readLine_260 : decode cX6_readLine 260 = .ok (.getfield 125, 3) := by decide +kernel
theorem dX6_readLine_263 : decode cX6_readLine 263 = .ok (.bipush 99, 2) := by decide +kernel
theorem dX6_readLine_265 : decode cX6_readLine 265 = .ok (.invokevirtual 109, 3) := by decide +kernel
theorem dX6_readLine_268 : decode cX6_readLine 268 = .ok (.ireturn, 1) := by decide +kernel
theorem dX6_readWind_0 : decode cX6_readWind 0 = .ok (.aload_n 0, 1) := by decide +kernel
theorem dX6_readWind_1 : decode cX6_readWind 1 = .ok (.ldc 128, 2) := by decide +kernel
theorem dX6_readWind_3 : decode cX6_readWind 3 = .ok (.invokevirtual 130, 3) := by decide +kernel
theorem dX6_readWind_6 : decode cX6_readWind 6 = .ok (.ifCond .eq 12, 3) := by decide +kernel
theorem dX6_readWind_9 : decode cX6_readWind 9 = .ok (.aload_n 0, 1) := by decide +kernel
theorem dX6_readWind_10 : decode cX6_readWind 10 = .ok (.iconst 1, 1) := by decide +kernel
theorem dX6_readWind_11 : decode cX6_readWind 11 = .ok (.iconst 5, 1) := by decide +kernel
theorem dX6_readWind_12 : decode cX6_readWind 12 = .ok (.invokevirtual 134, 3) := by decide +kernel
theorem dX6_readWind_15 : decode cX6_readWind 15 = .ok (.ifCond .ne 5, 3) := by decide +kernel
theorem dX6_readWind_18 : decode cX6_readWind 18 = .ok (.iconst 0, 1) := by decide +kernel
theorem dX6_readWind_19 : decode cX6_readWind 19 = .ok (.ireturn, 1) := by decide +kernel
theorem dX6_readWind_20 : decode cX6_readWind 20 = .ok (.aload_n 0, 1) := by decide +kernel
theorem dX6_readWind_21 : decode cX6_readWind 21 = .ok (.getfield 12, 3) := by decide +kernel
theorem dX6_readWind_24 : decode cX6_readWind 24 = .ok (.getfield 72, 3) := by decide +kernel
theorem dX6_readWind_27 : decode cX6_readWind 27 = .ok (.iconst 0, 1) := by decide +kernel
theorem dX6_readWind_28 : decode cX6_readWind 28 = .ok (.aload_n 0, 1) := by decide +kernel
theorem dX6_readWind_29 : decode cX6_readWind 29 = .ok (.getfield 137, 3) := by decide +kernel
theorem dX6_readWind_32 : decode cX6_readWind 32 = .ok (.iastore, 1) := by decide +kernel
theorem dX6_readWind_33 : decode cX6_readWind 33 = .ok (.iconst 1, 1) := by decide +kernel
theorem dX6_readWind_34 : decode cX6_readWind 34 = .ok (.ireturn, 1) := by decide +kernel
theorem dX6_readLand_0 : decode cX6_readLand 0 = .ok (.aload_n 0, 1) := by decide +kernel
theorem dX6_readLand_1 : decode cX6_readLand 1 = .ok (.iconst 1, 1) := by decide +kernel
theorem dX6_readLand_2 : decode cX6_readLand 2 = .ok (.invokevirtual 140, 3) := by decide +kernel
theorem dX6_readLand_5 : decode cX6_readLand 5 = .ok (.ifCond .eq 22, 3) := by decide +kernel
theorem dX6_readLand_8 : decode cX6_readLand 8 = .ok (.aload_n 0, 1) := by decide +kernel
theorem dX6_readLand_9 : decode cX6_readLand 9 = .ok (.ldc 144, 2) := by decide +kernel
theorem dX6_readLand_11 : decode cX6_readLand 11 = .ok (.invokevirtual 130, 3) := by decide +kernel
theorem dX6_readLand_14 : decode cX6_readLand 14 = .ok (.ifCond .eq 13, 3) := by decide +kernel
theorem dX6_readLand_17 : decode cX6_readLand 17 = .ok (.aload_n 0, 1) := by decide +kernel
theorem dX6_readLand_18 : decode cX6_readLand 18 = .ok (.iconst 0, 1) := by decide +kernel
theorem dX6_readLand_19 : decode cX6_readLand 19 = .ok (.bipush 9, 2) := by decide +kernel
theorem dX6_readLand_21 : decode cX6_readLand 21 = .ok (.invokevirtual 134, 3) := by decide +kernel
theorem dX6_readLand_24 : decode cX6_readLand 24 = .ok (.ifCond .ne 5, 3) := by decide +kernel
theorem dX6_readLand_27 : decode cX6_readLand 27 = .ok (.iconst 0, 1) := by decide +kernel
theorem dX6_readLand_28 : decode cX6_readLand 28 = .ok (.ireturn, 1) := by decide +kernel
theorem dX6_readLand_29 : decode cX6_readLand 29 = .ok (.aload_n 0, 1) := by decide +kernel
theorem dX6_readLand_30 : decode cX6_readLand 30 = .ok (.getfield 12, 3) := by decide +kernel
theorem dX6_readLand_33 : decode cX6_readLand 33 = .ok (.getfield 146, 3) := by decide +kernel
theorem dX6_readLand_36 : decode cX6_readLand 36 = .ok (.aload_n 0, 1) := by decide +kernel
theorem dX6_readLand_37 : decode cX6_readLand 37 = .ok (.getfield 12, 3) := by decide +kernel
theorem dX6_readLand_40 : decode cX6_readLand 40 = .ok (.getfield 72, 3) := by decide +kernel
theorem dX6_readLand_43 : decode cX6_readLand 43 = .ok (.iconst 1, 1) := by decide +kernel
theorem dX6_readLand_44 : decode cX6_readLand 44 = .ok (.iaload, 1) := by decide +kernel
theorem dX6_readLand_45 : decode cX6_readLand 45 = .ok (.aload_n 0, 1) := by decide +kernel
theorem dX6_readLand_46 : decode cX6_readLand 46 = .ok (.getfield 137, 3) := by decide +kernel
theorem dX6_readLand_49 : decode cX6_readLand 49 = .ok (.iastore, 1) := by decide +kernel
theorem dX6_readLand_50 : decode cX6_readLand 50 = .ok (.aload_n 0, 1) := by decide +kernel
theorem dX6_readLand_51 : decode cX6_readLand 51 = .ok (.iconst 1, 1) := by decide +kernel
theorem dX6_readLand_52 : decode cX6_readLand 52 = .ok (.invokevirtual 149, 3) := by decide +kernel
theorem dX6_readLand_55 : decode cX6_readLand 55 = .ok (.ireturn, 1) := by decide +kernel
theorem dX6_readSmell_0 : decode cX6_readSmell 0 = .ok (.aload_n 0, 1) := by decide +kernel
theorem dX6_readSmell_1 : decode cX6_readSmell 1 = .ok (.getfield 12, 3) := by decide +kernel
theorem dX6_readSmell_4 : decode cX6_readSmell 4 = .ok (.getfield 72, 3) := by decide +kernel
theorem dX6_readSmell_7 : decode cX6_readSmell 7 = .ok (.iconst 2, 1) := by decide +kernel
theorem dX6_readSmell_8 : decode cX6_readSmell 8 = .ok (.iaload, 1) := by decide +kernel
theorem dX6_readSmell_9 : decode cX6_readSmell 9 = .ok (.istore_n 1, 1) := by decide +kernel
theorem dX6_readSmell_10 : decode cX6_readSmell 10 = .ok (.aload_n 0, 1) := by decide +kernel
theorem dX6_readSmell_11 : decode cX6_readSmell 11 = .ok (.iconst 2, 1) := by decide +kernel
theorem dX6_readSmell_12 : decode cX6_readSmell 12 = .ok (.invokevirtual 140, 3) := by decide +kernel
theorem dX6_readSmell_15 : decode cX6_readSmell 15 = .ok (.ifCond .eq 12, 3) := by decide +kernel
theorem dX6_readSmell_18 : decode cX6_readSmell 18 = .ok (.aload_n 0, 1) := by decide +kernel
theorem dX6_readSmell_19 : decode cX6_readSmell 19 = .ok (.ldc 152, 2) := by decide +kernel
theorem dX6_readSmell_21 : decode cX6_readSmell 21 = .ok (.invokevirtual 130, 3) := by decide +kernel
theorem dX6_readSmell_24 : decode cX6_readSmell 24 = .ok (.ifCond .ne 5, 3) := by decide +kernel
theorem dX6_readSmell_27 : decode cX6_readSmell 27 = .ok (.iconst 0, 1) := by decide +kernel
theorem dX6_readSmell_28 : decode cX6_readSmell 28 = .ok (.ireturn, 1) := by decide +kernel
theorem dX6_readSmell_29 : decode cX6_readSmell 29 = .ok (.aload_n 0, 1) := by decide +kernel
theorem dX6_readSmell_30 : decode cX6_readSmell 30 = .ok (.getfield 12, 3) := by decide +kernel
theorem dX6_readSmell_33 : decode cX6_readSmell 33 = .ok (.getfield 154, 3) := by decide +kernel
theorem dX6_readSmell_36 : decode cX6_readSmell 36 = .ok (.iload_n 1, 1) := by decide +kernel
theorem dX6_readSmell_37 : decode cX6_readSmell 37 = .ok (.aload_n 0, 1) := by decide +kernel
theorem dX6_readSmell_38 : decode cX6_readSmell 38 = .ok (.getfield 137, 3) := by decide +kernel
theorem dX6_readSmell_41 : decode cX6_readSmell 41 = .ok (.iastore, 1) := by decide +kernel
theorem dX6_readSmell_42 : decode cX6_readSmell 42 = .ok (.aload_n 0, 1) := by decide +kernel
theorem dX6_readSmell_43 : decode cX6_readSmell 43 = .ok (.ldc 157, 2) := by decide +kernel
theorem dX6_readSmell_45 : decode cX6_readSmell 45 = .ok (.invokevirtual 130, 3) := by decide +kernel
theorem dX6_readSmell_48 : decode cX6_readSmell 48 = .ok (.ifCond .eq 11, 3) := by decide +kernel
theorem dX6_readSmell_51 : decode cX6_readSmell 51 = .ok (.aload_n 0, 1) := by decide +kernel
theorem dX6_readSmell_52 : decode cX6_readSmell 52 = .ok (.iconst 1, 1) := by decide +kernel
theorem dX6_readSmell_53 : decode cX6_readSmell 53 = .ok (.invokevirtual 159, 3) := by decide +kernel
theorem dX6_readSmell_56 : decode cX6_readSmell 56 = .ok (.ifCond .ne 5, 3) := by decide +kernel
theorem dX6_readSmell_59 : decode cX6_readSmell 59 = .ok (.iconst 0, 1) := by decide +kernel
theorem dX6_readSmell_60 : decode cX6_readSmell 60 = .ok (.ireturn, 1) := by decide +kernel
theorem dX6_readSmell_61 : decode cX6_readSmell 61 = .ok (.aload_n 0, 1) := by decide +kernel
theorem dX6_readSmell_62 : decode cX6_readSmell 62 = .ok (.getfield 12, 3) := by decide +kernel
theorem dX6_readSmell_65 : decode cX6_readSmell 65 = .ok (.getfield 162, 3) := by decide +kernel
theorem dX6_readSmell_68 : decode cX6_readSmell 68 = .ok (.iload_n 1, 1) := by decide +kernel
theorem dX6_readSmell_69 : decode cX6_readSmell 69 = .ok (.aload_n 0, 1) := by decide +kernel
theorem dX6_readSmell_70 : decode cX6_readSmell 70 = .ok (.getfield 137, 3) := by decide +kernel
theorem dX6_readSmell_73 : decode cX6_readSmell 73 = .ok (.iastore, 1) := by decide +kernel
theorem dX6_readSmell_74 : decode cX6_readSmell 74 = .ok (.aload_n 0, 1) := by decide +kernel
theorem dX6_readSmell_75 : decode cX6_readSmell 75 = .ok (.iconst 2, 1) := by decide +kernel
theorem dX6_readSmell_76 : decode cX6_readSmell 76 = .ok (.invokevirtual 149, 3) := by decide +kernel
theorem dX6_readSmell_79 : decode cX6_readSmell 79 = .ok (.ireturn, 1) := by decide +kernel
theorem dX6_readNose_0 : decode cX6_readNose 0 = .ok (.aload_n 0, 1) := by decide +kernel
theorem dX6_readNose_1 : decode cX6_readNose 1 = .ok (.iconst 3, 1) := by decide +kernel
theorem dX6_readNose_2 : decode cX6_readNose 2 = .ok (.invokevirtual 140, 3) := by decide +kernel
theorem dX6_readNose_5 : decode cX6_readNose 5 = .ok (.ifCond .eq 22, 3) := by decide +kernel
theorem dX6_readNose_8 : decode cX6_readNose 8 = .ok (.aload_n 0, 1) := by decide +kernel
theorem dX6_readNose_9 : decode cX6_readNose 9 = .ok (.ldc 165, 2) := by decide +kernel
theorem dX6_readNose_11 : decode cX6_readNose 11 = .ok (.invokevirtual 130, 3) := by decide +kernel
theorem dX6_readNose_14 : decode cX6_readNose 14 = .ok (.ifCond .eq 13, 3) := by decide +kernel
theorem dX6_readNose_17 : decode cX6_readNose 17 = .ok (.aload_n 0, 1) := by decide +kernel
theorem dX6_readNose_18 : decode cX6_readNose 18 = .ok (.iconst 1, 1) := by decide +kernel
theorem dX6_readNose_19 : decode cX6_readNose 19 = .ok (.bipush 60, 2) := by decide +kernel
theorem dX6_readNose_21 : decode cX6_readNose 21 = .ok (.invokevirtual 134, 3) := by decide +kernel
theorem dX6_readNose_24 : decode cX6_readNose 24 = .ok (.ifCond .ne 5, 3) := by decide +kernel
theorem dX6_readNose_27 : decode cX6_readNose 27 = .ok (.iconst 0, 1) := by decide +kernel
theorem dX6_readNose_28 : decode cX6_readNose 28 = .ok (.ireturn, 1) := by decide +kernel
theorem dX6_readNose_29 : decode cX6_readNose 29 = .ok (.aload_n 0, 1) := by decide +kernel
theorem dX6_readNose_30 : decode cX6_readNose 30 = .ok (.getfield 12, 3) := by decide +kernel
theorem dX6_readNose_33 : decode cX6_readNose 33 = .ok (.getfield 167, 3) := by decide +kernel
theorem dX6_readNose_36 : decode cX6_readNose 36 = .ok (.aload_n 0, 1) := by decide +kernel
theorem dX6_readNose_37 : decode cX6_readNose 37 = .ok (.getfield 12, 3) := by decide +kernel
theorem dX6_readNose_40 : decode cX6_readNose 40 = .ok (.getfield 72, 3) := by decide +kernel
theorem dX6_readNose_43 : decode cX6_readNose 43 = .ok (.iconst 3, 1) := by decide +kernel
theorem dX6_readNose_44 : decode cX6_readNose 44 = .ok (.iaload, 1) := by decide +kernel
theorem dX6_readNose_45 : decode cX6_readNose 45 = .ok (.aload_n 0, 1) := by decide +kernel
theorem dX6_readNose_46 : decode cX6_readNose 46 = .ok (.getfield 137, 3) := by decide +kernel
theorem dX6_readNose_49 : decode cX6_readNose 49 = .ok (.iastore, 1) := by decide +kernel
theorem dX6_readNose_50 : decode cX6_readNose 50 = .ok (.aload_n 0, 1) := by decide +kernel
theorem dX6_readNose_51 : decode cX6_readNose 51 = .ok (.iconst 3, 1) := by decide +kernel
theorem dX6_readNose_52 : decode cX6_readNose 52 = .ok (.invokevirtual 149, 3) := by decide +kernel
theorem dX6_readNose_55 : decode cX6_readNose 55 = .ok (.ireturn, 1) := by decide +kernel
theorem dX6_readPlace_0 : decode cX6_readPlace 0 = .ok (.aload_n 0, 1) := by decide +kernel
theorem dX6_readPlace_1 : decode cX6_readPlace 1 = .ok (.getfield 12, 3) := by decide +kernel
theorem dX6_readPlace_4 : decode cX6_readPlace 4 = .ok (.getfield 72, 3) := by decide +kernel
theorem dX6_readPlace_7 : decode cX6_readPlace 7 = .ok (.iconst 4, 1) := by decide +kernel
theorem dX6_readPlace_8 : decode cX6_readPlace 8 = .ok (.iaload, 1) := by decide +kernel
theorem dX6_readPlace_9 : decode cX6_readPlace 9 = .ok (.istore_n 1, 1) := by decide +kernel
theorem dX6_readPlace_10 : decode cX6_readPlace 10 = .ok (.aload_n 0, 1) := by decide +kernel
theorem dX6_readPlace_11 : decode cX6_readPlace 11 = .ok (.iconst 4, 1) := by decide +kernel
theorem dX6_readPlace_12 : decode cX6_readPlace 12 = .ok (.invokevirtual 140, 3) := by decide +kernel
theorem dX6_readPlace_15 : decode cX6_readPlace 15 = .ok (.ifCond .eq 20, 3) := by decide +kernel
theorem dX6_readPlace_18 : decode cX6_readPlace 18 = .ok (.aload_n 0, 1) := by decide +kernel
theorem dX6_readPlace_19 : decode cX6_readPlace 19 = .ok (.ldc 170, 2) := by decide +kernel
theorem dX6_readPlace_21 : decode cX6_readPlace 21 = .ok (.invokevirtual 130, 3) := by decide +kernel
theorem dX6_readPlace_24 : decode cX6_readPlace 24 = .ok (.ifCond .eq 11, 3) := by decide +kernel
theorem dX6_readPlace_27 : decode cX6_readPlace 27 = .ok (.aload_n 0, 1) := by decide +kernel
theorem dX6_readPlace_28 : decode cX6_readPlace 28 = .ok (.iconst 1, 1) := by decide +kernel
theorem dX6_readPlace_29 : decode cX6_readPlace 29 = .ok (.invokevirtual 159, 3) := by decide +kernel
theorem dX6_readPlace_32 : decode cX6_readPlace 32 = .ok (.ifCond .ne 5, 3) := by decide +kernel
theorem dX6_readPlace_35 : decode cX6_readPlace 35 = .ok (.iconst 0, 1) := by decide +kernel
theorem dX6_readPlace_36 : decode cX6_readPlace 36 = .ok (.ireturn, 1) := by decide +kernel
theorem dX6_readPlace_37 : decode cX6_readPlace 37 = .ok (.aload_n 0, 1) := by decide +kernel
theorem dX6_readPlace_38 : decode cX6_readPlace 38 = .ok (.getfield 12, 3) := by decide +kernel
theorem dX6_readPlace_41 : decode cX6_readPlace 41 = .ok (.getfield 172, 3) := by decide +kernel
theorem dX6_readPlace_44 : decode cX6_readPlace 44 = .ok (.iload_n 1, 1) := by decide +kernel
theorem dX6_readPlace_45 : decode cX6_readPlace 45 = .ok (.aload_n 0, 1) := by decide +kernel
theorem dX6_readPlace_46 : decode cX6_readPlace 46 = .ok (.getfield 137, 3) := by decide +kernel
theorem dX6_readPlace_49 : decode cX6_readPlace 49 = .ok (.iastore, 1) := by decide +kernel
theorem dX6_readPlace_50 : decode cX6_readPlace 50 = .ok (.aload_n 0, 1) := by decide +kernel
theorem dX6_readPlace_51 : decode cX6_readPlace 51 = .ok (.getfield 12, 3) := by decide +kernel
theorem dX6_readPlace_54 : decode cX6_readPlace 54 = .ok (.getfield 175, 3) := by decide +kernel
theorem dX6_readPlace_57 : decode cX6_readPlace 57 = .ok (.iload_n 1, 1) := by decide +kernel
theorem dX6_readPlace_58 : decode cX6_readPlace 58 = .ok (.bipush (-2), 2) := by decide +kernel
theorem dX6_readPlace_60 : decode cX6_readPlace 60 = .ok (.iastore, 1) := by decide +kernel
theorem dX6_readPlace_61 : decode cX6_readPlace 61 = .ok (.aload_n 0, 1) := by decide +kernel
theorem dX6_readPlace_62 : decode cX6_readPlace 62 = .ok (.getfield 34, 3) := by decide +kernel
theorem dX6_readPlace_65 : decode cX6_readPlace 65 = .ok (.ldc 178, 2) := by decide +kernel
theorem dX6_readPlace_67 : decode cX6_readPlace 67 = .ok (.invokevirtual 77, 3) := by decide +kernel
theorem dX6_readPlace_70 : decode cX6_readPlace 70 = .ok (.iconst (-1), 1) := by decide +kernel
theorem dX6_readPlace_71 : decode cX6_readPlace 71 = .ok (.if_icmp .eq 33, 3) := by decide +kernel
theorem dX6_readPlace_74 : decode cX6_readPlace 74 = .ok (.aload_n 0, 1) := by decide +kernel
theorem dX6_readPlace_75 : decode cX6_readPlace 75 = .ok (.getfield 34, 3) := by decide +kernel
theorem dX6_readPlace_78 : decode cX6_readPlace 78 = .ok (.invokevirtual 62, 3) := by decide +kernel
theorem dX6_readPlace_81 : decode cX6_readPlace 81 = .ok (.aload_n 0, 1) := by decide +kernel
theorem dX6_readPlace_82 : decode cX6_readPlace 82 = .ok (.iconst 3, 1) := by decide +kernel
theorem dX6_readPlace_83 : decode cX6_readPlace 83 = .ok (.invokevirtual 159, 3) := by decide +kernel
theorem dX6_readPlace_86 : decode cX6_readPlace 86 = .ok (.ifCond .ne 5, 3) := by decide +kernel
theorem dX6_readPlace_89 : decode cX6_readPlace 89 = .ok (.iconst 0, 1) := by decide +kernel
theorem dX6_readPlace_90 : decode cX6_readPlace 90 = .ok (.ireturn, 1) := by decide +kernel
theorem dX6_readPlace_91 : decode cX6_readPlace 91 = .ok (.aload_n 0, 1) := by decide +kernel
theorem dX6_readPlace_92 : decode cX6_readPlace 92 = .ok (.getfield 12, 3) := by decide +kernel
theorem dX6_readPlace_95 : decode cX6_readPlace 95 = .ok (.getfield 175, 3) := by decide +kernel
theorem dX6_readPlace_98 : decode cX6_readPlace 98 = .ok (.iload_n 1, 1) := by decide +kernel
theorem dX6_readPlace_99 : decode cX6_readPlace 99 = .ok (.aload_n 0, 1) := by decide +kernel
theorem dX6_readPlace_100 : decode cX6_readPlace 100 = .ok (.getfield 137, 3) := by decide +kernel
theorem dX6_readPlace_103 : decode cX6_readPlace 103 = .ok (.iastore, 1) := by decide +kernel
theorem dX6_readPlace_104 : decode cX6_readPlace 104 = .ok (.aload_n 0, 1) := by decide +kernel
theorem dX6_readPlace_105 : decode cX6_readPlace 105 = .ok (.iconst 4, 1) := by decide +kernel
theorem dX6_readPlace_106 : decode cX6_readPlace 106 = .ok (.invokevirtual 149, 3) := by decide +kernel
theorem dX6_readPlace_109 : decode cX6_readPlace 109 = .ok (.ireturn, 1) := by decide +kernel
theorem dX6_readPath_0 : decode cX6_readPath 0 = .ok (.aload_n 0, 1) := by decide +kernel
theorem dX6_readPath_1 : decode cX6_readPath 1 = .ok (.iconst 4, 1) := by decide +kernel
theorem dX6_readPath_2 : decode cX6_readPath 2 = .ok (.invokevirtual 159, 3) := by decide +kernel
theorem dX6_readPath_5 : decode cX6_readPath 5 = .ok (.ifCond .ne 5, 3) := by decide +kernel
theorem dX6_readPath_8 : decode cX6_readPath 8 = .ok (.iconst 0, 1) := by decide +kernel
theorem dX6_readPath_9 : decode cX6_readPath 9 = .ok (.ireturn, 1) := by decide +kernel
theorem dX6_readPath_10 : decode cX6_readPath 10 = .ok (.aload_n 0, 1) := by decide +kernel
theorem dX6_readPath_11 : decode cX6_readPath 11 = .ok (.getfield 137, 3) := by decide +kernel
theorem dX6_readPath_14 : decode cX6_readPath 14 = .ok (.istore_n 1, 1) := by decide +kernel
theorem dX6_readPath_15 : decode cX6_readPath 15 = .ok (.aload_n 0, 1) := by decide +kernel
theorem dX6_readPath_16 : decode cX6_readPath 16 = .ok (.iconst 4, 1) := by decide +kernel
theorem dX6_readPath_17 : decode cX6_readPath 17 = .ok (.invokevirtual 159, 3) := by decide +kernel
theorem dX6_readPath_20 : decode cX6_readPath 20 = .ok (.ifCond .ne 5, 3) := by decide +kernel
theorem dX6_readPath_23 : decode cX6_readPath 23 = .ok (.iconst 0, 1) := by decide +kernel
theorem dX6_readPath_24 : decode cX6_readPath 24 = .ok (.ireturn, 1) := by decide +kernel
theorem dX6_readPath_25 : decode cX6_readPath 25 = .ok (.aload_n 0, 1) := by decide +kernel
theorem dX6_readPath_26 : decode cX6_readPath 26 = .ok (.getfield 137, 3) := by decide +kernel
theorem dX6_readPath_29 : decode cX6_readPath 29 = .ok (.istore_n 2, 1) := by decide +kernel
theorem dX6_readPath_30 : decode cX6_readPath 30 = .ok (.iload_n 2, 1) := by decide +kernel
theorem dX6_readPath_31 : decode cX6_readPath 31 = .ok (.iload_n 1, 1) := by decide +kernel
theorem dX6_readPath_32 : decode cX6_readPath 32 = .ok (.if_icmp .eq 17, 3) := by decide +kernel
theorem dX6_readPath_35 : decode cX6_readPath 35 = .ok (.aload_n 0, 1) := by decide +kernel
theorem dX6_readPath_36 : decode cX6_readPath 36 = .ok (.getfield 12, 3) := by decide +kernel
theorem dX6_readPath_39 : decode cX6_readPath 39 = .ok (.getfield 180, 3) := by decide +kernel
theorem dX6_readPath_42 : decode cX6_readPath 42 = .ok (.iload_n 1, 1) := by decide +kernel
theorem dX6_readPath_43 : decode cX6_readPath 43 = .ok (.aaload, 1) := by decide +kernel
theorem dX6_readPath_44 : decode cX6_readPath 44 = .ok (.iload_n 2, 1) := by decide +kernel
theorem dX6_readPath_45 : decode cX6_readPath 45 = .ok (.iaload, 1) := by decide +kernel
theorem dX6_readPath_46 : decode cX6_readPath 46 = .ok (.ifCond .le 13, 3) := by decide +kernel
theorem dX6_readPath_49 : decode cX6_readPath 49 = .ok (.aload_n 0, 1) := by decide +kernel
theorem dX6_readPath_50 : decode cX6_readPath 50 = .ok (.iconst 3, 1) := by decide +kernel
theorem dX6_readPath_51 : decode cX6_readPath 51 = .ok (.aload_n 0, 1) := by decide +kernel
theorem dX6_readPath_52 : decode cX6_readPath 52 = .ok (.getfield 183, 3) := by decide +kernel
theorem dX6_readPath_55 : decode cX6_readPath 55 = .ok (.invokevirtual 68, 3) := by decide +kernel
theorem dX6_readPath_58 : decode cX6_readPath 58 = .ok (.ireturn, 1) := by decide +kernel
theorem dX6_readPath_59 : decode cX6_readPath 59 = .ok (.aload_n 0, 1) := by decide +kernel
theorem dX6_readPath_60 : decode cX6_readPath 60 = .ok (.ldc 186, 2) := by decide +kernel
theorem dX6_readPath_62 : decode cX6_readPath 62 = .ok (.invokevirtual 130, 3) := by decide +kernel
theorem dX6_readPath_65 : decode cX6_readPath 65 = .ok (.ifCond .eq 13, 3) := by decide +kernel
theorem dX6_readPath_68 : decode cX6_readPath 68 = .ok (.aload_n 0, 1) := by decide +kernel
theorem dX6_readPath_69 : decode cX6_readPath 69 = .ok (.iconst 1, 1) := by decide +kernel
theorem dX6_readPath_70 : decode cX6_readPath 70 = .ok (.bipush 40, 2) := by decide +kernel
theorem dX6_readPath_72 : decode cX6_readPath 72 = .ok (.invokevirtual 134, 3) := by decide +kernel
theorem dX6_readPath_75 : decode cX6_readPath 75 = .ok (.ifCond .ne 5, 3) := by decide +kernel
theorem dX6_readPath_78 : decode cX6_readPath 78 = .ok (.iconst 0, 1) := by decide +kernel
theorem dX6_readPath_79 : decode cX6_readPath 79 = .ok (.ireturn, 1) := by decide +kernel
theorem dX6_readPath_80 : decode cX6_readPath 80 = .ok (.aload_n 0, 1) := by decide +kernel
theorem dX6_readPath_81 : decode cX6_readPath 81 = .ok (.getfield 12, 3) := by decide +kernel
theorem dX6_readPath_84 : decode cX6_readPath 84 = .ok (.getfield 180, 3) := by decide +kernel
theorem dX6_readPath_87 : decode cX6_readPath 87 = .ok (.iload_n 1, 1) := by decide +kernel
theorem dX6_readPath_88 : decode cX6_readPath 88 = .ok (.aaload, 1) := by decide +kernel
theorem dX6_readPath_89 : decode cX6_readPath 89 = .ok (.iload_n 2, 1) := by decide +kernel
theorem dX6_readPath_90 : decode cX6_readPath 90 = .ok (.aload_n 0, 1) := by decide +kernel
theorem dX6_readPath_91 : decode cX6_readPath 91 = .ok (.getfield 137, 3) := by decide +kernel
theorem dX6_readPath_94 : decode cX6_readPath 94 = .ok (.iastore, 1) := by decide +kernel
theorem dX6_readPath_95 : decode cX6_readPath 95 = .ok (.aload_n 0, 1) := by decide +kernel
theorem dX6_readPath_96 : decode cX6_readPath 96 = .ok (.getfield 12, 3) := by decide +kernel
theorem dX6_readPath_99 : decode cX6_readPath 99 = .ok (.getfield 180, 3) := by decide +kernel
theorem dX6_readPath_102 : decode cX6_readPath 102 = .ok (.iload_n 2, 1) := by decide +kernel
theorem dX6_readPath_103 : decode cX6_readPath 103 = .ok (.aaload, 1) := by decide +kernel
theorem dX6_readPath_104 : decode cX6_readPath 104 = .ok (.iload_n 1, 1) := by decide +kernel
theorem dX6_readPath_105 : decode cX6_readPath 105 = .ok (.aload_n 0, 1) := by decide +kernel
theorem dX6_readPath_106 : decode cX6_readPath 106 = .ok (.getfield 137, 3) := by decide +kernel
theorem dX6_readPath_109 : decode cX6_readPath 109 = .ok (.iastore, 1) := by decide +kernel
theorem dX6_readPath_110 : decode cX6_readPath 110 = .ok (.aload_n 0, 1) := by decide +kernel
theorem dX6_readPath_111 : decode cX6_readPath 111 = .ok (.iconst 5, 1) := by decide +kernel
theorem dX6_readPath_112 : decode cX6_readPath 112 = .ok (.invokevirtual 149, 3) := by decide +kernel
theorem dX6_readPath_115 : decode cX6_readPath 115 = .ok (.ireturn, 1) := by decide +kernel
theorem dX6_readHalves_0 : decode cX6_readHalves 0 = .ok (.aload_n 0, 1) := by decide +kernel
theorem dX6_readHalves_1 : decode cX6_readHalves 1 = .ok (.iload_n 2, 1) := by decide +kernel
theorem dX6_readHalves_2 : decode cX6_readHalves 2 = .ok (.invokevirtual 159, 3) := by decide +kernel
theorem dX6_readHalves_5 : decode cX6_readHalves 5 = .ok (.ifCond .ne 5, 3) := by decide +kernel
theorem dX6_readHalves_8 : decode cX6_readHalves 8 = .ok (.iconst 0, 1) := by decide +kernel
theorem dX6_readHalves_9 : decode cX6_readHalves 9 = .ok (.ireturn, 1) := by decide +kernel
theorem dX6_readHalves_10 : decode cX6_readHalves 10 = .ok (.aload_n 0, 1) := by decide +kernel
theorem dX6_readHalves_11 : decode cX6_readHalves 11 = .ok (.getfield 137, 3) := by decide +kernel
theorem dX6_readHalves_14 : decode cX6_readHalves 14 = .ok (.istore 5, 2) := by decide +kernel
theorem dX6_readHalves_16 : decode cX6_readHalves 16 = .ok (.aload_n 0, 1) := by decide +kernel
theorem dX6_readHalves_17 : decode cX6_readHalves 17 = .ok (.iconst 2, 1) := by decide +kernel
theorem dX6_readHalves_18 : decode cX6_readHalves 18 = .ok (.invokevirtual 159, 3) := by decide +kernel
theorem dX6_readHalves_21 : decode cX6_readHalves 21 = .ok (.ifCond .ne 5, 3) := by decide +kernel
theorem dX6_readHalves_24 : decode cX6_readHalves 24 = .ok (.iconst 0, 1) := by decide +kernel
theorem dX6_readHalves_25 : decode cX6_readHalves 25 = .ok (.ireturn, 1) := by decide +kernel
theorem dX6_readHalves_26 : decode cX6_readHalves 26 = .ok (.aload_n 0, 1) := by decide +kernel
theorem dX6_readHalves_27 : decode cX6_readHalves 27 = .ok (.getfield 137, 3) := by decide +kernel
theorem dX6_readHalves_30 : decode cX6_readHalves 30 = .ok (.istore 6, 2) := by decide +kernel
theorem dX6_readHalves_32 : decode cX6_readHalves 32 = .ok (.aload_n 3, 1) := by decide +kernel
theorem dX6_readHalves_33 : decode cX6_readHalves 33 = .ok (.iload 5, 2) := by decide +kernel
theorem dX6_readHalves_35 : decode cX6_readHalves 35 = .ok (.aaload, 1) := by decide +kernel
theorem dX6_readHalves_36 : decode cX6_readHalves 36 = .ok (.iload 6, 2) := by decide +kernel
theorem dX6_readHalves_38 : decode cX6_readHalves 38 = .ok (.iaload, 1) := by decide +kernel
theorem dX6_readHalves_39 : decode cX6_readHalves 39 = .ok (.ifCond .le 13, 3) := by decide +kernel
theorem dX6_readHalves_42 : decode cX6_readHalves 42 = .ok (.aload_n 0, 1) := by decide +kernel
theorem dX6_readHalves_43 : decode cX6_readHalves 43 = .ok (.iconst 3, 1) := by decide +kernel
theorem dX6_readHalves_44 : decode cX6_readHalves 44 = .ok (.aload_n 0, 1) := by decide +kernel
theorem dX6_readHalves_45 : decode cX6_readHalves 45 = .ok (.getfield 183, 3) := by decide +kernel
theorem dX6_readHalves_48 : decode cX6_readHalves 48 = .ok (.invokevirtual 68, 3) := by decide +kernel
theorem dX6_readHalves_51 : decode cX6_readHalves 51 = .ok (.ireturn, 1) := by decide +kernel
theorem dX6_readHalves_52 : decode cX6_readHalves 52 = .ok (.aload_n 0, 1) := by decide +kernel
theorem dX6_readHalves_53 : decode cX6_readHalves 53 = .ok (.iconst 1, 1) := by decide +kernel
theorem dX6_readHalves_54 : decode cX6_readHalves 54 = .ok (.iload 4, 2) := by decide +kernel
theorem dX6_readHalves_56 : decode cX6_readHalves 56 = .ok (.invokevirtual 134, 3) := by decide +kernel
theorem dX6_readHalves_59 : decode cX6_readHalves 59 = .ok (.ifCond .ne 5, 3) := by decide +kernel
theorem dX6_readHalves_62 : decode cX6_readHalves 62 = .ok (.iconst 0, 1) := by decide +kernel
theorem dX6_readHalves_63 : decode cX6_readHalves 63 = .ok (.ireturn, 1) := by decide +kernel
theorem dX6_readHalves_64 : decode cX6_readHalves 64 = .ok (.aload_n 3, 1) := by decide +kernel
theorem dX6_readHalves_65 : decode cX6_readHalves 65 = .ok (.iload 5, 2) := by decide +kernel
theorem dX6_readHalves_67 : decode cX6_readHalves 67 = .ok (.aaload, 1) := by decide +kernel
theorem dX6_readHalves_68 : decode cX6_readHalves 68 = .ok (.iload 6, 2) := by decide +kernel
theorem dX6_readHalves_70 : decode cX6_readHalves 70 = .ok (.iconst 2, 1) := by decide +kernel
theorem dX6_readHalves_71 : decode cX6_readHalves 71 = .ok (.aload_n 0, 1) := by decide +kernel
theorem dX6_readHalves_72 : decode cX6_readHalves 72 = .ok (.getfield 137, 3) := by decide +kernel
theorem dX6_readHalves_75 : decode cX6_readHalves 75 = .ok (.imul, 1) := by decide +kernel
theorem dX6_readHalves_76 : decode cX6_readHalves 76 = .ok (.iastore, 1) := by decide +kernel
theorem dX6_readHalves_77 : decode cX6_readHalves 77 = .ok (.aload_n 0, 1) := by decide +kernel
theorem dX6_readHalves_78 : decode cX6_readHalves 78 = .ok (.iload_n 1, 1) := by decide +kernel
theorem dX6_readHalves_79 : decode cX6_readHalves 79 = .ok (.invokevirtual 149, 3) := by decide +kernel
theorem dX6_readHalves_82 : decode cX6_readHalves 82 = .ok (.ireturn, 1) := by decide +kernel
theorem dX6_readTraveller_0 : decode cX6_readTraveller 0 = .ok (.aload_n 0, 1) := by decide +kernel
theorem dX6_readTraveller_1 : decode cX6_readTraveller 1 = .ok (.getfield 12, 3) := by decide +kernel
theorem dX6_readTraveller_4 : decode cX6_readTraveller 4 = .ok (.getfield 72, 3) := by decide +kernel
theorem dX6_readTraveller_7 : decode cX6_readTraveller 7 = .ok (.bipush 7, 2) := by decide +kernel
theorem dX6_readTraveller_9 : decode cX6_readTraveller 9 = .ok (.iaload, 1) := by decide +kernel
theorem dX6_readTraveller_10 : decode cX6_readTraveller 10 = .ok (.istore_n 1, 1) := by decide +kernel
theorem dX6_readTraveller_11 : decode cX6_readTraveller 11 = .ok (.aload_n 0, 1) := by decide +kernel
theorem dX6_readTraveller_12 : decode cX6_readTraveller 12 = .ok (.bipush 7, 2) := by decide +kernel
theorem dX6_readTraveller_14 : decode cX6_readTraveller 14 = .ok (.invokevirtual 140, 3) := by decide +kernel
theorem dX6_readTraveller_17 : decode cX6_readTraveller 17 = .ok (.ifCond .eq 12, 3) := by decide +kernel
theorem dX6_readTraveller_20 : decode cX6_readTraveller 20 = .ok (.aload_n 0, 1) := by decide +kernel
theorem dX6_readTraveller_21 : decode cX6_readTraveller 21 = .ok (.ldc 187, 2) := by decide +kernel
theorem dX6_readTraveller_23 : decode cX6_readTraveller 23 = .ok (.invokevirtual 130, 3) := by decide +kernel
theorem dX6_readTraveller_26 : decode cX6_readTraveller 26 = .ok (.ifCond .ne 5, 3) := by decide +kernel
theorem dX6_readTraveller_29 : decode cX6_readTraveller 29 = .ok (.iconst 0, 1) := by decide +kernel
theorem dX6_readTraveller_30 : decode cX6_readTraveller 30 = .ok (.ireturn, 1) := by decide +kernel
theorem dX6_readTraveller_31 : decode cX6_readTraveller 31 = .ok (.aload_n 0, 1) := by decide +kernel
theorem dX6_readTraveller_32 : decode cX6_readTraveller 32 = .ok (.getfield 12, 3) := by decide +kernel
theorem dX6_readTraveller_35 : decode cX6_readTraveller 35 = .ok (.getfield 189, 3) := by decide +kernel
theorem dX6_readTraveller_38 : decode cX6_readTraveller 38 = .ok (.iload_n 1, 1) := by decide +kernel
theorem dX6_readTraveller_39 : decode cX6_readTraveller 39 = .ok (.aload_n 0, 1) := by decide +kernel
theorem dX6_readTraveller_40 : decode cX6_readTraveller 40 = .ok (.getfield 137, 3) := by decide +kernel
theorem dX6_readTraveller_43 : decode cX6_readTraveller 43 = .ok (.iastore, 1) := by decide +kernel
theorem dX6_readTraveller_44 : decode cX6_readTraveller 44 = .ok (.aload_n 0, 1) := by decide +kernel
theorem dX6_readTraveller_45 : decode cX6_readTraveller 45 = .ok (.ldc 192, 2) := by decide +kernel
theorem dX6_readTraveller_47 : decode cX6_readTraveller 47 = .ok (.invokevirtual 130, 3) := by decide +kernel
theorem dX6_readTraveller_50 : decode cX6_readTraveller 50 = .ok (.ifCond .eq 11, 3) := by decide +kernel
theorem dX6_readTraveller_53 : decode cX6_readTraveller 53 = .ok (.aload_n 0, 1) := by decide +kernel
theorem dX6_readTraveller_54 : decode cX6_readTraveller 54 = .ok (.iconst 1, 1) := by decide +kernel
theorem dX6_readTraveller_55 : decode cX6_readTraveller 55 = .ok (.invokevirtual 159, 3) := by decide +kernel
theorem dX6_readTraveller_58 : decode cX6_readTraveller 58 = .ok (.ifCond .ne 5, 3) := by decide +kernel
theorem dX6_readTraveller_61 : decode cX6_readTraveller 61 = .ok (.iconst 0, 1) := by decide +kernel
theorem dX6_readTraveller_62 : decode cX6_readTraveller 62 = .ok (.ireturn, 1) := by decide +kernel
theorem dX6_readTraveller_63 : decode cX6_readTraveller 63 = .ok (.aload_n 0, 1) := by decide +kernel
theorem dX6_readTraveller_64 : decode cX6_readTraveller 64 = .ok (.getfield 12, 3) := by decide +kernel
theorem dX6_readTraveller_67 : decode cX6_readTraveller 67 = .ok (.getfield 194, 3) := by decide +kernel
theorem dX6_readTraveller_70 : decode cX6_readTraveller 70 = .ok (.iload_n 1, 1) := by decide +kernel
theorem dX6_readTraveller_71 : decode cX6_readTraveller 71 = .ok (.aload_n 0, 1) := by decide +kernel
theorem dX6_readTraveller_72 : decode cX6_readTraveller 72 = .ok (.getfield 137, 3) := by decide +kernel
theorem dX6_readTraveller_75 : decode cX6_readTraveller 75 = .ok (.iastore, 1) := by decide +kernel
theorem dX6_readTraveller_76 : decode cX6_readTraveller 76 = .ok (.aload_n 0, 1) := by decide +kernel
theorem dX6_readTraveller_77 : decode cX6_readTraveller 77 = .ok (.ldc 196, 2) := by decide +kernel
theorem dX6_readTraveller_79 : decode cX6_readTraveller 79 = .ok (.invokevirtual 130, 3) := by decide +kernel
theorem dX6_readTraveller_82 : decode cX6_readTraveller 82 = .ok (.ifCond .eq 11, 3) := by decide +kernel
theorem dX6_readTraveller_85 : decode cX6_readTraveller 85 = .ok (.aload_n 0, 1) := by decide +kernel
theorem dX6_readTraveller_86 : decode cX6_readTraveller 86 = .ok (.iconst 4, 1) := by decide +kernel
theorem dX6_readTraveller_87 : decode cX6_readTraveller 87 = .ok (.invokevirtual 159, 3) := by decide +kernel
theorem dX6_readTraveller_90 : decode cX6_readTraveller 90 = .ok (.ifCond .ne 5, 3) := by decide +kernel
theorem dX6_readTraveller_93 : decode cX6_readTraveller 93 = .ok (.iconst 0, 1) := by decide +kernel
theorem dX6_readTraveller_94 : decode cX6_readTraveller 94 = .ok (.ireturn, 1) := by decide +kernel
theorem dX6_readTraveller_95 : decode cX6_readTraveller 95 = .ok (.aload_n 0, 1) := by decide +kernel
theorem dX6_readTraveller_96 : decode cX6_readTraveller 96 = .ok (.getfield 12, 3) := by decide +kernel
theorem dX6_readTraveller_99 : decode cX6_readTraveller 99 = .ok (.getfield 197, 3) := by decide +kernel
theorem dX6_readTraveller_102 : decode cX6_readTraveller 102 = .ok (.iload_n 1, 1) := by decide +kernel
theorem dX6_readTraveller_103 : decode cX6_readTraveller 103 = .ok (.aload_n 0, 1) := by decide +kernel
theorem dX6_readTraveller_104 : decode cX6_readTraveller 104 = .ok (.getfield 137, 3) := by decide +kernel
theorem dX6_readTraveller_107 : decode cX6_readTraveller 107 = .ok (.iastore, 1) := by decide +kernel
theorem dX6_readTraveller_108 : decode cX6_readTraveller 108 = .ok (.aload_n 0, 1) := by decide +kernel
theorem dX6_readTraveller_109 : decode cX6_readTraveller 109 = .ok (.bipush 7, 2) := by decide +kernel
theorem dX6_readTraveller_111 : decode cX6_readTraveller 111 = .ok (.invokevirtual 149, 3) := by decide +kernel
theorem dX6_readTraveller_114 : decode cX6_readTraveller 114 = .ok (.ireturn, 1) := by decide +kernel
theorem dX6_readWalk_0 : decode cX6_readWalk 0 = .ok (.aload_n 0, 1) := by decide +kernel
theorem dX6_readWalk_1 : decode cX6_readWalk 1 = .ok (.bipush 7, 2) := by decide +kernel
theorem dX6_readWalk_3 : decode cX6_readWalk 3 = .ok (.invokevirtual 159, 3) := by decide +kernel
theorem dX6_readWalk_6 : decode cX6_readWalk 6 = .ok (.ifCond .ne 5, 3) := by decide +kernel
theorem dX6_readWalk_9 : decode cX6_readWalk 9 = .ok (.iconst 0, 1) := by decide +kernel
theorem dX6_readWalk_10 : decode cX6_readWalk 10 = .ok (.ireturn, 1) := by decide +kernel
theorem dX6_readWalk_11 : decode cX6_readWalk 11 = .ok (.aload_n 0, 1) := by decide +kernel
theorem dX6_readWalk_12 : decode cX6_readWalk 12 = .ok (.getfield 137, 3) := by decide +kernel
theorem dX6_readWalk_15 : decode cX6_readWalk 15 = .ok (.istore_n 1, 1) := by decide +kernel
theorem dX6_readWalk_16 : decode cX6_readWalk 16 = .ok (.aload_n 0, 1) := by decide +kernel
theorem dX6_readWalk_17 : decode cX6_readWalk 17 = .ok (.getfield 12, 3) := by decide +kernel
theorem dX6_readWalk_20 : decode cX6_readWalk 20 = .ok (.getfield 200, 3) := by decide +kernel
theorem dX6_readWalk_23 : decode cX6_readWalk 23 = .ok (.iload_n 1, 1) := by decide +kernel
theorem dX6_readWalk_24 : decode cX6_readWalk 24 = .ok (.iaload, 1) := by decide +kernel
theorem dX6_readWalk_25 : decode cX6_readWalk 25 = .ok (.ifCond .le 13, 3) := by decide +kernel
theorem dX6_readWalk_28 : decode cX6_readWalk 28 = .ok (.aload_n 0, 1) := by decide +kernel
theorem dX6_readWalk_29 : decode cX6_readWalk 29 = .ok (.iconst 3, 1) := by decide +kernel
theorem dX6_readWalk_30 : decode cX6_readWalk 30 = .ok (.aload_n 0, 1) := by decide +kernel
theorem dX6_readWalk_31 : decode cX6_readWalk 31 = .ok (.getfield 183, 3) := by decide +kernel
theorem dX6_readWalk_34 : decode cX6_readWalk 34 = .ok (.invokevirtual 68, 3) := by decide +kernel
theorem dX6_readWalk_37 : decode cX6_readWalk 37 = .ok (.ireturn, 1) := by decide +kernel
theorem dX6_readWalk_38 : decode cX6_readWalk 38 = .ok (.iconst 0, 1) := by decide +kernel
theorem dX6_readWalk_39 : decode cX6_readWalk 39 = .ok (.istore_n 2, 1) := by decide +kernel
theorem dX6_readWalk_40 : decode cX6_readWalk 40 = .ok (.iload_n 2, 1) := by decide +kernel
theorem dX6_readWalk_41 : decode cX6_readWalk 41 = .ok (.iconst 5, 1) := by decide +kernel
theorem dX6_readWalk_42 : decode cX6_readWalk 42 = .ok (.if_icmp .ge 71, 3) := by decide +kernel
theorem dX6_readWalk_45 : decode cX6_readWalk 45 = .ok (.aload_n 0, 1) := by decide +kernel
theorem dX6_readWalk_46 : decode cX6_readWalk 46 = .ok (.iconst 4, 1) := by decide +kernel
theorem dX6_readWalk_47 : decode cX6_readWalk 47 = .ok (.invokevirtual 159, 3) := by decide +kernel
theorem dX6_readWalk_50 : decode cX6_readWalk 50 = .ok (.ifCond .ne 5, 3) := by decide +kernel
theorem dX6_readWalk_53 : decode cX6_readWalk 53 = .ok (.iconst 0, 1) := by decide +kernel
theorem dX6_readWalk_54 : decode cX6_readWalk 54 = .ok (.ireturn, 1) := by decide +kernel
theorem dX6_readWalk_55 : decode cX6_readWalk 55 = .ok (.aload_n 0, 1) := by decide +kernel
theorem dX6_readWalk_56 : decode cX6_readWalk 56 = .ok (.getfield 12, 3) := by decide +kernel
theorem dX6_readWalk_59 : decode cX6_readWalk 59 = .ok (.getfield 203, 3) := by decide +kernel
theorem dX6_readWalk_62 : decode cX6_readWalk 62 = .ok (.iload_n 1, 1) := by decide +kernel
theorem dX6_readWalk_63 : decode cX6_readWalk 63 = .ok (.aaload, 1) := by decide +kernel
theorem dX6_readWalk_64 : decode cX6_readWalk 64 = .ok (.iload_n 2, 1) := by decide +kernel
theorem dX6_readWalk_65 : decode cX6_readWalk 65 = .ok (.aload_n 0, 1) := by decide +kernel
theorem dX6_readWalk_66 : decode cX6_readWalk 66 = .ok (.getfield 137, 3) := by decide +kernel
theorem dX6_readWalk_69 : decode cX6_readWalk 69 = .ok (.iastore, 1) := by decide +kernel
theorem dX6_readWalk_70 : decode cX6_readWalk 70 = .ok (.aload_n 0, 1) := by decide +kernel
theorem dX6_readWalk_71 : decode cX6_readWalk 71 = .ok (.getfield 12, 3) := by decide +kernel
theorem dX6_readWalk_74 : decode cX6_readWalk 74 = .ok (.getfield 200, 3) := by decide +kernel
theorem dX6_readWalk_77 : decode cX6_readWalk 77 = .ok (.iload_n 1, 1) := by decide +kernel
theorem dX6_readWalk_78 : decode cX6_readWalk 78 = .ok (.iload_n 2, 1) := by decide +kernel
theorem dX6_readWalk_79 : decode cX6_readWalk 79 = .ok (.iconst 1, 1) := by decide +kernel
theorem dX6_readWalk_80 : decode cX6_readWalk 80 = .ok (.iadd, 1) := by decide +kernel
theorem dX6_readWalk_81 : decode cX6_readWalk 81 = .ok (.iastore, 1) := by decide +kernel
theorem dX6_readWalk_82 : decode cX6_readWalk 82 = .ok (.aload_n 0, 1) := by decide +kernel
theorem dX6_readWalk_83 : decode cX6_readWalk 83 = .ok (.getfield 34, 3) := by decide +kernel
theorem dX6_readWalk_86 : decode cX6_readWalk 86 = .ok (.getfield 59, 3) := by decide +kernel
theorem dX6_readWalk_89 : decode cX6_readWalk 89 = .ok (.iconst 4, 1) := by decide +kernel
theorem dX6_readWalk_90 : decode cX6_readWalk 90 = .ok (.if_icmp .eq 10, 3) := by decide +kernel
theorem dX6_readWalk_93 : decode cX6_readWalk 93 = .ok (.aload_n 0, 1) := by decide +kernel
theorem dX6_readWalk_94 : decode cX6_readWalk 94 = .ok (.bipush 8, 2) := by decide +kernel
theorem dX6_readWalk_96 : decode cX6_readWalk 96 = .ok (.invokevirtual 149, 3) := by decide +kernel
theorem dX6_readWalk_99 : decode cX6_readWalk 99 = .ok (.ireturn, 1) := by decide +kernel
theorem dX6_readWalk_100 : decode cX6_readWalk 100 = .ok (.aload_n 0, 1) := by decide +kernel
theorem dX6_readWalk_101 : decode cX6_readWalk 101 = .ok (.getfield 34, 3) := by decide +kernel
theorem dX6_readWalk_104 : decode cX6_readWalk 104 = .ok (.invokevirtual 62, 3) := by decide +kernel
theorem dX6_readWalk_107 : decode cX6_readWalk 107 = .ok (.iinc 2 1, 3) := by decide +kernel
theorem dX6_readWalk_110 : decode cX6_readWalk 110 = .ok (.goto (-70), 3) := by decide +kernel
theorem dX6_readWalk_113 : decode cX6_readWalk 113 = .ok (.aload_n 0, 1) := by decide +kernel
theorem dX6_readWalk_114 : decode cX6_readWalk 114 = .ok (.iconst 4, 1) := by decide +kernel
theorem dX6_readWalk_115 : decode cX6_readWalk 115 = .ok (.invokevirtual 159, 3) := by decide +kernel
theorem dX6_readWalk_118 : decode cX6_readWalk 118 = .ok (.ifCond .eq 19, 3) := by decide +kernel
theorem dX6_readWalk_121 : decode cX6_readWalk 121 = .ok (.aload_n 0, 1) := by decide +kernel
theorem dX6_readWalk_122 : decode cX6_readWalk 122 = .ok (.iconst 5, 1) := by decide +kernel
theorem dX6_readWalk_123 : decode cX6_readWalk 123 = .ok (.aload_n 0, 1) := by decide +kernel
theorem dX6_readWalk_124 : decode cX6_readWalk 124 = .ok (.getfield 183, 3) := by decide +kernel
theorem dX6_readWalk_127 : decode cX6_readWalk 127 = .ok (.invokevirtual 68, 3) := by decide +kernel
theorem dX6_readWalk_130 : decode cX6_readWalk 130 = .ok (.ifCond .eq 7, 3) := by decide +kernel
theorem dX6_readWalk_133 : decode cX6_readWalk 133 = .ok (.iconst 1, 1) := by decide +kernel
theorem dX6_readWalk_134 : decode cX6_readWalk 134 = .ok (.goto 4, 3) := by decide +kernel
theorem dX6_readWalk_137 : decode cX6_readWalk 137 = .ok (.iconst 0, 1) := by decide +kernel
theorem dX6_readWalk_138 : decode cX6_readWalk 138 = .ok (.ireturn, 1) := by decide +kernel
theorem dX6_readAsked_0 : decode cX6_readAsked 0 = .ok (.aload_n 0, 1) := by decide +kernel
theorem dX6_readAsked_1 : decode cX6_readAsked 1 = .ok (.getfield 12, 3) := by decide +kernel
theorem dX6_readAsked_4 : decode cX6_readAsked 4 = .ok (.getfield 72, 3) := by decide +kernel
theorem dX6_readAsked_7 : decode cX6_readAsked 7 = .ok (.bipush 9, 2) := by decide +kernel
theorem dX6_readAsked_9 : decode cX6_readAsked 9 = .ok (.iaload, 1) := by decide +kernel
theorem dX6_readAsked_10 : decode cX6_readAsked 10 = .ok (.istore_n 1, 1) := by decide +kernel
theorem dX6_readAsked_11 : decode cX6_readAsked 11 = .ok (.aload_n 0, 1) := by decide +kernel
theorem dX6_readAsked_12 : decode cX6_readAsked 12 = .ok (.bipush 7, 2) := by decide +kernel
theorem dX6_readAsked_14 : decode cX6_readAsked 14 = .ok (.invokevirtual 159, 3) := by decide +kernel
theorem dX6_readAsked_17 : decode cX6_readAsked 17 = .ok (.ifCond .ne 5, 3) := by decide +kernel
theorem dX6_readAsked_20 : decode cX6_readAsked 20 = .ok (.iconst 0, 1) := by decide +kernel
theorem dX6_readAsked_21 : decode cX6_readAsked 21 = .ok (.ireturn, 1) := by decide +kernel
theorem dX6_readAsked_22 : decode cX6_readAsked 22 = .ok (.aload_n 0, 1) := by decide +kernel
theorem dX6_readAsked_23 : decode cX6_readAsked 23 = .ok (.getfield 12, 3) := by decide +kernel
theorem dX6_readAsked_26 : decode cX6_readAsked 26 = .ok (.getfield 206, 3) := by decide +kernel
theorem dX6_readAsked_29 : decode cX6_readAsked 29 = .ok (.iload_n 1, 1) := by decide +kernel
theorem dX6_readAsked_30 : decode cX6_readAsked 30 = .ok (.aload_n 0, 1) := by decide +kernel
theorem dX6_readAsked_31 : decode cX6_readAsked 31 = .ok (.getfield 137, 3) := by decide +kernel
theorem dX6_readAsked_34 : decode cX6_readAsked 34 = .ok (.iastore, 1) := by decide +kernel
theorem dX6_readAsked_35 : decode cX6_readAsked 35 = .ok (.aload_n 0, 1) := by decide +kernel
theorem dX6_readAsked_36 : decode cX6_readAsked 36 = .ok (.iconst 0, 1) := by decide +kernel
theorem dX6_readAsked_37 : decode cX6_readAsked 37 = .ok (.bipush 99, 2) := by decide +kernel
theorem dX6_readAsked_39 : decode cX6_readAsked 39 = .ok (.invokevirtual 134, 3) := by decide +kernel
theorem dX6_readAsked_42 : decode cX6_readAsked 42 = .ok (.ifCond .ne 5, 3) := by decide +kernel
theorem dX6_readAsked_45 : decode cX6_readAsked 45 = .ok (.iconst 0, 1) := by decide +kernel
theorem dX6_readAsked_46 : decode cX6_readAsked 46 = .ok (.ireturn, 1) := by decide +kernel
theorem dX6_readAsked_47 : decode cX6_readAsked 47 = .ok (.aload_n 0, 1) := by decide +kernel
theorem dX6_readAsked_48 : decode cX6_readAsked 48 = .ok (.getfield 12, 3) := by decide +kernel
theorem dX6_readAsked_51 : decode cX6_readAsked 51 = .ok (.getfield 209, 3) := by decide +kernel
theorem dX6_readAsked_54 : decode cX6_readAsked 54 = .ok (.iload_n 1, 1) := by decide +kernel
theorem dX6_readAsked_55 : decode cX6_readAsked 55 = .ok (.aload_n 0, 1) := by decide +kernel
theorem dX6_readAsked_56 : decode cX6_readAsked 56 = .ok (.getfield 137, 3) := by decide +kernel
theorem dX6_readAsked_59 : decode cX6_readAsked 59 = .ok (.iastore, 1) := by decide +kernel
theorem dX6_readAsked_60 : decode cX6_readAsked 60 = .ok (.aload_n 0, 1) := by decide +kernel
theorem dX6_readAsked_61 : decode cX6_readAsked 61 = .ok (.bipush 9, 2) := by decide +kernel
theorem dX6_readAsked_63 : decode cX6_readAsked 63 = .ok (.invokevirtual 149, 3) := by decide +kernel
theorem dX6_readAsked_66 : decode cX6_readAsked 66 = .ok (.ireturn, 1) := by decide +kernel
theorem dX6_readWhiff_0 : decode cX6_readWhiff 0 = .ok (.aload_n 0, 1) := by decide +kernel
theorem dX6_readWhiff_1 : decode cX6_readWhiff 1 = .ok (.iconst 2, 1) := by decide +kernel
theorem dX6_readWhiff_2 : decode cX6_readWhiff 2 = .ok (.invokevirtual 159, 3) := by decide +kernel
theorem dX6_readWhiff_5 : decode cX6_readWhiff 5 = .ok (.ifCond .ne 5, 3) := by decide +kernel
theorem dX6_readWhiff_8 : decode cX6_readWhiff 8 = .ok (.iconst 0, 1) := by decide +kernel
theorem dX6_readWhiff_9 : decode cX6_readWhiff 9 = .ok (.ireturn, 1) := by decide +kernel
theorem dX6_readWhiff_10 : decode cX6_readWhiff 10 = .ok (.aload_n 0, 1) := by decide +kernel
theorem dX6_readWhiff_11 : decode cX6_readWhiff 11 = .ok (.getfield 137, 3) := by decide +kernel
theorem dX6_readWhiff_14 : decode cX6_readWhiff 14 = .ok (.istore_n 1, 1) := by decide +kernel
theorem dX6_readWhiff_15 : decode cX6_readWhiff 15 = .ok (.aload_n 0, 1) := by decide +kernel
theorem dX6_readWhiff_16 : decode cX6_readWhiff 16 = .ok (.getfield 12, 3) := by decide +kernel
theorem dX6_readWhiff_19 : decode cX6_readWhiff 19 = .ok (.getfield 212, 3) := by decide +kernel
theorem dX6_readWhiff_22 : decode cX6_readWhiff 22 = .ok (.iload_n 1, 1) := by decide +kernel
theorem dX6_readWhiff_23 : decode cX6_readWhiff 23 = .ok (.iaload, 1) := by decide +kernel
theorem dX6_readWhiff_24 : decode cX6_readWhiff 24 = .ok (.iconst (-1), 1) := by decide +kernel
theorem dX6_readWhiff_25 : decode cX6_readWhiff 25 = .ok (.if_icmp .eq 13, 3) := by decide +kernel
theorem dX6_readWhiff_28 : decode cX6_readWhiff 28 = .ok (.aload_n 0, 1) := by decide +kernel
theorem dX6_readWhiff_29 : decode cX6_readWhiff 29 = .ok (.iconst 3, 1) := by decide +kernel
theorem dX6_readWhiff_30 : decode cX6_readWhiff 30 = .ok (.aload_n 0, 1) := by decide +kernel
theorem dX6_readWhiff_31 : decode cX6_readWhiff 31 = .ok (.getfield 183, 3) := by decide +kernel
theorem dX6_readWhiff_34 : decode cX6_readWhiff 34 = .ok (.invokevirtual 68, 3) := by decide +kernel
theorem dX6_readWhiff_37 : decode cX6_readWhiff 37 = .ok (.ireturn, 1) := by decide +kernel
theorem dX6_readWhiff_38 : decode cX6_readWhiff 38 = .ok (.aload_n 0, 1) := by decide +kernel
theorem dX6_readWhiff_39 : decode cX6_readWhiff 39 = .ok (.iconst 0, 1) := by decide +kernel
theorem dX6_readWhiff_40 : decode cX6_readWhiff 40 = .ok (.bipush 60, 2) := by decide +kernel
theorem dX6_readWhiff_42 : decode cX6_readWhiff 42 = .ok (.invokevirtual 134, 3) := by decide +kernel
theorem dX6_readWhiff_45 : decode cX6_readWhiff 45 = .ok (.ifCond .ne 5, 3) := by decide +kernel
theorem dX6_readWhiff_48 : decode cX6_readWhiff 48 = .ok (.iconst 0, 1) := by decide +kernel
theorem dX6_readWhiff_49 : decode cX6_readWhiff 49 = .ok (.ireturn, 1) := by decide +kernel
theorem dX6_readWhiff_50 : decode cX6_readWhiff 50 = .ok (.aload_n 0, 1) := by decide +kernel
theorem dX6_readWhiff_51 : decode cX6_readWhiff 51 = .ok (.getfield 12, 3) := by decide +kernel
theorem dX6_readWhiff_54 : decode cX6_readWhiff 54 = .ok (.getfield 212, 3) := by decide +kernel
theorem dX6_readWhiff_57 : decode cX6_readWhiff 57 = .ok (.iload_n 1, 1) := by decide +kernel
theorem dX6_readWhiff_58 : decode cX6_readWhiff 58 = .ok (.aload_n 0, 1) := by decide +kernel
theorem dX6_readWhiff_59 : decode cX6_readWhiff 59 = .ok (.getfield 137, 3) := by decide +kernel
theorem dX6_readWhiff_62 : decode cX6_readWhiff 62 = .ok (.iastore, 1) := by decide +kernel
theorem dX6_readWhiff_63 : decode cX6_readWhiff 63 = .ok (.aload_n 0, 1) := by decide +kernel
theorem dX6_readWhiff_64 : decode cX6_readWhiff 64 = .ok (.bipush 10, 2) := by decide +kernel
theorem dX6_readWhiff_66 : decode cX6_readWhiff 66 = .ok (.invokevirtual 149, 3) := by decide +kernel
theorem dX6_readWhiff_69 : decode cX6_readWhiff 69 = .ok (.ireturn, 1) := by decide +kernel
theorem dX6_count_0 : decode cX6_count 0 = .ok (.aload_n 0, 1) := by decide +kernel
theorem dX6_count_1 : decode cX6_count 1 = .ok (.getfield 12, 3) := by decide +kernel
theorem dX6_count_4 : decode cX6_count 4 = .ok (.getfield 72, 3) := by decide +kernel
theorem dX6_count_7 : decode cX6_count 7 = .ok (.iload_n 1, 1) := by decide +kernel
theorem dX6_count_8 : decode cX6_count 8 = .ok (.dup2, 1) := by decide +kernel
theorem dX6_count_9 : decode cX6_count 9 = .ok (.iaload, 1) := by decide +kernel
theorem dX6_count_10 : decode cX6_count 10 = .ok (.iconst 1, 1) := by decide +kernel
theorem dX6_count_11 : decode cX6_count 11 = .ok (.iadd, 1) := by decide +kernel
theorem dX6_count_12 : decode cX6_count 12 = .ok (.iastore, 1) := by decide +kernel
theorem dX6_count_13 : decode cX6_count 13 = .ok (.iconst 1, 1) := by decide +kernel
theorem dX6_count_14 : decode cX6_count 14 = .ok (.ireturn, 1) := by decide +kernel
theorem dX6_choice_0 : decode cX6_choice 0 = .ok (.aload_n 0, 1) := by decide +kernel
theorem dX6_choice_1 : decode cX6_choice 1 = .ok (.getfield 34, 3) := by decide +kernel
theorem dX6_choice_4 : decode cX6_choice 4 = .ok (.aload_n 1, 1) := by decide +kernel
theorem dX6_choice_5 : decode cX6_choice 5 = .ok (.invokevirtual 77, 3) := by decide +kernel
theorem dX6_choice_8 : decode cX6_choice 8 = .ok (.istore_n 2, 1) := by decide +kernel
theorem dX6_choice_9 : decode cX6_choice 9 = .ok (.iload_n 2, 1) := by decide +kernel
theorem dX6_choice_10 : decode cX6_choice 10 = .ok (.iconst (-1), 1) := by decide +kernel
theorem dX6_choice_11 : decode cX6_choice 11 = .ok (.if_icmp .ne 16, 3) := by decide +kernel
theorem dX6_choice_14 : decode cX6_choice 14 = .ok (.aload_n 0, 1) := by decide +kernel
theorem dX6_choice_15 : decode cX6_choice 15 = .ok (.iconst 1, 1) := by decide +kernel
theorem dX6_choice_16 : decode cX6_choice 16 = .ok (.aload_n 0, 1) := by decide +kernel
theorem dX6_choice_17 : decode cX6_choice 17 = .ok (.getfield 34, 3) := by decide +kernel
theorem dX6_choice_20 : decode cX6_choice 20 = .ok (.getfield 65, 3) := by decide +kernel
theorem dX6_choice_23 : decode cX6_choice 23 = .ok (.invokevirtual 68, 3) := by decide +kernel
theorem dX6_choice_26 : decode cX6_choice 26 = .ok (.ireturn, 1) := by decide +kernel
theorem dX6_choice_27 : decode cX6_choice 27 = .ok (.aload_n 0, 1) := by decide +kernel
theorem dX6_choice_28 : decode cX6_choice 28 = .ok (.iload_n 2, 1) := by decide +kernel
theorem dX6_choice_29 : decode cX6_choice 29 = .ok (.invokevirtual 215, 3) := by decide +kernel
theorem dX6_choice_32 : decode cX6_choice 32 = .ok (.ireturn, 1) := by decide +kernel
theorem dX6_whole_0 : decode cX6_whole 0 = .ok (.aload_n 0, 1) := by decide +kernel
theorem dX6_whole_1 : decode cX6_whole 1 = .ok (.getfield 34, 3) := by decide +kernel
theorem dX6_whole_4 : decode cX6_whole 4 = .ok (.getfield 59, 3) := by decide +kernel
theorem dX6_whole_7 : decode cX6_whole 7 = .ok (.iconst 2, 1) := by decide +kernel
theorem dX6_whole_8 : decode cX6_whole 8 = .ok (.if_icmp .eq 16, 3) := by decide +kernel
theorem dX6_whole_11 : decode cX6_whole 11 = .ok (.aload_n 0, 1) := by decide +kernel
theorem dX6_whole_12 : decode cX6_whole 12 = .ok (.iconst 1, 1) := by decide +kernel
theorem dX6_whole_13 : decode cX6_whole 13 = .ok (.aload_n 0, 1) := by decide +kernel
theorem dX6_whole_14 : decode cX6_whole 14 = .ok (.getfield 34, 3) := by decide +kernel
theorem dX6_whole_17 : decode cX6_whole 17 = .ok (.getfield 65, 3) := by decide +kernel
theorem dX6_whole_20 : decode cX6_whole 20 = .ok (.invokevirtual 68, 3) := by decide +kernel
theorem dX6_whole_23 : decode cX6_whole 23 = .ok (.ireturn, 1) := by decide +kernel
theorem dX6_whole_24 : decode cX6_whole 24 = .ok (.aload_n 0, 1) := by decide +kernel
theorem dX6_whole_25 : decode cX6_whole 25 = .ok (.getfield 34, 3) := by decide +kernel
theorem dX6_whole_28 : decode cX6_whole 28 = .ok (.getfield 218, 3) := by decide +kernel
theorem dX6_whole_31 : decode cX6_whole 31 = .ok (.iload_n 1, 1) := by decide +kernel
theorem dX6_whole_32 : decode cX6_whole 32 = .ok (.i2l, 1) := by decide +kernel
theorem dX6_whole_33 : decode cX6_whole 33 = .ok (.lcmp, 1) := by decide +kernel
theorem dX6_whole_34 : decode cX6_whole 34 = .ok (.ifCond .lt 16, 3) := by decide +kernel
theorem dX6_whole_37 : decode cX6_whole 37 = .ok (.aload_n 0, 1) := by decide +kernel
theorem dX6_whole_38 : decode cX6_whole 38 = .ok (.getfield 34, 3) := by decide +kernel
theorem dX6_whole_41 : decode cX6_whole 41 = .ok (.getfield 218, 3) := by decide +kernel
theorem dX6_whole_44 : decode cX6_whole 44 = .ok (.iload_n 2, 1) := by decide +kernel
theorem dX6_whole_45 : decode cX6_whole 45 = .ok (.i2l, 1) := by decide +kernel
theorem dX6_whole_46 : decode cX6_whole 46 = .ok (.lcmp, 1) := by decide +kernel
theorem dX6_whole_47 : decode cX6_whole 47 = .ok (.ifCond .le 16, 3) := by decide +kernel
theorem dX6_whole_50 : decode cX6_whole 50 = .ok (.aload_n 0, 1) := by decide +kernel
theorem dX6_whole_51 : decode cX6_whole 51 = .ok (.iconst 4, 1) := by decide +kernel
theorem dX6_whole_52 : decode cX6_whole 52 = .ok (.aload_n 0, 1) := by decide +kernel
theorem dX6_whole_53 : decode cX6_whole 53 = .ok (.getfield 34, 3) := by decide +kernel
theorem dX6_whole_56 : decode cX6_whole 56 = .ok (.getfield 65, 3) := by decide +kernel
theorem dX6_whole_59 : decode cX6_whole 59 = .ok (.invokevirtual 68, 3) := by decide +kernel
theorem dX6_whole_62 : decode cX6_whole 62 = .ok (.ireturn, 1) := by decide +kernel
theorem dX6_whole_63 : decode cX6_whole 63 = .ok (.aload_n 0, 1) := by decide +kernel
theorem dX6_whole_64 : decode cX6_whole 64 = .ok (.aload_n 0, 1) := by decide +kernel
theorem dX6_whole_65 : decode cX6_whole 65 = .ok (.getfield 34, 3) := by decide +kernel
theorem dX6_whole_68 : decode cX6_whole 68 = .ok (.getfield 218, 3) := by decide +kernel
theorem dX6_whole_71 : decode cX6_whole 71 = .ok (.l2i, 1) := by decide +kernel
theorem dX6_whole_72 : decode cX6_whole 72 = .ok (.invokevirtual 215, 3) := by decide +kernel
theorem dX6_whole_75 : decode cX6_whole 75 = .ok (.ireturn, 1) := by decide +kernel
theorem dX6_newName_0 : decode cX6_newName 0 = .ok (.aload_n 0, 1) := by decide +kernel
theorem dX6_newName_1 : decode cX6_newName 1 = .ok (.getfield 34, 3) := by decide +kernel
theorem dX6_newName_4 : decode cX6_newName 4 = .ok (.getfield 59, 3) := by decide +kernel
theorem dX6_newName_7 : decode cX6_newName 7 = .ok (.iconst 1, 1) := by decide +kernel
theorem dX6_newName_8 : decode cX6_newName 8 = .ok (.if_icmp .ne 16, 3) := by decide +kernel
theorem dX6_newName_11 : decode cX6_newName 11 = .ok (.aload_n 0, 1) := by decide +kernel
theorem dX6_newName_12 : decode cX6_newName 12 = .ok (.getfield 34, 3) := by decide +kernel
theorem dX6_newName_15 : decode cX6_newName 15 = .ok (.ldc 75, 2) := by decide +kernel
theorem dX6_newName_17 : decode cX6_newName 17 = .ok (.invokevirtual 77, 3) := by decide +kernel
theorem dX6_newName_20 : decode cX6_newName 20 = .ok (.iconst (-1), 1) := by decide +kernel
theorem dX6_newName_21 : decode cX6_newName 21 = .ok (.if_icmp .eq 16, 3) := by decide +kernel
theorem dX6_newName_24 : decode cX6_newName 24 = .ok (.aload_n 0, 1) := by decide +kernel
theorem dX6_newName_25 : decode cX6_newName 25 = .ok (.iconst 1, 1) := by decide +kernel
theorem dX6_newName_26 : decode cX6_newName 26 = .ok (.aload_n 0, 1) := by decide +kernel
theorem dX6_newName_27 : decode cX6_newName 27 = .ok (.getfield 34, 3) := by decide +kernel
theorem dX6_newName_30 : decode cX6_newName 30 = .ok (.getfield 65, 3) := by decide +kernel
theorem dX6_newName_33 : decode cX6_newName 33 = .ok (.invokevirtual 68, 3) := by decide +kernel
theorem dX6_newName_36 : decode cX6_newName 36 = .ok (.ireturn, 1) := by decide +kernel
theorem dX6_newName_37 : decode cX6_newName 37 = .ok (.aload_n 0, 1) := by decide +kernel
theorem dX6_newName_38 : decode cX6_newName 38 = .ok (.invokevirtual 222, 3) := by decide +kernel
theorem dX6_newName_41 : decode cX6_newName 41 = .ok (.iconst (-1), 1) := by decide +kernel
theorem dX6_newName_42 : decode cX6_newName 42 = .ok (.if_icmp .eq 16, 3) := by decide +kernel
theorem dX6_newName_45 : decode cX6_newName 45 = .ok (.aload_n 0, 1) := by decide +kernel
theorem dX6_newName_46 : decode cX6_newName 46 = .ok (.iconst 3, 1) := by decide +kernel
theorem dX6_newName_47 : decode cX6_newName 47 = .ok (.aload_n 0, 1) := by decide +kernel
theorem dX6_newName_48 : decode cX6_newName 48 = .ok (.getfield 34, 3) := by decide +kernel
theorem dX6_newName_51 : decode cX6_newName 51 = .ok (.getfield 65, 3) := by decide +kernel
theorem dX6_newName_54 : decode cX6_newName 54 = .ok (.invokevirtual 68, 3) := by decide +kernel
theorem dX6_newName_57 : decode cX6_newName 57 = .ok (.ireturn, 1) := by decide +kernel
theorem dX6_newName_58 : decode cX6_newName 58 = .ok (.aload_n 0, 1) := by decide +kernel
theorem dX6_newName_59 : decode cX6_newName 59 = .ok (.getfield 41, 3) := by decide +kernel
theorem dX6_newName_62 : decode cX6_newName 62 = .ok (.bipush 24, 2) := by decide +kernel
theorem dX6_newName_64 : decode cX6_newName 64 = .ok (.if_icmp .lt 16, 3) := by decide +kernel
theorem dX6_newName_67 : decode cX6_newName 67 = .ok (.aload_n 0, 1) := by decide +kernel
theorem dX6_newName_68 : decode cX6_newName 68 = .ok (.iconst 5, 1) := by decide +kernel
theorem dX6_newName_69 : decode cX6_newName 69 = .ok (.aload_n 0, 1) := by decide +kernel
theorem dX6_newName_70 : decode cX6_newName 70 = .ok (.getfield 34, 3) := by decide +kernel
theorem dX6_newName_73 : decode cX6_newName 73 = .ok (.getfield 65, 3) := by decide +kernel
theorem dX6_newName_76 : decode cX6_newName 76 = .ok (.invokevirtual 68, 3) := by decide +kernel
theorem dX6_newName_79 : decode cX6_newName 79 = .ok (.ireturn, 1) := by decide +kernel
theorem dX6_newName_80 : decode cX6_newName 80 = .ok (.aload_n 0, 1) := by decide +kernel
theorem dX6_newName_81 : decode cX6_newName 81 = .ok (.getfield 18, 3) := by decide +kernel
theorem dX6_newName_84 : decode cX6_newName 84 = .ok (.aload_n 0, 1) := by decide +kernel
theorem dX6_newName_85 : decode cX6_newName 85 = .ok (.getfield 41, 3) := by decide +kernel
theorem dX6_newName_88 : decode cX6_newName 88 = .ok (.aload_n 0, 1) := by decide +kernel
theorem dX6_newName_89 : decode cX6_newName 89 = .ok (.getfield 34, 3) := by decide +kernel
theorem dX6_newName_92 : decode cX6_newName 92 = .ok (.getfield 218, 3) := by decide +kernel
theorem dX6_newName_95 : decode cX6_newName 95 = .ok (.lastore, 1) := by decide +kernel
theorem dX6_newName_96 : decode cX6_newName 96 = .ok (.aload_n 0, 1) := by decide +kernel
theorem dX6_newName_97 : decode cX6_newName 97 = .ok (.getfield 22, 3) := by decide +kernel
theorem dX6_newName_100 : decode cX6_newName 100 = .ok (.aload_n 0, 1) := by decide +kernel
theorem dX6_newName_101 : decode cX6_newName 101 = .ok (.getfield 41, 3) := by decide +kernel
theorem dX6_newName_104 : decode cX6_newName 104 = .ok (.iload_n 1, 1) := by decide +kernel
theorem dX6_newName_105 : decode cX6_newName 105 = .ok (.iastore, 1) := by decide +kernel
theorem dX6_newName_106 : decode cX6_newName 106 = .ok (.aload_n 0, 1) := by decide +kernel
theorem dX6_newName_107 : decode cX6_newName 107 = .ok (.getfield 26, 3) := by decide +kernel
theorem dX6_newName_110 : decode cX6_newName 110 = .ok (.aload_n 0, 1) := by decide +kernel
theorem dX6_newName_111 : decode cX6_newName 111 = .ok (.getfield 41, 3) := by decide +kernel
theorem dX6_newName_114 : decode cX6_newName 114 = .ok (.aload_n 0, 1) := by decide +kernel
theorem dX6_newName_115 : decode cX6_newName 115 = .ok (.getfield 12, 3) := by decide +kernel
theorem dX6_newName_118 : decode cX6_newName 118 = .ok (.getfield 72, 3) := by decide +kernel
theorem dX6_newName_121 : decode cX6_newName 121 = .ok (.iload_n 1, 1) := by decide +kernel
theorem dX6_newName_122 : decode cX6_newName 122 = .ok (.iaload, 1) := by decide +kernel
theorem dX6_newName_123 : decode cX6_newName 123 = .ok (.iastore, 1) := by decide +kernel
theorem dX6_newName_124 : decode cX6_newName 124 = .ok (.aload_n 0, 1) := by decide +kernel
theorem dX6_newName_125 : decode cX6_newName 125 = .ok (.dup, 1) := by decide +kernel
theorem dX6_newName_126 : decode cX6_newName 126 = .ok (.getfield 41, 3) := by decide +kernel
theorem dX6_newName_129 : decode cX6_newName 129 = .ok (.iconst 1, 1) := by decide +kernel
theorem dX6_newName_130 : decode cX6_newName 130 = .ok (.iadd, 1) := by decide +kernel
theorem dX6_newName_131 : decode cX6_newName 131 = .ok (.putfield 41, 3) := by decide +kernel
theorem dX6_newName_134 : decode cX6_newName 134 = .ok (.aload_n 0, 1) := by decide +kernel
theorem dX6_newName_135 : decode cX6_newName 135 = .ok (.aload_n 0, 1) := by decide +kernel
theorem dX6_newName_136 : decode cX6_newName 136 = .ok (.getfield 12, 3) := by decide +kernel
theorem dX6_newName_139 : decode cX6_newName 139 = .ok (.getfield 72, 3) := by decide +kernel
theorem dX6_newName_142 : decode cX6_newName 142 = .ok (.iload_n 1, 1) := by decide +kernel
theorem dX6_newName_143 : decode cX6_newName 143 = .ok (.iaload, 1) := by decide +kernel
theorem dX6_newName_144 : decode cX6_newName 144 = .ok (.invokevirtual 215, 3) := by decide +kernel
theorem dX6_newName_147 : decode cX6_newName 147 = .ok (.ireturn, 1) := by decide +kernel
theorem dX6_knownName_0 : decode cX6_knownName 0 = .ok (.aload_n 0, 1) := by decide +kernel
theorem dX6_knownName_1 : decode cX6_knownName 1 = .ok (.getfield 34, 3) := by decide +kernel
theorem dX6_knownName_4 : decode cX6_knownName 4 = .ok (.getfield 59, 3) := by decide +kernel
theorem dX6_knownName_7 : decode cX6_knownName 7 = .ok (.iconst 1, 1) := by decide +kernel
theorem dX6_knownName_8 : decode cX6_knownName 8 = .ok (.if_icmp .ne 16, 3) := by decide +kernel
theorem dX6_knownName_11 : decode cX6_knownName 11 = .ok (.aload_n 0, 1) := by decide +kernel
theorem dX6_knownName_12 : decode cX6_knownName 12 = .ok (.getfield 34, 3) := by decide +kernel
theorem dX6_knownName_15 : decode cX6_knownName 15 = .ok (.ldc 75, 2) := by decide +kernel
theorem dX6_knownName_17 : decode cX6_knownName 17 = .ok (.invokevirtual 77, 3) := by decide +kernel
theorem dX6_knownName_20 : decode cX6_knownName 20 = .ok (.iconst (-1), 1) := by decide +kernel
theorem dX6_knownName_21 : decode cX6_knownName 21 = .ok (.if_icmp .eq 16, 3) := by decide +kernel
theorem dX6_knownName_24 : decode cX6_knownName 24 = .ok (.aload_n 0, 1) := by decide +kernel
theorem dX6_knownName_25 : decode cX6_knownName 25 = .ok (.iconst 1, 1) := by decide +kernel
theorem dX6_knownName_26 : decode cX6_knownName 26 = .ok (.aload_n 0, 1) := by decide +kernel
theorem dX6_knownName_27 : decode cX6_knownName 27 = .ok (.getfield 34, 3) := by decide +kernel
theorem dX6_knownName_30 : decode cX6_knownName 30 = .ok (.getfield 65, 3) := by decide +kernel
theorem dX6_knownName_33 : decode cX6_knownName 33 = .ok (.invokevirtual 68, 3) := by decide +kernel
theorem dX6_knownName_36 : decode cX6_knownName 36 = .ok (.ireturn, 1) := by decide +kernel
theorem dX6_knownName_37 : decode cX6_knownName 37 = .ok (.aload_n 0, 1) := by decide +kernel
theorem dX6_knownName_38 : decode cX6_knownName 38 = .ok (.invokevirtual 222, 3) := by decide +kernel
theorem dX6_knownName_41 : decode cX6_knownName 41 = .ok (.istore_n 2, 1) := by decide +kernel
theorem dX6_knownName_42 : decode cX6_knownName 42 = .ok (.iload_n 2, 1) := by decide +kernel
theorem dX6_knownName_43 : decode cX6_knownName 43 = .ok (.iconst (-1), 1) := by decide +kernel
theorem dX6_knownName_44 : decode cX6_knownName 44 = .ok (.if_icmp .eq 13, 3) := by decide +kernel
theorem dX6_knownName_47 : decode cX6_knownName 47 = .ok (.aload_n 0, 1) := by decide +kernel
theorem dX6_knownName_48 : decode cX6_knownName 48 = .ok (.getfield 22, 3) := by decide +kernel
theorem dX6_knownName_51 : decode cX6_knownName 51 = .ok (.iload_n 2, 1) := by decide +kernel
theorem dX6_knownName_52 : decode cX6_knownName 52 = .ok (.iaload, 1) := by decide +kernel
theorem dX6_knownName_53 : decode cX6_knownName 53 = .ok (.iload_n 1, 1) := by decide +kernel
theorem dX6_knownName_54 : decode cX6_knownName 54 = .ok (.if_icmp .eq 16, 3) := by decide +kernel
theorem dX6_knownName_57 : decode cX6_knownName 57 = .ok (.aload_n 0, 1) := by decide +kernel
theorem dX6_knownName_58 : decode cX6_knownName 58 = .ok (.iconst 2, 1) := by decide +kernel
theorem dX6_knownName_59 : decode cX6_knownName 59 = .ok (.aload_n 0, 1) := by decide +kernel
theorem dX6_knownName_60 : decode cX6_knownName 60 = .ok (.getfield 34, 3) := by decide +kernel
theorem dX6_knownName_63 : decode cX6_knownName 63 = .ok (.getfield 65, 3) := by decide +kernel
theorem dX6_knownName_66 : decode cX6_knownName 66 = .ok (.invokevirtual 68, 3) := by decide +kernel
theorem dX6_knownName_69 : decode cX6_knownName 69 = .ok (.ireturn, 1) := by decide +kernel
theorem dX6_knownName_70 : decode cX6_knownName 70 = .ok (.aload_n 0, 1) := by decide +kernel
theorem dX6_knownName_71 : decode cX6_knownName 71 = .ok (.aload_n 0, 1) := by decide +kernel
theorem dX6_knownName_72 : decode cX6_knownName 72 = .ok (.getfield 26, 3) := by decide +kernel
theorem dX6_knownName_75 : decode cX6_knownName 75 = .ok (.iload_n 2, 1) := by decide +kernel
theorem dX6_knownName_76 : decode cX6_knownName 76 = .ok (.iaload, 1) := by decide +kernel
theorem dX6_knownName_77 : decode cX6_knownName 77 = .ok (.invokevirtual 215, 3) := by decide +kernel
theorem dX6_knownName_80 : decode cX6_knownName 80 = .ok (.ireturn, 1) := by decide +kernel
theorem dX6_nameAt_0 : decode cX6_nameAt 0 = .ok (.iconst 0, 1) := by decide +kernel
theorem dX6_nameAt_1 : decode cX6_nameAt 1 = .ok (.istore_n 1, 1) := by decide +kernel
theorem dX6_nameAt_2 : decode cX6_nameAt 2 = .ok (.iload_n 1, 1) := by decide +kernel
theorem dX6_nameAt_3 : decode cX6_nameAt 3 = .ok (.aload_n 0, 1) := by decide +kernel
theorem dX6_nameAt_4 : decode cX6_nameAt 4 = .ok (.getfield 41, 3) := by decide +kernel
theorem dX6_nameAt_7 : decode cX6_nameAt 7 = .ok (.if_icmp .ge 28, 3) := by decide +kernel
theorem dX6_nameAt_10 : decode cX6_nameAt 10 = .ok (.aload_n 0, 1) := by decide +kernel
theorem dX6_nameAt_11 : decode cX6_nameAt 11 = .ok (.getfield 18, 3) := by decide +kernel
theorem dX6_nameAt_14 : decode cX6_nameAt 14 = .ok (.iload_n 1, 1) := by decide +kernel
theorem dX6_nameAt_15 : decode cX6_nameAt 15 = .ok (.laload, 1) := by decide +kernel
theorem dX6_nameAt_16 : decode cX6_nameAt 16 = .ok (.aload_n 0, 1) := by decide +kernel
theorem dX6_nameAt_17 : decode cX6_nameAt 17 = .ok (.getfield 34, 3) := by decide +kernel
theorem dX6_nameAt_20 : decode cX6_nameAt 20 = .ok (.getfield 218, 3) := by decide +kernel
theorem dX6_nameAt_23 : decode cX6_nameAt 23 = .ok (.lcmp, 1) := by decide +kernel
theorem dX6_nameAt_24 : decode cX6_nameAt 24 = .ok (.ifCond .ne 5, 3) := by decide +kernel
theorem dX6_nameAt_27 : decode cX6_nameAt 27 = .ok (.iload_n 1, 1) := by decide +kernel
theorem dX6_nameAt_28 : decode cX6_nameAt 28 = .ok (.ireturn, 1) := by decide +kernel
theorem dX6_nameAt_29 : decode cX6_nameAt 29 = .ok (.iinc 1 1, 3) := by decide +kernel
theorem dX6_nameAt_32 : decode cX6_nameAt 32 = .ok (.goto (-30), 3) := by decide +kernel
theorem dX6_nameAt_35 : decode cX6_nameAt 35 = .ok (.iconst (-1), 1) := by decide +kernel
theorem dX6_nameAt_36 : decode cX6_nameAt 36 = .ok (.ireturn, 1) := by decide +kernel
theorem dX6_take_0 : decode cX6_take 0 = .ok (.aload_n 0, 1) := by decide +kernel
theorem dX6_take_1 : decode cX6_take 1 = .ok (.iload_n 1, 1) := by decide +kernel
theorem dX6_take_2 : decode cX6_take 2 = .ok (.putfield 137, 3) := by decide +kernel
theorem dX6_take_5 : decode cX6_take 5 = .ok (.aload_n 0, 1) := by decide +kernel
theorem dX6_take_6 : decode cX6_take 6 = .ok (.aload_n 0, 1) := by decide +kernel
theorem dX6_take_7 : decode cX6_take 7 = .ok (.getfield 34, 3) := by decide +kernel
theorem dX6_take_10 : decode cX6_take 10 = .ok (.getfield 65, 3) := by decide +kernel
theorem dX6_take_13 : decode cX6_take 13 = .ok (.putfield 183, 3) := by decide +kernel
theorem dX6_take_16 : decode cX6_take 16 = .ok (.aload_n 0, 1) := by decide +kernel
theorem dX6_take_17 : decode cX6_take 17 = .ok (.getfield 34, 3) := by decide +kernel
theorem dX6_take_20 : decode cX6_take 20 = .ok (.invokevirtual 62, 3) := by decide +kernel
theorem dX6_take_23 : decode cX6_take 23 = .ok (.iconst 1, 1) := by decide +kernel
theorem dX6_take_24 : decode cX6_take 24 = .ok (.ireturn, 1) := by decide +kernel
theorem dX6_wrong_0 : decode cX6_wrong 0 = .ok (.aload_n 0, 1) := by decide +kernel
theorem dX6_wrong_1 : decode cX6_wrong 1 = .ok (.iload_n 1, 1) := by decide +kernel
theorem dX6_wrong_2 : decode cX6_wrong 2 = .ok (.putfield 45, 3) := by decide +kernel
theorem dX6_wrong_5 : decode cX6_wrong 5 = .ok (.aload_n 0, 1) := by decide +kernel
theorem dX6_wrong_6 : decode cX6_wrong 6 = .ok (.iload_n 2, 1) := by decide +kernel
theorem dX6_wrong_7 : decode cX6_wrong 7 = .ok (.putfield 48, 3) := by decide +kernel
theorem dX6_wrong_10 : decode cX6_wrong 10 = .ok (.iconst 0, 1) := by decide +kernel
theorem dX6_wrong_11 : decode cX6_wrong 11 = .ok (.ireturn, 1) := by decide +kernel
theorem dX7_init_0 : decode cX7_init 0 = .ok (.aload_n 0, 1) := by decide +kernel
theorem dX7_init_1 : decode cX7_init 1 = .ok (.invokespecial 3, 3) := by decide +kernel
theorem dX7_init_4 : decode cX7_init 4 = .ok (.aload_n 0, 1) := by decide +kernel
theorem dX7_init_5 : decode cX7_init 5 = .ok (.aload_n 1, 1) := by decide +kernel
theorem dX7_init_6 : decode cX7_init 6 = .ok (.putfield 9, 3) := by decide +kernel
theorem dX7_init_9 : decode cX7_init 9 = .ok (.return_, 1) := by decide +kernel
theorem dX7_begin_0 : decode cX7_begin 0 = .ok (.aload_n 0, 1) := by decide +kernel
theorem dX7_begin_1 : decode cX7_begin 1 = .ok (.iconst 0, 1) := by decide +kernel
theorem dX7_begin_2 : decode cX7_begin 2 = .ok (.iload_n 1, 1) := by decide +kernel
theorem dX7_begin_3 : decode cX7_begin 3 = .ok (.aload_n 0, 1) := by decide +kernel
theorem dX7_begin_4 : decode cX7_begin 4 = .ok (.getfield 9, 3) := by decide +kernel
theorem dX7_begin_7 : decode cX7_begin 7 = .ok (.arraylength, 1) := by decide +kernel
theorem dX7_begin_8 : decode cX7_begin 8 = .ok (.invokestatic 15, 3) := by decide +kernel
theorem dX7_begin_11 : decode cX7_begin 11 = .ok (.invokestatic 21, 3) := by decide +kernel
theorem dX7_begin_14 : decode cX7_begin 14 = .ok (.putfield 24, 3) := by decide +kernel
theorem dX7_begin_17 : decode cX7_begin 17 = .ok (.aload_n 0, 1) := by decide +kernel
theorem dX7_begin_18 : decode cX7_begin 18 = .ok (.iconst 0, 1) := by decide +kernel
theorem dX7_begin_19 : decode cX7_begin 19 = .ok (.putfield 28, 3) := by decide +kernel
theorem dX7_begin_22 : decode cX7_begin 22 = .ok (.aload_n 0, 1) := by decide +kernel
theorem dX7_begin_23 : decode cX7_begin 23 = .ok (.invokevirtual 31, 3) := by decide +kernel
theorem dX7_begin_26 : decode cX7_begin 26 = .ok (.return_, 1) := by decide +kernel
theorem dX7_next_0 : decode cX7_next 0 = .ok (.aload_n 0, 1) := by decide +kernel
theorem dX7_next_1 : decode cX7_next 1 = .ok (.aload_n 0, 1) := by decide +kernel
theorem dX7_next_2 : decode cX7_next 2 = .ok (.getfield 28, 3) := by decide +kernel
theorem dX7_next_5 : decode cX7_next 5 = .ok (.putfield 34, 3) := by decide +kernel
theorem dX7_next_8 : decode cX7_next 8 = .ok (.aload_n 0, 1) := by decide +kernel
theorem dX7_next_9 : decode cX7_next 9 = .ok (.getfield 34, 3) := by decide +kernel
theorem dX7_next_12 : decode cX7_next 12 = .ok (.aload_n 0, 1) := by decide +kernel
theorem dX7_next_13 : decode cX7_next 13 = .ok (.getfield 24, 3) := by decide +kernel
theorem dX7_next_16 : decode cX7_next 16 = .ok (.if_icmp .ge 30, 3) := by decide +kernel
theorem dX7_next_19 : decode cX7_next 19 = .ok (.aload_n 0, 1) := by decide +kernel
theorem dX7_next_20 : decode cX7_next 20 = .ok (.getfield 9, 3) := by decide +kernel
theorem dX7_next_23 : decode cX7_next 23 = .ok (.aload_n 0, 1) := by decide +kernel
theorem dX7_next_24 : decode cX7_next 24 = .ok (.getfield 34, 3) := by decide +kernel
theorem dX7_next_27 : decode cX7_next 27 = .ok (.iaload, 1) := by decide +kernel
theorem dX7_next_28 : decode cX7_next 28 = .ok (.bipush 32, 2) := by decide +kernel
theorem dX7_next_30 : decode cX7_next 30 = .ok (.if_icmp .ne 16, 3) := by decide +kernel
theorem dX7_next_33 : decode cX7_next 33 = .ok (.aload_n 0, 1) := by decide +kernel
theorem dX7_next_34 : decode cX7_next 34 = .ok (.dup, 1) := by decide +kernel
theorem dX7_next_35 : decode cX7_next 35 = .ok (.getfield 34, 3) := by decide +kernel
theorem dX7_next_38 : decode cX7_next 38 = .ok (.iconst 1, 1) := by decide +kernel
theorem dX7_next_39 : decode cX7_next 39 = .ok (.iadd, 1) := by decide +kernel
theorem dX7_next_40 : decode cX7_next 40 = .ok (.putfield 34, 3) := by decide +kernel
theorem dX7_next_43 : decode cX7_next 43 = .ok (.goto (-35), 3) := by decide +kernel
theorem dX7_next_46 : decode cX7_next 46 = .ok (.aload_n 0, 1) := by decide +kernel
theorem dX7_next_47 : decode cX7_next 47 = .ok (.aload_n 0, 1) := by decide +kernel
theorem dX7_next_48 : decode cX7_next 48 = .ok (.getfield 34, 3) := by decide +kernel
theorem dX7_next_51 : decode cX7_next 51 = .ok (.putfield 28, 3) := by decide +kernel
theorem dX7_next_54 : decode cX7_next 54 = .ok (.aload_n 0, 1) := by decide +kernel
theorem dX7_next_55 : decode cX7_next 55 = .ok (.lconst 0, 1) := by decide +kernel
theorem dX7_next_56 : decode cX7_next 56 = .ok (.putfield 37, 3) := by decide +kernel
theorem dX7_next_59 : decode cX7_next 59 = .ok (.aload_n 0, 1) := by decide +kernel
theorem dX7_next_60 : decode cX7_next 60 = .ok (.getfield 28, 3) := by decide +kernel
theorem dX7_next_63 : decode cX7_next 63 = .ok (.aload_n 0, 1) := by decide +kernel
theorem dX7_next_64 : decode cX7_next 64 = .ok (.getfield 24, 3) := by decide +kernel
theorem dX7_next_67 : decode cX7_next 67 = .ok (.if_icmp .ge 70, 3) := by decide +kernel
theorem dX7_next_70 : decode cX7_next 70 = .ok (.aload_n 0, 1) := by decide +kernel
theorem dX7_next_71 : decode cX7_next 71 = .ok (.getfield 9, 3) := by decide +kernel
theorem dX7_next_74 : decode cX7_next 74 = .ok (.aload_n 0, 1) := by decide +kernel
theorem dX7_next_75 : decode cX7_next 75 = .ok (.getfield 28, 3) := by decide +kernel
theorem dX7_next_78 : decode cX7_next 78 = .ok (.iaload, 1) := by decide +kernel
theorem dX7_next_79 : decode cX7_next 79 = .ok (.bipush 97, 2) := by decide +kernel
theorem dX7_next_81 : decode cX7_next 81 = .ok (.if_icmp .lt 56, 3) := by decide +kernel
theorem dX7_next_84 : decode cX7_next 84 = .ok (.aload_n 0, 1) := by decide +kernel
theorem dX7_next_85 : decode cX7_next 85 = .ok (.getfield 9, 3) := by decide +kernel
theorem dX7_next_88 : decode cX7_next 88 = .ok (.aload_n 0, 1) := by decide +kernel
theorem dX7_next_89 : decode cX7_next 89 = .ok (.getfield 28, 3) := by decide +kernel
theorem dX7_next_92 : decode cX7_next 92 = .ok (.iaload, 1) := by decide +kernel
theorem dX7_next_93 : decode cX7_next 93 = .ok (.bipush 122, 2) := by decide +kernel
theorem dX7_next_95 : decode cX7_next 95 = .ok (.if_icmp .gt 42, 3) := by decide +kernel
theorem dX7_next_98 : decode cX7_next 98 = .ok (.aload_n 0, 1) := by decide +kernel
theorem dX7_next_99 : decode cX7_next 99 = .ok (.aload_n 0, 1) := by decide +kernel
theorem dX7_next_100 : decode cX7_next 100 = .ok (.getfield 37, 3) := by decide +kernel
theorem dX7_next_103 : decode cX7_next 103 = .ok (.iconst 5, 1) := by decide +kernel
theorem dX7_next_104 : decode cX7_next 104 = .ok (.lshl, 1) := by decide +kernel
theorem dX7_next_105 : decode cX7_next 105 = .ok (.aload_n 0, 1) := by decide +kernel
theorem dX7_next_106 : decode cX7_next 106 = .ok (.getfield 9, 3) := by decide +kernel
theorem dX7_next_109 : decode cX7_next 109 = .ok (.aload_n 0, 1) := by decide +kernel
theorem dX7_next_110 : decode cX7_next 110 = .ok (.getfield 28, 3) := by decide +kernel
theorem dX7_next_113 : decode cX7_next 113 = .ok (.iaload, 1) := by decide +kernel
theorem dX7_next_114 : decode cX7_next 114 = .ok (.bipush 97, 2) := by decide +kernel
theorem dX7_next_116 : decode cX7_next 116 = .ok (.isub, 1) := by decide +kernel
theorem dX7_next_117 : decode cX7_next 117 = .ok (.iconst 1, 1) := by decide +kernel
theorem dX7_next_118 : decode cX7_next 118 = .ok (.iadd, 1) := by decide +kernel
theorem dX7_next_119 : decode cX7_next 119 = .ok (.i2l, 1) := by decide +kernel
theorem dX7_next_120 : decode cX7_next 120 = .ok (.lor, 1) := by decide +kernel
theorem dX7_next_121 : decode cX7_next 121 = .ok (.putfield 37, 3) := by decide +kernel
theorem dX7_next_124 : decode cX7_next 124 = .ok (.aload_n 0, 1) := by decide +kernel
theorem dX7_next_125 : decode cX7_next 125 = .ok (.dup, 1) := by decide +kernel
theorem dX7_next_126 : decode cX7_next 126 = .ok (.getfield 28, 3) := by decide +kernel
theorem dX7_next_129 : decode cX7_next 129 = .ok (.iconst 1, 1) := by decide +kernel
theorem dX7_next_130 : decode cX7_next 130 = .ok (.iadd, 1) := by decide +kernel
theorem dX7_next_131 : decode cX7_next 131 = .ok (.putfield 28, 3) := by decide +kernel
theorem dX7_next_134 : decode cX7_next 134 = .ok (.goto (-75), 3) := by decide +kernel
theorem dX7_next_137 : decode cX7_next 137 = .ok (.aload_n 0, 1) := by decide +kernel
theorem dX7_next_138 : decode cX7_next 138 = .ok (.getfield 28, 3) := by decide +kernel
theorem dX7_next_141 : decode cX7_next 141 = .ok (.aload_n 0, 1) := by decide +kernel
theorem dX7_next_142 : decode cX7_next 142 = .ok (.getfield 34, 3) := by decide +kernel
theorem dX7_next_145 : decode cX7_next 145 = .ok (.isub, 1) := by decide +kernel
theorem dX7_next_146 : decode cX7_next 146 = .ok (.istore_n 1, 1) := by decide +kernel
theorem dX7_next_147 : decode cX7_next 147 = .ok (.iload_n 1, 1) := by decide +kernel
theorem dX7_next_148 : decode cX7_next 148 = .ok (.ifCond .ne 82, 3) := by decide +kernel
theorem dX7_next_151 : decode cX7_next 151 = .ok (.aload_n 0, 1) := by decide +kernel
theorem dX7_next_152 : decode cX7_next 152 = .ok (.getfield 28, 3) := by decide +kernel
theorem dX7_next_155 : decode cX7_next 155 = .ok (.aload_n 0, 1) := by decide +kernel
theorem dX7_next_156 : decode cX7_next 156 = .ok (.getfield 24, 3) := by decide +kernel
theorem dX7_next_159 : decode cX7_next 159 = .ok (.if_icmp .ge 71, 3) := by decide +kernel
theorem dX7_next_162 : decode cX7_next 162 = .ok (.aload_n 0, 1) := by decide +kernel
theorem dX7_next_163 : decode cX7_next 163 = .ok (.getfield 9, 3) := by decide +kernel
theorem dX7_next_166 : decode cX7_next 166 = .ok (.aload_n 0, 1) := by decide +kernel
theorem dX7_next_167 : decode cX7_next 167 = .ok (.getfield 28, 3) := by decide +kernel
theorem dX7_next_170 : decode cX7_next 170 = .ok (.iaload, 1) := by decide +kernel
theorem dX7_next_171 : decode cX7_next 171 = .ok (.bipush 48, 2) := by decide +kernel
theorem dX7_next_173 : decode cX7_next 173 = .ok (.if_icmp .lt 57, 3) := by decide +kernel
theorem dX7_next_176 : decode cX7_next 176 = .ok (.aload_n 0, 1) := by decide +kernel
theorem dX7_next_177 : decode cX7_next 177 = .ok (.getfield 9, 3) := by decide +kernel
theorem dX7_next_180 : decode cX7_next 180 = .ok (.aload_n 0, 1) := by decide +kernel
theorem dX7_next_181 : decode cX7_next 181 = .ok (.getfield 28, 3) := by decide +kernel
theorem dX7_next_184 : decode cX7_next 184 = .ok (.iaload, 1) := by decide +kernel
theorem dX7_next_185 : decode cX7_next 185 = .ok (.bipush 57, 2) := by decide +kernel
theorem dX7_next_187 : decode cX7_next 187 = .ok (.if_icmp .gt 43, 3) := by decide +kernel
theorem dX7_next_190 : decode cX7_next 190 = .ok (.aload_n 0, 1) := by decide +kernel
theorem dX7_next_191 : decode cX7_next 191 = .ok (.aload_n 0, 1) := by decide +kernel
theorem dX7_next_192 : decode cX7_next 192 = .ok (.getfield 37, 3) := by decide +kernel
theorem dX7_next_195 : decode cX7_next 195 = .ok (.ldc2_w 41, 3) := by decide +kernel
theorem dX7_next_198 : decode cX7_next 198 = .ok (.lmul, 1) := by decide +kernel
theorem dX7_next_199 : decode cX7_next 199 = .ok (.aload_n 0, 1) := by decide +kernel
theorem dX7_next_200 : decode cX7_next 200 = .ok (.getfield 9, 3) := by decide +kernel
theorem dX7_next_203 : decode cX7_next 203 = .ok (.aload_n 0, 1) := by decide +kernel
theorem dX7_next_204 : decode cX7_next 204 = .ok (.getfield 28, 3) := by decide +kernel
theorem dX7_next_207 : decode cX7_next 207 = .ok (.iaload, 1) := by decide +kernel
theorem dX7_next_208 : decode cX7_next 208 = .ok (.i2l, 1) := by decide +kernel
theorem dX7_next_209 : decode cX7_next 209 = .ok (.ladd, 1) := by decide +kernel
theorem dX7_next_210 : decode cX7_next 210 = .ok (.ldc2_w 43, 3) := by decide +kernel
theorem dX7_next_213 : decode cX7_next 213 = .ok (.lsub, 1) := by decide +kernel
theorem dX7_next_214 : decode cX7_next 214 = .ok (.putfield 37, 3) := by decide +kernel
theorem dX7_next_217 : decode cX7_next 217 = .ok (.aload_n 0, 1) := by decide +kernel
theorem dX7_next_218 : decode cX7_next 218 = .ok (.dup, 1) := by decide +kernel
theorem dX7_next_219 : decode cX7_next 219 = .ok (.getfield 28, 3) := by decide +kernel
theorem dX7_next_222 : decode cX7_next 222 = .ok (.iconst 1, 1) := by decide +kernel
theorem dX7_next_223 : decode cX7_next 223 = .ok (.iadd, 1) := by decide +kernel
theorem dX7_next_224 : decode cX7_next 224 = .ok (.putfield 28, 3) := by decide +kernel
theorem dX7_next_227 : decode cX7_next 227 = .ok (.goto (-80), 3) := by decide +kernel
theorem dX7_next_230 : decode cX7_next 230 = .ok (.aload_n 0, 1) := by decide +kernel
theorem dX7_next_231 : decode cX7_next 231 = .ok (.getfield 28, 3) := by decide +kernel
theorem dX7_next_234 : decode cX7_next 234 = .ok (.aload_n 0, 1) := by decide +kernel
theorem dX7_next_235 : decode cX7_next 235 = .ok (.getfield 34, 3) := by decide +kernel
theorem dX7_next_238 : decode cX7_next 238 = .ok (.isub, 1) := by decide +kernel
theorem dX7_next_239 : decode cX7_next 239 = .ok (.iload_n 1, 1) := by decide +kernel
theorem dX7_next_240 : decode cX7_next 240 = .ok (.isub, 1) := by decide +kernel
theorem dX7_next_241 : decode cX7_next 241 = .ok (.istore_n 2, 1) := by decide +kernel
theorem dX7_next_242 : decode cX7_next 242 = .ok (.iload_n 1, 1) := by decide +kernel
theorem dX7_next_243 : decode cX7_next 243 = .ok (.ifCond .le 21, 3) := by decide +kernel
theorem dX7_next_246 : decode cX7_next 246 = .ok (.aload_n 0, 1) := by decide +kernel
theorem dX7_next_247 : decode cX7_next 247 = .ok (.iload_n 1, 1) := by decide +kernel
theorem dX7_next_248 : decode cX7_next 248 = .ok (.bipush 9, 2) := by decide +kernel
theorem dX7_next_250 : decode cX7_next 250 = .ok (.if_icmp .gt 7, 3) := by decide +kernel
theorem dX7_next_253 : decode cX7_next 253 = .ok (.iconst 1, 1) := by decide +kernel
theorem dX7_next_254 : decode cX7_next 254 = .ok (.goto 4, 3) := by decide +kernel
theorem dX7_next_257 : decode cX7_next 257 = .ok (.iconst 5, 1) := by decide +kernel
theorem dX7_next_258 : decode cX7_next 258 = .ok (.putfield 45, 3) := by decide +kernel
theorem dX7_next_261 : decode cX7_next 261 = .ok (.goto 94, 3) := by decide +kernel
theorem dX7_next_264 : decode cX7_next 264 = .ok (.iload_n 2, 1) := by decide +kernel
theorem dX7_next_265 : decode cX7_next 265 = .ok (.ifCond .le 20, 3) := by decide +kernel
theorem dX7_next_268 : decode cX7_next 268 = .ok (.aload_n 0, 1) := by decide +kernel
theorem dX7_next_269 : decode cX7_next 269 = .ok (.iload_n 2, 1) := by decide +kernel
theorem dX7_next_270 : decode cX7_next 270 = .ok (.iconst 2, 1) := by decide +kernel
theorem dX7_next_271 : decode cX7_next 271 = .ok (.if_icmp .gt 7, 3) := by decide +kernel
theorem dX7_next_274 : decode cX7_next 274 = .ok (.iconst 2, 1) := by decide +kernel
theorem dX7_next_275 : decode cX7_next 275 = .ok (.goto 4, 3) := by decide +kernel
theorem dX7_next_278 : decode cX7_next 278 = .ok (.iconst 5, 1) := by decide +kernel
theorem dX7_next_279 : decode cX7_next 279 = .ok (.putfield 45, 3) := by decide +kernel
theorem dX7_next_282 : decode cX7_next 282 = .ok (.goto 73, 3) := by decide +kernel
theorem dX7_next_285 : decode cX7_next 285 = .ok (.aload_n 0, 1) := by decide +kernel
theorem dX7_next_286 : decode cX7_next 286 = .ok (.getfield 34, 3) := by decide +kernel
theorem dX7_next_289 : decode cX7_next 289 = .ok (.aload_n 0, 1) := by decide +kernel
theorem dX7_next_290 : decode cX7_next 290 = .ok (.getfield 24, 3) := by decide +kernel
theorem dX7_next_293 : decode cX7_next 293 = .ok (.if_icmp .lt 11, 3) := by decide +kernel
theorem dX7_next_296 : decode cX7_next 296 = .ok (.aload_n 0, 1) := by decide +kernel
theorem dX7_next_297 : decode cX7_next 297 = .ok (.iconst 0, 1) := by decide +kernel
theorem dX7_next_298 : decode cX7_next 298 = .ok (.putfield 45, 3) := by decide +kernel
theorem dX7_next_301 : decode cX7_next 301 = .ok (.goto 54, 3) := by decide +kernel
theorem dX7_next_304 : decode cX7_next 304 = .ok (.aload_n 0, 1) := by decide +kernel
theorem dX7_next_305 : decode cX7_next 305 = .ok (.aload_n 0, 1) := by decide +kernel
theorem dX7_next_306 : decode cX7_next 306 = .ok (.getfield 9, 3) := by decide +kernel
theorem dX7_next_309 : decode cX7_next 309 = .ok (.aload_n 0, 1) := by decide +kernel
theorem dX7_next_310 : decode cX7_next 310 = .ok (.getfield 34, 3) := by decide +kernel
theorem dX7_next_313 : decode cX7_next 313 = .ok (.iaload, 1) := by decide +kernel
theorem dX7_next_314 : decode cX7_next 314 = .ok (.bipush 59, 2) := by decide +kernel
theorem dX7_next_316 : decode cX7_next 316 = .ok (.if_icmp .ne 7, 3) := by decide +kernel
theorem dX7_next_319 : decode cX7_next 319 = .ok (.iconst 3, 1) := by decide +kernel
theorem dX7_next_320 : decode cX7_next 320 = .ok (.goto 22, 3) := by decide +kernel
theorem dX7_next_323 : decode cX7_next 323 = .ok (.aload_n 0, 1) := by decide +kernel
theorem dX7_next_324 : decode cX7_next 324 = .ok (.getfield 9, 3) := by decide +kernel
theorem dX7_next_327 : decode cX7_next 327 = .ok (.aload_n 0, 1) := by decide +kernel
theorem dX7_next_328 : decode cX7_next 328 = .ok (.getfield 34, 3) := by decide +kernel
theorem dX7_next_331 : decode cX7_next 331 = .ok (.iaload, 1) := by decide +kernel
theorem dX7_next_332 : decode cX7_next 332 = .ok (.bipush 44, 2) := by decide +kernel
theorem dX7_next_334 : decode cX7_next 334 = .ok (.if_icmp .ne 7, 3) := by decide +kernel
theorem dX7_next_337 : decode cX7_next 337 = .ok (.iconst 4, 1) := by decide +kernel
theorem dX7_next_338 : decode cX7_next 338 = .ok (.goto 4, 3) := by decide +kernel
theorem dX7_next_341 : decode cX7_next 341 = .ok (.iconst 5, 1) := by decide +kernel
theorem dX7_next_342 : decode cX7_next 342 = .ok (.putfield 45, 3) := by decide +kernel
theorem dX7_next_345 : decode cX7_next 345 = .ok (.aload_n 0, 1) := by decide +kernel
theorem dX7_next_346 : decode cX7_next 346 = .ok (.aload_n 0, 1) := by decide +kernel
theorem dX7_next_347 : decode cX7_next 347 = .ok (.getfield 34, 3) := by decide +kernel
theorem dX7_next_350 : decode cX7_next 350 = .ok (.iconst 1, 1) := by decide +kernel
theorem dX7_next_351 : decode cX7_next 351 = .ok (.iadd, 1) := by decide +kernel
theorem dX7_next_352 : decode cX7_next 352 = .ok (.putfield 28, 3) := by decide +kernel
theorem dX7_next_355 : decode cX7_next 355 = .ok (.return_, 1) := by decide +kernel
theorem dX7_wordIn_0 : decode cX7_wordIn 0 = .ok (.aload_n 0, 1) := by decide +kernel
theorem dX7_wordIn_1 : decode cX7_wordIn 1 = .ok (.getfield 45, 3) := by decide +kernel
theorem dX7_wordIn_4 : decode cX7_wordIn 4 = .ok (.iconst 1, 1) := by decide +kernel
theorem dX7_wordIn_5 : decode cX7_wordIn 5 = .ok (.if_icmp .eq 5, 3) := by decide +kernel
theorem dX7_wordIn_8 : decode cX7_wordIn 8 = .ok (.iconst (-1), 1) := by decide +kernel
theorem dX7_wordIn_9 : decode cX7_wordIn 9 = .ok (.ireturn, 1) := by decide +kernel
theorem dX7_wordIn_10 : decode cX7_wordIn 10 = .ok (.iconst 0, 1) := by decide +kernel
theorem dX7_wordIn_11 : decode cX7_wordIn 11 = .ok (.istore_n 2, 1) := by decide +kernel
theorem dX7_wordIn_12 : decode cX7_wordIn 12 = .ok (.lconst 0, 1) := by decide +kernel
theorem dX7_wordIn_13 : decode cX7_wordIn 13 = .ok (.lstore_n 3, 1) := by decide +kernel
theorem dX7_wordIn_14 : decode cX7_wordIn 14 = .ok (.iconst 0, 1) := by decide +kernel
theorem dX7_wordIn_15 : decode cX7_wordIn 15 = .ok (.istore 5, 2) := by decide +kernel
theorem dX7_wordIn_17 : decode cX7_wordIn 17 = .ok (.iload 5, 2) := by decide +kernel
theorem dX7_wordIn_19 : decode cX7_wordIn 19 = .ok (.aload_n 1, 1) := by decide +kernel
theorem dX7_wordIn_20 : decode cX7_wordIn 20 = .ok (.invokevirtual 48, 3) := by decide +kernel
theorem dX7_wordIn_23 : decode cX7_wordIn 23 = .ok (.if_icmp .ge 56, 3) := by decide +kernel
theorem dX7_wordIn_26 : decode cX7_wordIn 26 = .ok (.aload_n 1, 1) := by decide +kernel
theorem dX7_wordIn_27 : decode cX7_wordIn 27 = .ok (.iload 5, 2) := by decide +kernel
theorem dX7_wordIn_29 : decode cX7_wordIn 29 = .ok (.invokevirtual 54, 3) := by decide +kernel
theorem dX7_wordIn_32 : decode cX7_wordIn 32 = .ok (.istore 6, 2) := by decide +kernel
theorem dX7_wordIn_34 : decode cX7_wordIn 34 = .ok (.iload 6, 2) := by decide +kernel
theorem dX7_wordIn_36 : decode cX7_wordIn 36 = .ok (.bipush 32, 2) := by decide +kernel
theorem dX7_wordIn_38 : decode cX7_wordIn 38 = .ok (.if_icmp .eq 19, 3) := by decide +kernel
theorem dX7_wordIn_41 : decode cX7_wordIn 41 = .ok (.lload_n 3, 1) := by decide +kernel
theorem dX7_wordIn_42 : decode cX7_wordIn 42 = .ok (.iconst 5, 1) := by decide +kernel
theorem dX7_wordIn_43 : decode cX7_wordIn 43 = .ok (.lshl, 1) := by decide +kernel
theorem dX7_wordIn_44 : decode cX7_wordIn 44 = .ok (.iload 6, 2) := by decide +kernel
theorem dX7_wordIn_46 : decode cX7_wordIn 46 = .ok (.bipush 97, 2) := by decide +kernel
theorem dX7_wordIn_48 : decode cX7_wordIn 48 = .ok (.isub, 1) := by decide +kernel
theorem dX7_wordIn_49 : decode cX7_wordIn 49 = .ok (.iconst 1, 1) := by decide +kernel
theorem dX7_wordIn_50 : decode cX7_wordIn 50 = .ok (.iadd, 1) := by decide +kernel
theorem dX7_wordIn_51 : decode cX7_wordIn 51 = .ok (.i2l, 1) := by decide +kernel
theorem dX7_wordIn_52 : decode cX7_wordIn 52 = .ok (.lor, 1) := by decide +kernel
theorem dX7_wordIn_53 : decode cX7_wordIn 53 = .ok (.lstore_n 3, 1) := by decide +kernel
theorem dX7_wordIn_54 : decode cX7_wordIn 54 = .ok (.goto 19, 3) := by decide +kernel
theorem dX7_wordIn_57 : decode cX7_wordIn 57 = .ok (.lload_n 3, 1) := by decide +kernel
theorem dX7_wordIn_58 : decode cX7_wordIn 58 = .ok (.aload_n 0, 1) := by decide +kernel
theorem dX7_wordIn_59 : decode cX7_wordIn 59 = .ok (.getfield 37, 3) := by decide +kernel
theorem dX7_wordIn_62 : decode cX7_wordIn 62 = .ok (.lcmp, 1) := by decide +kernel
theorem dX7_wordIn_63 : decode cX7_wordIn 63 = .ok (.ifCond .ne 5, 3) := by decide +kernel
theorem dX7_wordIn_66 : decode cX7_wordIn 66 = .ok (.iload_n 2, 1) := by decide +kernel
theorem dX7_wordIn_67 : decode cX7_wordIn 67 = .ok (.ireturn, 1) := by decide +kernel
theorem dX7_wordIn_68 : decode cX7_wordIn 68 = .ok (.iinc 2 1, 3) := by decide +kernel
theorem dX7_wordIn_71 : decode cX7_wordIn 71 = .ok (.lconst 0, 1) := by decide +kernel
theorem dX7_wordIn_72 : decode cX7_wordIn 72 = .ok (.lstore_n 3, 1) := by decide +kernel
theorem dX7_wordIn_73 : decode cX7_wordIn 73 = .ok (.iinc 5 1, 3) := by decide +kernel
theorem dX7_wordIn_76 : decode cX7_wordIn 76 = .ok (.goto (-59), 3) := by decide +kernel
theorem dX7_wordIn_79 : decode cX7_wordIn 79 = .ok (.lload_n 3, 1) := by decide +kernel
theorem dX7_wordIn_80 : decode cX7_wordIn 80 = .ok (.aload_n 0, 1) := by decide +kernel
theorem dX7_wordIn_81 : decode cX7_wordIn 81 = .ok (.getfield 37, 3) := by decide +kernel
theorem dX7_wordIn_84 : decode cX7_wordIn 84 = .ok (.lcmp, 1) := by decide +kernel
theorem dX7_wordIn_85 : decode cX7_wordIn 85 = .ok (.ifCond .ne 7, 3) := by decide +kernel
theorem dX7_wordIn_88 : decode cX7_wordIn 88 = .ok (.iload_n 2, 1) := by decide +kernel
theorem dX7_wordIn_89 : decode cX7_wordIn 89 = .ok (.goto 4, 3) := by decide +kernel
theorem dX7_wordIn_92 : decode cX7_wordIn 92 = .ok (.iconst (-1), 1) := by decide +kernel
theorem dX7_wordIn_93 : decode cX7_wordIn 93 = .ok (.ireturn, 1) := by decide +kernel
theorem dX8_init_0 : decode cX8_init 0 = .ok (.aload_n 0, 1) := by decide +kernel
theorem dX8_init_1 : decode cX8_init 1 = .ok (.invokespecial 3, 3) := by decide +kernel
theorem dX8_init_4 : decode cX8_init 4 = .ok (.aload_n 0, 1) := by decide +kernel
theorem dX8_init_5 : decode cX8_init 5 = .ok (.iconst 4, 1) := by decide +kernel
theorem dX8_init_6 : decode cX8_init 6 = .ok (.newarray .int, 2) := by decide +kernel
theorem dX8_init_8 : decode cX8_init 8 = .ok (.putfield 11, 3) := by decide +kernel
theorem dX8_init_11 : decode cX8_init 11 = .ok (.aload_n 0, 1) := by decide +kernel
theorem dX8_init_12 : decode cX8_init 12 = .ok (.iconst 4, 1) := by decide +kernel
theorem dX8_init_13 : decode cX8_init 13 = .ok (.newarray .int, 2) := by decide +kernel
theorem dX8_init_15 : decode cX8_init 15 = .ok (.putfield 15, 3) := by decide +kernel
theorem dX8_init_18 : decode cX8_init 18 = .ok (.aload_n 0, 1) := by decide +kernel
theorem dX8_init_19 : decode cX8_init 19 = .ok (.iconst 4, 1) := by decide +kernel
theorem dX8_init_20 : decode cX8_init 20 = .ok (.bipush 6, 2) := by decide +kernel
theorem dX8_init_22 : decode cX8_init 22 = .ok (.multianewarray 18 2, 4) := by decide +kernel
theorem dX8_init_26 : decode cX8_init 26 = .ok (.putfield 20, 3) := by decide +kernel
theorem dX8_init_29 : decode cX8_init 29 = .ok (.aload_n 0, 1) := by decide +kernel
theorem dX8_init_30 : decode cX8_init 30 = .ok (.aload_n 1, 1) := by decide +kernel
theorem dX8_init_31 : decode cX8_init 31 = .ok (.putfield 23, 3) := by decide +kernel
theorem dX8_init_34 : decode cX8_init 34 = .ok (.aload_n 0, 1) := by decide +kernel
theorem dX8_init_35 : decode cX8_init 35 = .ok (.aload_n 2, 1) := by decide +kernel
theorem dX8_init_36 : decode cX8_init 36 = .ok (.putfield 27, 3) := by decide +kernel
theorem dX8_init_39 : decode cX8_init 39 = .ok (.return_, 1) := by decide +kernel
theorem dX8_search_0 : decode cX8_search 0 = .ok (.aload_n 0, 1) := by decide +kernel
theorem dX8_search_1 : decode cX8_search 1 = .ok (.iconst 0, 1) := by decide +kernel
theorem dX8_search_2 : decode cX8_search 2 = .ok (.putfield 31, 3) := by decide +kernel
theorem dX8_search_5 : decode cX8_search 5 = .ok (.aload_n 0, 1) := by decide +kernel
theorem dX8_search_6 : decode cX8_search 6 = .ok (.iconst 0, 1) := by decide +kernel
theorem dX8_search_7 : decode cX8_search 7 = .ok (.putfield 35, 3) := by decide +kernel
theorem dX8_search_10 : decode cX8_search 10 = .ok (.aload_n 0, 1) := by decide +kernel
theorem dX8_search_11 : decode cX8_search 11 = .ok (.bipush 63, 2) := by decide +kernel
theorem dX8_search_13 : decode cX8_search 13 = .ok (.putfield 38, 3) := by decide +kernel
theorem dX8_search_16 : decode cX8_search 16 = .ok (.aload_n 0, 1) := by decide +kernel
theorem dX8_search_17 : decode cX8_search 17 = .ok (.iconst 0, 1) := by decide +kernel
theorem dX8_search_18 : decode cX8_search 18 = .ok (.putfield 41, 3) := by decide +kernel
theorem dX8_search_21 : decode cX8_search 21 = .ok (.iconst 0, 1) := by decide +kernel
theorem dX8_search_22 : decode cX8_search 22 = .ok (.istore_n 1, 1) := by decide +kernel
theorem dX8_search_23 : decode cX8_search 23 = .ok (.iload_n 1, 1) := by decide +kernel
theorem dX8_search_24 : decode cX8_search 24 = .ok (.aload_n 0, 1) := by decide +kernel
theorem dX8_search_25 : decode cX8_search 25 = .ok (.getfield 23, 3) := by decide +kernel
theorem dX8_search_28 : decode cX8_search 28 = .ok (.getfield 44, 3) := by decide +kernel
theorem dX8_search_31 : decode cX8_search 31 = .ok (.iconst 4, 1) := by decide +kernel
theorem dX8_search_32 : decode cX8_search 32 = .ok (.iaload, 1) := by decide +kernel
theorem dX8_search_33 : decode cX8_search 33 = .ok (.if_icmp .ge 41, 3) := by decide +kernel
theorem dX8_search_36 : decode cX8_search 36 = .ok (.iconst 0, 1) := by decide +kernel
theorem dX8_search_37 : decode cX8_search 37 = .ok (.istore_n 2, 1) := by decide +kernel
theorem dX8_search_38 : decode cX8_search 38 = .ok (.iload_n 2, 1) := by decide +kernel
theorem dX8_search_39 : decode cX8_search 39 = .ok (.bipush 6, 2) := by decide +kernel
theorem dX8_search_41 : decode cX8_search 41 = .ok (.if_icmp .ge 18, 3) := by decide +kernel
theorem dX8_search_44 : decode cX8_search 44 = .ok (.aload_n 0, 1) := by decide +kernel
theorem dX8_search_45 : decode cX8_search 45 = .ok (.getfield 20, 3) := by decide +kernel
theorem dX8_search_48 : decode cX8_search 48 = .ok (.iconst 0, 1) := by decide +kernel
theorem dX8_search_49 : decode cX8_search 49 = .ok (.aaload, 1) := by decide +kernel
theorem dX8_search_50 : decode cX8_search 50 = .ok (.iload_n 2, 1) := by decide +kernel
theorem dX8_search_51 : decode cX8_search 51 = .ok (.iconst 0, 1) := by decide +kernel
theorem dX8_search_52 : decode cX8_search 52 = .ok (.iastore, 1) := by decide +kernel
theorem dX8_search_53 : decode cX8_search 53 = .ok (.iinc 2 1, 3) := by decide +kernel
theorem dX8_search_56 : decode cX8_search 56 = .ok (.goto (-18), 3) := by decide +kernel
theorem dX8_search_59 : decode cX8_search 59 = .ok (.aload_n 0, 1) := by decide +kernel
theorem dX8_search_60 : decode cX8_search 60 = .ok (.iconst 0, 1) := by decide +kernel
theorem dX8_search_61 : decode cX8_search 61 = .ok (.iload_n 1, 1) := by decide +kernel
theorem dX8_search_62 : decode cX8_search 62 = .ok (.iconst 1, 1) := by decide +kernel
theorem dX8_search_63 : decode cX8_search 63 = .ok (.iload_n 1, 1) := by decide +kernel
theorem dX8_search_64 : decode cX8_search 64 = .ok (.ishl, 1) := by decide +kernel
theorem dX8_search_65 : decode cX8_search 65 = .ok (.invokevirtual 49, 3) := by decide +kernel
theorem dX8_search_68 : decode cX8_search 68 = .ok (.iinc 1 1, 3) := by decide +kernel
theorem dX8_search_71 : decode cX8_search 71 = .ok (.goto (-48), 3) := by decide +kernel
theorem dX8_search_74 : decode cX8_search 74 = .ok (.return_, 1) := by decide +kernel
theorem dX8_come_0 : decode cX8_come 0 = .ok (.iconst 0, 1) := by decide +kernel
theorem dX8_come_1 : decode cX8_come 1 = .ok (.istore 4, 2) := by decide +kernel
theorem dX8_come_3 : decode cX8_come 3 = .ok (.iload 4, 2) := by decide +kernel
theorem dX8_come_5 : decode cX8_come 5 = .ok (.bipush 6, 2) := by decide +kernel
theorem dX8_come_7 : decode cX8_come 7 = .ok (.if_icmp .ge 42, 3) := by decide +kernel
theorem dX8_come_10 : decode cX8_come 10 = .ok (.aload_n 0, 1) := by decide +kernel
theorem dX8_come_11 : decode cX8_come 11 = .ok (.getfield 20, 3) := by decide +kernel
theorem dX8_come_14 : decode cX8_come 14 = .ok (.iload_n 1, 1) := by decide +kernel
theorem dX8_come_15 : decode cX8_come 15 = .ok (.aaload, 1) := by decide +kernel
theorem dX8_come_16 : decode cX8_come 16 = .ok (.iload 4, 2) := by decide +kernel
theorem dX8_come_18 : decode cX8_come 18 = .ok (.aload_n 0, 1) := by decide +kernel
theorem dX8_come_19 : decode cX8_come 19 = .ok (.getfield 20, 3) := by decide +kernel
theorem dX8_come_22 : decode cX8_come 22 = .ok (.iload_n 1, 1) := by decide +kernel
theorem dX8_come_23 : decode cX8_come 23 = .ok (.aaload, 1) := by decide +kernel
theorem dX8_come_24 : decode cX8_come 24 = .ok (.iload 4, 2) := by decide +kernel
theorem dX8_come_26 : decode cX8_come 26 = .ok (.iaload, 1) := by decide +kernel
theorem dX8_come_27 : decode cX8_come 27 = .ok (.aload_n 0, 1) := by decide +kernel
theorem dX8_come_28 : decode cX8_come 28 = .ok (.getfield 23, 3) := by decide +kernel
theorem dX8_come_31 : decode cX8_come 31 = .ok (.getfield 53, 3) := by decide +kernel
theorem dX8_come_34 : decode cX8_come 34 = .ok (.iload_n 2, 1) := by decide +kernel
theorem dX8_come_35 : decode cX8_come 35 = .ok (.aaload, 1) := by decide +kernel
theorem dX8_come_36 : decode cX8_come 36 = .ok (.iload 4, 2) := by decide +kernel
theorem dX8_come_38 : decode cX8_come 38 = .ok (.iaload, 1) := by decide +kernel
theorem dX8_come_39 : decode cX8_come 39 = .ok (.invokestatic 56, 3) := by decide +kernel
theorem dX8_come_42 : decode cX8_come 42 = .ok (.iastore, 1) := by decide +kernel
theorem dX8_come_43 : decode cX8_come 43 = .ok (.iinc 4 1, 3) := by decide +kernel
theorem dX8_come_46 : decode cX8_come 46 = .ok (.goto (-43), 3) := by decide +kernel
theorem dX8_come_49 : decode cX8_come 49 = .ok (.aload_n 0, 1) := by decide +kernel
theorem dX8_come_50 : decode cX8_come 50 = .ok (.getfield 15, 3) := by decide +kernel
theorem dX8_come_53 : decode cX8_come 53 = .ok (.iload_n 1, 1) := by decide +kernel
theorem dX8_come_54 : decode cX8_come 54 = .ok (.iload_n 2, 1) := by decide +kernel
theorem dX8_come_55 : decode cX8_come 55 = .ok (.iastore, 1) := by decide +kernel
theorem dX8_come_56 : decode cX8_come 56 = .ok (.aload_n 0, 1) := by decide +kernel
theorem dX8_come_57 : decode cX8_come 57 = .ok (.aload_n 0, 1) := by decide +kernel
theorem dX8_come_58 : decode cX8_come 58 = .ok (.getfield 20, 3) := by decide +kernel
theorem dX8_come_61 : decode cX8_come 61 = .ok (.iload_n 1, 1) := by decide +kernel
theorem dX8_come_62 : decode cX8_come 62 = .ok (.aaload, 1) := by decide +kernel
theorem dX8_come_63 : decode cX8_come 63 = .ok (.invokevirtual 62, 3) := by decide +kernel
theorem dX8_come_66 : decode cX8_come 66 = .ok (.ifCond .eq 11, 3) := by decide +kernel
theorem dX8_come_69 : decode cX8_come 69 = .ok (.aload_n 0, 1) := by decide +kernel
theorem dX8_come_70 : decode cX8_come 70 = .ok (.iload_n 1, 1) := by decide +kernel
theorem dX8_come_71 : decode cX8_come 71 = .ok (.iconst 1, 1) := by decide +kernel
theorem dX8_come_72 : decode cX8_come 72 = .ok (.iadd, 1) := by decide +kernel
theorem dX8_come_73 : decode cX8_come 73 = .ok (.iload_n 3, 1) := by decide +kernel
theorem dX8_come_74 : decode cX8_come 74 = .ok (.invokevirtual 66, 3) := by decide +kernel
theorem dX8_come_77 : decode cX8_come 77 = .ok (.iload_n 1, 1) := by decide +kernel
theorem dX8_come_78 : decode cX8_come 78 = .ok (.iconst 1, 1) := by decide +kernel
theorem dX8_come_79 : decode cX8_come 79 = .ok (.iadd, 1) := by decide +kernel
theorem dX8_come_80 : decode cX8_come 80 = .ok (.iconst 4, 1) := by decide +kernel
theorem dX8_come_81 : decode cX8_come 81 = .ok (.if_icmp .lt 4, 3) := by decide +kernel
theorem dX8_come_84 : decode cX8_come 84 = .ok (.return_, 1) := by decide +kernel
theorem dX8_come_85 : decode cX8_come 85 = .ok (.iconst 0, 1) := by decide +kernel
theorem dX8_come_86 : decode cX8_come 86 = .ok (.istore 4, 2) := by decide +kernel
theorem dX8_come_88 : decode cX8_come 88 = .ok (.iload 4, 2) := by decide +kernel
theorem dX8_come_90 : decode cX8_come 90 = .ok (.aload_n 0, 1) := by decide +kernel
theorem dX8_come_91 : decode cX8_come 91 = .ok (.getfield 23, 3) := by decide +kernel
theorem dX8_come_94 : decode cX8_come 94 = .ok (.getfield 44, 3) := by decide +kernel
theorem dX8_come_97 : decode cX8_come 97 = .ok (.iconst 4, 1) := by decide +kernel
theorem dX8_come_98 : decode cX8_come 98 = .ok (.iaload, 1) := by decide +kernel
theorem dX8_come_99 : decode cX8_come 99 = .ok (.if_icmp .ge 90, 3) := by decide +kernel
theorem dX8_come_102 : decode cX8_come 102 = .ok (.aload_n 0, 1) := by decide +kernel
theorem dX8_come_103 : decode cX8_come 103 = .ok (.getfield 23, 3) := by decide +kernel
theorem dX8_come_106 : decode cX8_come 106 = .ok (.getfield 70, 3) := by decide +kernel
theorem dX8_come_109 : decode cX8_come 109 = .ok (.iload_n 2, 1) := by decide +kernel
theorem dX8_come_110 : decode cX8_come 110 = .ok (.aaload, 1) := by decide +kernel
theorem dX8_come_111 : decode cX8_come 111 = .ok (.iload 4, 2) := by decide +kernel
theorem dX8_come_113 : decode cX8_come 113 = .ok (.iaload, 1) := by decide +kernel
theorem dX8_come_114 : decode cX8_come 114 = .ok (.istore 5, 2) := by decide +kernel
theorem dX8_come_116 : decode cX8_come 116 = .ok (.iload 5, 2) := by decide +kernel
theorem dX8_come_118 : decode cX8_come 118 = .ok (.ifCond .le 65, 3) := by decide +kernel
theorem dX8_come_121 : decode cX8_come 121 = .ok (.iload_n 3, 1) := by decide +kernel
theorem dX8_come_122 : decode cX8_come 122 = .ok (.iload 4, 2) := by decide +kernel
theorem dX8_come_124 : decode cX8_come 124 = .ok (.ishr, 1) := by decide +kernel
theorem dX8_come_125 : decode cX8_come 125 = .ok (.iconst 1, 1) := by decide +kernel
theorem dX8_come_126 : decode cX8_come 126 = .ok (.iand, 1) := by decide +kernel
theorem dX8_come_127 : decode cX8_come 127 = .ok (.ifCond .ne 56, 3) := by decide +kernel
theorem dX8_come_130 : decode cX8_come 130 = .ok (.aload_n 0, 1) := by decide +kernel
theorem dX8_come_131 : decode cX8_come 131 = .ok (.getfield 20, 3) := by decide +kernel
theorem dX8_come_134 : decode cX8_come 134 = .ok (.iload_n 1, 1) := by decide +kernel
theorem dX8_come_135 : decode cX8_come 135 = .ok (.aaload, 1) := by decide +kernel
theorem dX8_come_136 : decode cX8_come 136 = .ok (.iconst 0, 1) := by decide +kernel
theorem dX8_come_137 : decode cX8_come 137 = .ok (.aload_n 0, 1) := by decide +kernel
theorem dX8_come_138 : decode cX8_come 138 = .ok (.getfield 20, 3) := by decide +kernel
theorem dX8_come_141 : decode cX8_come 141 = .ok (.iload_n 1, 1) := by decide +kernel
theorem dX8_come_142 : decode cX8_come 142 = .ok (.iconst 1, 1) := by decide +kernel
theorem dX8_come_143 : decode cX8_come 143 = .ok (.iadd, 1) := by decide +kernel
theorem dX8_come_144 : decode cX8_come 144 = .ok (.aaload, 1) := by decide +kernel
theorem dX8_come_145 : decode cX8_come 145 = .ok (.iconst 0, 1) := by decide +kernel
theorem dX8_come_146 : decode cX8_come 146 = .ok (.bipush 6, 2) := by decide +kernel
theorem dX8_come_148 : decode cX8_come 148 = .ok (.invokestatic 73, 3) := by decide +kernel
theorem dX8_come_151 : decode cX8_come 151 = .ok (.aload_n 0, 1) := by decide +kernel
theorem dX8_come_152 : decode cX8_come 152 = .ok (.getfield 27, 3) := by decide +kernel
theorem dX8_come_155 : decode cX8_come 155 = .ok (.aload_n 0, 1) := by decide +kernel
theorem dX8_come_156 : decode cX8_come 156 = .ok (.getfield 20, 3) := by decide +kernel
theorem dX8_come_159 : decode cX8_come 159 = .ok (.iload_n 1, 1) := by decide +kernel
theorem dX8_come_160 : decode cX8_come 160 = .ok (.iconst 1, 1) := by decide +kernel
theorem dX8_come_161 : decode cX8_come 161 = .ok (.iadd, 1) := by decide +kernel
theorem dX8_come_162 : decode cX8_come 162 = .ok (.aaload, 1) := by decide +kernel
theorem dX8_come_163 : decode cX8_come 163 = .ok (.iload 5, 2) := by decide +kernel
theorem dX8_come_165 : decode cX8_come 165 = .ok (.invokevirtual 79, 3) := by decide +kernel
theorem dX8_come_168 : decode cX8_come 168 = .ok (.aload_n 0, 1) := by decide +kernel
theorem dX8_come_169 : decode cX8_come 169 = .ok (.iload_n 1, 1) := by decide +kernel
theorem dX8_come_170 : decode cX8_come 170 = .ok (.iconst 1, 1) := by decide +kernel
theorem dX8_come_171 : decode cX8_come 171 = .ok (.iadd, 1) := by decide +kernel
theorem dX8_come_172 : decode cX8_come 172 = .ok (.iload 4, 2) := by decide +kernel
theorem dX8_come_174 : decode cX8_come 174 = .ok (.iload_n 3, 1) := by decide +kernel
theorem dX8_come_175 : decode cX8_come 175 = .ok (.iconst 1, 1) := by decide +kernel
theorem dX8_come_176 : decode cX8_come 176 = .ok (.iload 4, 2) := by decide +kernel
theorem dX8_come_178 : decode cX8_come 178 = .ok (.ishl, 1) := by decide +kernel
theorem dX8_come_179 : decode cX8_come 179 = .ok (.ior, 1) := by decide +kernel
theorem dX8_come_180 : decode cX8_come 180 = .ok (.invokevirtual 49, 3) := by decide +kernel
theorem dX8_come_183 : decode cX8_come 183 = .ok (.iinc 4 1, 3) := by decide +kernel
theorem dX8_come_186 : decode cX8_come 186 = .ok (.goto (-98), 3) := by decide +kernel
theorem dX8_come_189 : decode cX8_come 189 = .ok (.return_, 1) := by decide +kernel
theorem dX8_hasAllWhiffs_0 : decode cX8_hasAllWhiffs 0 = .ok (.iconst 0, 1) := by decide +kernel
theorem dX8_hasAllWhiffs_1 : decode cX8_hasAllWhiffs 1 = .ok (.istore_n 2, 1) := by decide +kernel
theorem dX8_hasAllWhiffs_2 : decode cX8_hasAllWhiffs 2 = .ok (.iload_n 2, 1) := by decide +kernel
theorem dX8_hasAllWhiffs_3 : decode cX8_hasAllWhiffs 3 = .ok (.aload_n 0, 1) := by decide +kernel
theorem dX8_hasAllWhiffs_4 : decode cX8_hasAllWhiffs 4 = .ok (.getfield 23, 3) := by decide +kernel
theorem dX8_hasAllWhiffs_7 : decode cX8_hasAllWhiffs 7 = .ok (.getfield 44, 3) := by decide +kernel
theorem dX8_hasAllWhiffs_10 : decode cX8_hasAllWhiffs 10 = .ok (.iconst 2, 1) := by decide +kernel
theorem dX8_hasAllWhiffs_11 : decode cX8_hasAllWhiffs 11 = .ok (.iaload, 1) := by decide +kernel
theorem dX8_hasAllWhiffs_12 : decode cX8_hasAllWhiffs 12 = .ok (.if_icmp .ge 35, 3) := by decide +kernel
theorem dX8_hasAllWhiffs_15 : decode cX8_hasAllWhiffs 15 = .ok (.aload_n 0, 1) := by decide +kernel
theorem dX8_hasAllWhiffs_16 : decode cX8_hasAllWhiffs 16 = .ok (.getfield 23, 3) := by decide +kernel
theorem dX8_hasAllWhiffs_19 : decode cX8_hasAllWhiffs 19 = .ok (.getfield 85, 3) := by decide +kernel
theorem dX8_hasAllWhiffs_22 : decode cX8_hasAllWhiffs 22 = .ok (.iload_n 2, 1) := by decide +kernel
theorem dX8_hasAllWhiffs_23 : decode cX8_hasAllWhiffs 23 = .ok (.iaload, 1) := by decide +kernel
theorem dX8_hasAllWhiffs_24 : decode cX8_hasAllWhiffs 24 = .ok (.istore_n 3, 1) := by decide +kernel
theorem dX8_hasAllWhiffs_25 : decode cX8_hasAllWhiffs 25 = .ok (.iload_n 3, 1) := by decide +kernel
theorem dX8_hasAllWhiffs_26 : decode cX8_hasAllWhiffs 26 = .ok (.iconst (-1), 1) := by decide +kernel
theorem dX8_hasAllWhiffs_27 : decode cX8_hasAllWhiffs 27 = .ok (.if_icmp .eq 14, 3) := by decide +kernel
theorem dX8_hasAllWhiffs_30 : decode cX8_hasAllWhiffs 30 = .ok (.iload_n 3, 1) := by decide +kernel
theorem dX8_hasAllWhiffs_31 : decode cX8_hasAllWhiffs 31 = .ok (.aload_n 1, 1) := by decide +kernel
theorem dX8_hasAllWhiffs_32 : decode cX8_hasAllWhiffs 32 = .ok (.iload_n 2, 1) := by decide +kernel
theorem dX8_hasAllWhiffs_33 : decode cX8_hasAllWhiffs 33 = .ok (.iaload, 1) := by decide +kernel
theorem dX8_hasAllWhiffs_34 : decode cX8_hasAllWhiffs 34 = .ok (.iconst 2, 1) := by decide +kernel
theorem dX8_hasAllWhiffs_35 : decode cX8_hasAllWhiffs 35 = .ok (.idiv, 1) := by decide +kernel
theorem dX8_hasAllWhiffs_36 : decode cX8_hasAllWhiffs 36 = .ok (.if_icmp .eq 5, 3) := by decide +kernel
theorem dX8_hasAllWhiffs_39 : decode cX8_hasAllWhiffs 39 = .ok (.iconst 0, 1) := by decide +kernel
theorem dX8_hasAllWhiffs_40 : decode cX8_hasAllWhiffs 40 = .ok (.ireturn, 1) := by decide +kernel
theorem dX8_hasAllWhiffs_41 : decode cX8_hasAllWhiffs 41 = .ok (.iinc 2 1, 3) := by decide +kernel
theorem dX8_hasAllWhiffs_44 : decode cX8_hasAllWhiffs 44 = .ok (.goto (-42), 3) := by decide +kernel
theorem dX8_hasAllWhiffs_47 : decode cX8_hasAllWhiffs 47 = .ok (.iconst 1, 1) := by decide +kernel
theorem dX8_hasAllWhiffs_48 : decode cX8_hasAllWhiffs 48 = .ok (.ireturn, 1) := by decide +kernel
theorem dX8_add_0 : decode cX8_add 0 = .ok (.aload_n 0, 1) := by decide +kernel
theorem dX8_add_1 : decode cX8_add 1 = .ok (.dup, 1) := by decide +kernel
theorem dX8_add_2 : decode cX8_add 2 = .ok (.getfield 31, 3) := by decide +kernel
theorem dX8_add_5 : decode cX8_add 5 = .ok (.iconst 1, 1) := by decide +kernel
theorem dX8_add_6 : decode cX8_add 6 = .ok (.iadd, 1) := by decide +kernel
theorem dX8_add_7 : decode cX8_add 7 = .ok (.putfield 31, 3) := by decide +kernel
theorem dX8_add_10 : decode cX8_add 10 = .ok (.aload_n 0, 1) := by decide +kernel
theorem dX8_add_11 : decode cX8_add 11 = .ok (.dup, 1) := by decide +kernel
theorem dX8_add_12 : decode cX8_add 12 = .ok (.getfield 35, 3) := by decide +kernel
theorem dX8_add_15 : decode cX8_add 15 = .ok (.iload_n 2, 1) := by decide +kernel
theorem dX8_add_16 : decode cX8_add 16 = .ok (.ior, 1) := by decide +kernel
theorem dX8_add_17 : decode cX8_add 17 = .ok (.putfield 35, 3) := by decide +kernel
theorem dX8_add_20 : decode cX8_add 20 = .ok (.aload_n 0, 1) := by decide +kernel
theorem dX8_add_21 : decode cX8_add 21 = .ok (.dup, 1) := by decide +kernel
theorem dX8_add_22 : decode cX8_add 22 = .ok (.getfield 38, 3) := by decide +kernel
theorem dX8_add_25 : decode cX8_add 25 = .ok (.iload_n 2, 1) := by decide +kernel
theorem dX8_add_26 : decode cX8_add 26 = .ok (.iand, 1) := by decide +kernel
theorem dX8_add_27 : decode cX8_add 27 = .ok (.putfield 38, 3) := by decide +kernel
theorem dX8_add_30 : decode cX8_add 30 = .ok (.aload_n 0, 1) := by decide +kernel
theorem dX8_add_31 : decode cX8_add 31 = .ok (.getfield 41, 3) := by decide +kernel
theorem dX8_add_34 : decode cX8_add 34 = .ok (.ifCond .eq 11, 3) := by decide +kernel
theorem dX8_add_37 : decode cX8_add 37 = .ok (.iload_n 1, 1) := by decide +kernel
theorem dX8_add_38 : decode cX8_add 38 = .ok (.aload_n 0, 1) := by decide +kernel
theorem dX8_add_39 : decode cX8_add 39 = .ok (.getfield 41, 3) := by decide +kernel
theorem dX8_add_42 : decode cX8_add 42 = .ok (.if_icmp .ge 22, 3) := by decide +kernel
theorem dX8_add_45 : decode cX8_add 45 = .ok (.aload_n 0, 1) := by decide +kernel
theorem dX8_add_46 : decode cX8_add 46 = .ok (.iload_n 1, 1) := by decide +kernel
theorem dX8_add_47 : decode cX8_add 47 = .ok (.putfield 41, 3) := by decide +kernel
theorem dX8_add_50 : decode cX8_add 50 = .ok (.aload_n 0, 1) := by decide +kernel
theorem dX8_add_51 : decode cX8_add 51 = .ok (.getfield 15, 3) := by decide +kernel
theorem dX8_add_54 : decode cX8_add 54 = .ok (.iconst 0, 1) := by decide +kernel
theorem dX8_add_55 : decode cX8_add 55 = .ok (.aload_n 0, 1) := by decide +kernel
theorem dX8_add_56 : decode cX8_add 56 = .ok (.getfield 11, 3) := by decide +kernel
theorem dX8_add_59 : decode cX8_add 59 = .ok (.iconst 0, 1) := by decide +kernel
theorem dX8_add_60 : decode cX8_add 60 = .ok (.iload_n 1, 1) := by decide +kernel
theorem dX8_add_61 : decode cX8_add 61 = .ok (.invokestatic 73, 3) := by decide +kernel
theorem dX8_add_64 : decode cX8_add 64 = .ok (.return_, 1) := by decide +kernel
theorem dX9_init_0 : decode cX9_init 0 = .ok (.aload_n 0, 1) := by decide +kernel
theorem dX9_init_1 : decode cX9_init 1 = .ok (.invokespecial 3, 3) := by decide +kernel
theorem dX9_init_4 : decode cX9_init 4 = .ok (.aload_n 0, 1) := by decide +kernel
theorem dX9_init_5 : decode cX9_init 5 = .ok (.iconst 5, 1) := by decide +kernel
theorem dX9_init_6 : decode cX9_init 6 = .ok (.newarray .int, 2) := by decide +kernel
theorem dX9_init_8 : decode cX9_init 8 = .ok (.putfield 9, 3) := by decide +kernel
theorem dX9_init_11 : decode cX9_init 11 = .ok (.aload_n 0, 1) := by decide +kernel
theorem dX9_init_12 : decode cX9_init 12 = .ok (.aload_n 1, 1) := by decide +kernel
theorem dX9_init_13 : decode cX9_init 13 = .ok (.putfield 15, 3) := by decide +kernel
theorem dX9_init_16 : decode cX9_init 16 = .ok (.aload_n 0, 1) := by decide +kernel
theorem dX9_init_17 : decode cX9_init 17 = .ok (.aload_n 2, 1) := by decide +kernel
theorem dX9_init_18 : decode cX9_init 18 = .ok (.putfield 19, 3) := by decide +kernel
theorem dX9_init_21 : decode cX9_init 21 = .ok (.aload_n 0, 1) := by decide +kernel
theorem dX9_init_22 : decode cX9_init 22 = .ok (.aload_n 3, 1) := by decide +kernel
theorem dX9_init_23 : decode cX9_init 23 = .ok (.putfield 23, 3) := by decide +kernel
theorem dX9_init_26 : decode cX9_init 26 = .ok (.return_, 1) := by decide +kernel
theorem dX9_follow_0 : decode cX9_follow 0 = .ok (.aload_n 0, 1) := by decide +kernel
theorem dX9_follow_1 : decode cX9_follow 1 = .ok (.getfield 23, 3) := by decide +kernel
theorem dX9_follow_4 : decode cX9_follow 4 = .ok (.getfield 27, 3) := by decide +kernel
theorem dX9_follow_7 : decode cX9_follow 7 = .ok (.iload_n 1, 1) := by decide +kernel
theorem dX9_follow_8 : decode cX9_follow 8 = .ok (.aaload, 1) := by decide +kernel
theorem dX9_follow_9 : decode cX9_follow 9 = .ok (.astore_n 3, 1) := by decide +kernel
theorem dX9_follow_10 : decode cX9_follow 10 = .ok (.aload_n 3, 1) := by decide +kernel
theorem dX9_follow_11 : decode cX9_follow 11 = .ok (.getfield 33, 3) := by decide +kernel
theorem dX9_follow_14 : decode cX9_follow 14 = .ok (.istore 4, 2) := by decide +kernel
theorem dX9_follow_16 : decode cX9_follow 16 = .ok (.iconst 0, 1) := by decide +kernel
theorem dX9_follow_17 : decode cX9_follow 17 = .ok (.istore 5, 2) := by decide +kernel
theorem dX9_follow_19 : decode cX9_follow 19 = .ok (.aload_n 0, 1) := by decide +kernel
theorem dX9_follow_20 : decode cX9_follow 20 = .ok (.iconst 0, 1) := by decide +kernel
theorem dX9_follow_21 : decode cX9_follow 21 = .ok (.putfield 39, 3) := by decide +kernel
theorem dX9_follow_24 : decode cX9_follow 24 = .ok (.iconst 0, 1) := by decide +kernel
theorem dX9_follow_25 : decode cX9_follow 25 = .ok (.istore 6, 2) := by decide +kernel
theorem dX9_follow_27 : decode cX9_follow 27 = .ok (.iload 6, 2) := by decide +kernel
theorem dX9_follow_29 : decode cX9_follow 29 = .ok (.aload_n 0, 1) := by decide +kernel
theorem dX9_follow_30 : decode cX9_follow 30 = .ok (.getfield 15, 3) := by decide +kernel
theorem dX9_follow_33 : decode cX9_follow 33 = .ok (.getfield 42, 3) := by decide +kernel
theorem dX9_follow_36 : decode cX9_follow 36 = .ok (.iload_n 1, 1) := by decide +kernel
theorem dX9_follow_37 : decode cX9_follow 37 = .ok (.iaload, 1) := by decide +kernel
theorem dX9_follow_38 : decode cX9_follow 38 = .ok (.if_icmp .ge 121, 3) := by decide +kernel
theorem dX9_follow_41 : decode cX9_follow 41 = .ok (.aload_n 0, 1) := by decide +kernel
theorem dX9_follow_42 : decode cX9_follow 42 = .ok (.getfield 15, 3) := by decide +kernel
theorem dX9_follow_45 : decode cX9_follow 45 = .ok (.getfield 47, 3) := by decide +kernel
theorem dX9_follow_48 : decode cX9_follow 48 = .ok (.iload_n 1, 1) := by decide +kernel
theorem dX9_follow_49 : decode cX9_follow 49 = .ok (.aaload, 1) := by decide +kernel
theorem dX9_follow_50 : decode cX9_follow 50 = .ok (.iload 6, 2) := by decide +kernel
theorem dX9_follow_52 : decode cX9_follow 52 = .ok (.iaload, 1) := by decide +kernel
theorem dX9_follow_53 : decode cX9_follow 53 = .ok (.istore 7, 2) := by decide +kernel
theorem dX9_follow_55 : decode cX9_follow 55 = .ok (.aload_n 0, 1) := by decide +kernel
theorem dX9_follow_56 : decode cX9_follow 56 = .ok (.getfield 15, 3) := by decide +kernel
theorem dX9_follow_59 : decode cX9_follow 59 = .ok (.getfield 51, 3) := by decide +kernel
theorem dX9_follow_62 : decode cX9_follow 62 = .ok (.iload 4, 2) := by decide +kernel
theorem dX9_follow_64 : decode cX9_follow 64 = .ok (.aaload, 1) := by decide +kernel
theorem dX9_follow_65 : decode cX9_follow 65 = .ok (.iload 7, 2) := by decide +kernel
theorem dX9_follow_67 : decode cX9_follow 67 = .ok (.iaload, 1) := by decide +kernel
theorem dX9_follow_68 : decode cX9_follow 68 = .ok (.istore 8, 2) := by decide +kernel
theorem dX9_follow_70 : decode cX9_follow 70 = .ok (.iload 8, 2) := by decide +kernel
theorem dX9_follow_72 : decode cX9_follow 72 = .ok (.ifCond .ne 5, 3) := by decide +kernel
theorem dX9_follow_75 : decode cX9_follow 75 = .ok (.iconst 0, 1) := by decide +kernel
theorem dX9_follow_76 : decode cX9_follow 76 = .ok (.ireturn, 1) := by decide +kernel
theorem dX9_follow_77 : decode cX9_follow 77 = .ok (.iload 7, 2) := by decide +kernel
theorem dX9_follow_79 : decode cX9_follow 79 = .ok (.istore 4, 2) := by decide +kernel
theorem dX9_follow_81 : decode cX9_follow 81 = .ok (.iload 5, 2) := by decide +kernel
theorem dX9_follow_83 : decode cX9_follow 83 = .ok (.iload 8, 2) := by decide +kernel
theorem dX9_follow_85 : decode cX9_follow 85 = .ok (.iadd, 1) := by decide +kernel
theorem dX9_follow_86 : decode cX9_follow 86 = .ok (.istore 5, 2) := by decide +kernel
theorem dX9_follow_88 : decode cX9_follow 88 = .ok (.aload_n 0, 1) := by decide +kernel
theorem dX9_follow_89 : decode cX9_follow 89 = .ok (.getfield 19, 3) := by decide +kernel
theorem dX9_follow_92 : decode cX9_follow 92 = .ok (.aload_n 3, 1) := by decide +kernel
theorem dX9_follow_93 : decode cX9_follow 93 = .ok (.getfield 54, 3) := by decide +kernel
theorem dX9_follow_96 : decode cX9_follow 96 = .ok (.iload 5, 2) := by decide +kernel
theorem dX9_follow_98 : decode cX9_follow 98 = .ok (.iconst 0, 1) := by decide +kernel
theorem dX9_follow_99 : decode cX9_follow 99 = .ok (.invokevirtual 57, 3) := by decide +kernel
theorem dX9_follow_102 : decode cX9_follow 102 = .ok (.aload_n 0, 1) := by decide +kernel
theorem dX9_follow_103 : decode cX9_follow 103 = .ok (.getfield 9, 3) := by decide +kernel
theorem dX9_follow_106 : decode cX9_follow 106 = .ok (.iload 6, 2) := by decide +kernel
theorem dX9_follow_108 : decode cX9_follow 108 = .ok (.aload_n 0, 1) := by decide +kernel
theorem dX9_follow_109 : decode cX9_follow 109 = .ok (.getfield 19, 3) := by decide +kernel
theorem dX9_follow_112 : decode cX9_follow 112 = .ok (.aload_n 0, 1) := by decide +kernel
theorem dX9_follow_113 : decode cX9_follow 113 = .ok (.getfield 15, 3) := by decide +kernel
theorem dX9_follow_116 : decode cX9_follow 116 = .ok (.getfield 63, 3) := by decide +kernel
theorem dX9_follow_119 : decode cX9_follow 119 = .ok (.iload_n 1, 1) := by decide +kernel
theorem dX9_follow_120 : decode cX9_follow 120 = .ok (.iaload, 1) := by decide +kernel
theorem dX9_follow_121 : decode cX9_follow 121 = .ok (.iload 7, 2) := by decide +kernel
theorem dX9_follow_123 : decode cX9_follow 123 = .ok (.aload_n 0, 1) := by decide +kernel
theorem dX9_follow_124 : decode cX9_follow 124 = .ok (.getfield 15, 3) := by decide +kernel
theorem dX9_follow_127 : decode cX9_follow 127 = .ok (.iload 7, 2) := by decide +kernel
theorem dX9_follow_129 : decode cX9_follow 129 = .ok (.aload_n 2, 1) := by decide +kernel
theorem dX9_follow_130 : decode cX9_follow 130 = .ok (.invokevirtual 66, 3) := by decide +kernel
theorem dX9_follow_133 : decode cX9_follow 133 = .ok (.invokevirtual 70, 3) := by decide +kernel
theorem dX9_follow_136 : decode cX9_follow 136 = .ok (.iastore, 1) := by decide +kernel
theorem dX9_follow_137 : decode cX9_follow 137 = .ok (.aload_n 0, 1) := by decide +kernel
theorem dX9_follow_138 : decode cX9_follow 138 = .ok (.dup, 1) := by decide +kernel
theorem dX9_follow_139 : decode cX9_follow 139 = .ok (.getfield 39, 3) := by decide +kernel
theorem dX9_follow_142 : decode cX9_follow 142 = .ok (.aload_n 0, 1) := by decide +kernel
theorem dX9_follow_143 : decode cX9_follow 143 = .ok (.getfield 9, 3) := by decide +kernel
theorem dX9_follow_146 : decode cX9_follow 146 = .ok (.iload 6, 2) := by decide +kernel
theorem dX9_follow_148 : decode cX9_follow 148 = .ok (.iaload, 1) := by decide +kernel
theorem dX9_follow_149 : decode cX9_follow 149 = .ok (.iadd, 1) := by decide +kernel
theorem dX9_follow_150 : decode cX9_follow 150 = .ok (.putfield 39, 3) := by decide +kernel
theorem dX9_follow_153 : decode cX9_follow 153 = .ok (.iinc 6 1, 3) := by decide +kernel
theorem dX9_follow_156 : decode cX9_follow 156 = .ok (.goto (-129), 3) := by decide +kernel
theorem dX9_follow_159 : decode cX9_follow 159 = .ok (.iconst 1, 1) := by decide +kernel
theorem dX9_follow_160 : decode cX9_follow 160 = .ok (.ireturn, 1) := by decide +kernel
theorem dX10_init_0 : decode cX10_init 0 = .ok (.aload_n 0, 1) := by decide +kernel
theorem dX10_init_1 : decode cX10_init 1 = .ok (.invokespecial 3, 3) := by decide +kernel
theorem dX10_init_4 : decode cX10_init 4 = .ok (.aload_n 0, 1) := by decide +kernel
theorem dX10_init_5 : decode cX10_init 5 = .ok (.bipush 65, 2) := by decide +kernel
theorem dX10_init_7 : decode cX10_init 7 = .ok (.newarray .int, 2) := by decide +kernel
theorem dX10_init_9 : decode cX10_init 9 = .ok (.putfield 11, 3) := by decide +kernel
theorem dX10_init_12 : decode cX10_init 12 = .ok (.aload_n 0, 1) := by decide +kernel
theorem dX10_init_13 : decode cX10_init 13 = .ok (.bipush 65, 2) := by decide +kernel
theorem dX10_init_15 : decode cX10_init 15 = .ok (.bipush 6, 2) := by decide +kernel
theorem dX10_init_17 : decode cX10_init 17 = .ok (.multianewarray 15 2, 4) := by decide +kernel
theorem dX10_init_21 : decode cX10_init 21 = .ok (.putfield 17, 3) := by decide +kernel
theorem dX10_init_24 : decode cX10_init 24 = .ok (.aload_n 0, 1) := by decide +kernel
theorem dX10_init_25 : decode cX10_init 25 = .ok (.bipush 65, 2) := by decide +kernel
theorem dX10_init_27 : decode cX10_init 27 = .ok (.bipush 6, 2) := by decide +kernel
theorem dX10_init_29 : decode cX10_init 29 = .ok (.multianewarray 15 2, 4) := by decide +kernel
theorem dX10_init_33 : decode cX10_init 33 = .ok (.putfield 20, 3) := by decide +kernel
theorem dX10_init_36 : decode cX10_init 36 = .ok (.aload_n 0, 1) := by decide +kernel
theorem dX10_init_37 : decode cX10_init 37 = .ok (.bipush 65, 2) := by decide +kernel
theorem dX10_init_39 : decode cX10_init 39 = .ok (.newarray .int, 2) := by decide +kernel
theorem dX10_init_41 : decode cX10_init 41 = .ok (.putfield 23, 3) := by decide +kernel
theorem dX10_init_44 : decode cX10_init 44 = .ok (.aload_n 0, 1) := by decide +kernel
theorem dX10_init_45 : decode cX10_init 45 = .ok (.bipush 6, 2) := by decide +kernel
theorem dX10_init_47 : decode cX10_init 47 = .ok (.newarray .int, 2) := by decide +kernel
theorem dX10_init_49 : decode cX10_init 49 = .ok (.putfield 26, 3) := by decide +kernel
theorem dX10_init_52 : decode cX10_init 52 = .ok (.aload_n 0, 1) := by decide +kernel
theorem dX10_init_53 : decode cX10_init 53 = .ok (.bipush 6, 2) := by decide +kernel
theorem dX10_init_55 : decode cX10_init 55 = .ok (.newarray .int, 2) := by decide +kernel
theorem dX10_init_57 : decode cX10_init 57 = .ok (.putfield 29, 3) := by decide +kernel
theorem dX10_init_60 : decode cX10_init 60 = .ok (.aload_n 0, 1) := by decide +kernel
theorem dX10_init_61 : decode cX10_init 61 = .ok (.aload_n 1, 1) := by decide +kernel
theorem dX10_init_62 : decode cX10_init 62 = .ok (.putfield 32, 3) := by decide +kernel
theorem dX10_init_65 : decode cX10_init 65 = .ok (.aload_n 0, 1) := by decide +kernel
theorem dX10_init_66 : decode cX10_init 66 = .ok (.aload_n 2, 1) := by decide +kernel
theorem dX10_init_67 : decode cX10_init 67 = .ok (.putfield 36, 3) := by decide +kernel
theorem dX10_init_70 : decode cX10_init 70 = .ok (.return_, 1) := by decide +kernel
theorem dX10_list_0 : decode cX10_list 0 = .ok (.aload_n 0, 1) := by decide +kernel
theorem dX10_list_1 : decode cX10_list 1 = .ok (.iconst 0, 1) := by decide +kernel
theorem dX10_list_2 : decode cX10_list 2 = .ok (.putfield 40, 3) := by decide +kernel
theorem dX10_list_5 : decode cX10_list 5 = .ok (.aload_n 0, 1) := by decide +kernel
theorem dX10_list_6 : decode cX10_list 6 = .ok (.iconst 0, 1) := by decide +kernel
theorem dX10_list_7 : decode cX10_list 7 = .ok (.aload_n 1, 1) := by decide +kernel
theorem dX10_list_8 : decode cX10_list 8 = .ok (.getfield 44, 3) := by decide +kernel
theorem dX10_list_11 : decode cX10_list 11 = .ok (.iconst 0, 1) := by decide +kernel
theorem dX10_list_12 : decode cX10_list 12 = .ok (.iload_n 3, 1) := by decide +kernel
theorem dX10_list_13 : decode cX10_list 13 = .ok (.iconst 1, 1) := by decide +kernel
theorem dX10_list_14 : decode cX10_list 14 = .ok (.aload_n 1, 1) := by decide +kernel
theorem dX10_list_15 : decode cX10_list 15 = .ok (.getfield 44, 3) := by decide +kernel
theorem dX10_list_18 : decode cX10_list 18 = .ok (.ishl, 1) := by decide +kernel
theorem dX10_list_19 : decode cX10_list 19 = .ok (.invokevirtual 49, 3) := by decide +kernel
theorem dX10_list_22 : decode cX10_list 22 = .ok (.iconst 0, 1) := by decide +kernel
theorem dX10_list_23 : decode cX10_list 23 = .ok (.istore 4, 2) := by decide +kernel
theorem dX10_list_25 : decode cX10_list 25 = .ok (.iload 4, 2) := by decide +kernel
theorem dX10_list_27 : decode cX10_list 27 = .ok (.aload_n 0, 1) := by decide +kernel
theorem dX10_list_28 : decode cX10_list 28 = .ok (.getfield 40, 3) := by decide +kernel
theorem dX10_list_31 : decode cX10_list 31 = .ok (.if_icmp .ge 27, 3) := by decide +kernel
theorem dX10_list_34 : decode cX10_list 34 = .ok (.aload_n 0, 1) := by decide +kernel
theorem dX10_list_35 : decode cX10_list 35 = .ok (.getfield 23, 3) := by decide +kernel
theorem dX10_list_38 : decode cX10_list 38 = .ok (.iload 4, 2) := by decide +kernel
theorem dX10_list_40 : decode cX10_list 40 = .ok (.aload_n 0, 1) := by decide +kernel
theorem dX10_list_41 : decode cX10_list 41 = .ok (.iload 4, 2) := by decide +kernel
theorem dX10_list_43 : decode cX10_list 43 = .ok (.aload_n 1, 1) := by decide +kernel
theorem dX10_list_44 : decode cX10_list 44 = .ok (.getfield 53, 3) := by decide +kernel
theorem dX10_list_47 : decode cX10_list 47 = .ok (.iload_n 2, 1) := by decide +kernel
theorem dX10_list_48 : decode cX10_list 48 = .ok (.invokevirtual 56, 3) := by decide +kernel
theorem dX10_list_51 : decode cX10_list 51 = .ok (.iastore, 1) := by decide +kernel
theorem dX10_list_52 : decode cX10_list 52 = .ok (.iinc 4 1, 3) := by decide +kernel
theorem dX10_list_55 : decode cX10_list 55 = .ok (.goto (-30), 3) := by decide +kernel
theorem dX10_list_58 : decode cX10_list 58 = .ok (.return_, 1) := by decide +kernel
theorem dX10_explore_0 : decode cX10_explore 0 = .ok (.iload_n 1, 1) := by decide +kernel
theorem dX10_explore_1 : decode cX10_explore 1 = .ok (.bipush 6, 2) := by decide +kernel
theorem dX10_explore_3 : decode cX10_explore 3 = .ok (.if_icmp .lt 4, 3) := by decide +kernel
theorem dX10_explore_6 : decode cX10_explore 6 = .ok (.return_, 1) := by decide +kernel
theorem dX10_explore_7 : decode cX10_explore 7 = .ok (.aload_n 0, 1) := by decide +kernel
theorem dX10_explore_8 : decode cX10_explore 8 = .ok (.getfield 26, 3) := by decide +kernel
theorem dX10_explore_11 : decode cX10_explore 11 = .ok (.iload_n 1, 1) := by decide +kernel
theorem dX10_explore_12 : decode cX10_explore 12 = .ok (.iload_n 2, 1) := by decide +kernel
theorem dX10_explore_13 : decode cX10_explore 13 = .ok (.iastore, 1) := by decide +kernel
theorem dX10_explore_14 : decode cX10_explore 14 = .ok (.aload_n 0, 1) := by decide +kernel
theorem dX10_explore_15 : decode cX10_explore 15 = .ok (.getfield 29, 3) := by decide +kernel
theorem dX10_explore_18 : decode cX10_explore 18 = .ok (.iload_n 1, 1) := by decide +kernel
theorem dX10_explore_19 : decode cX10_explore 19 = .ok (.iload_n 3, 1) := by decide +kernel
theorem dX10_explore_20 : decode cX10_explore 20 = .ok (.iastore, 1) := by decide +kernel
theorem dX10_explore_21 : decode cX10_explore 21 = .ok (.iload_n 2, 1) := by decide +kernel
theorem dX10_explore_22 : decode cX10_explore 22 = .ok (.iload 4, 2) := by decide +kernel
theorem dX10_explore_24 : decode cX10_explore 24 = .ok (.if_icmp .ne 11, 3) := by decide +kernel
theorem dX10_explore_27 : decode cX10_explore 27 = .ok (.aload_n 0, 1) := by decide +kernel
theorem dX10_explore_28 : decode cX10_explore 28 = .ok (.iload_n 1, 1) := by decide +kernel
theorem dX10_explore_29 : decode cX10_explore 29 = .ok (.iconst 1, 1) := by decide +kernel
theorem dX10_explore_30 : decode cX10_explore 30 = .ok (.iadd, 1) := by decide +kernel
theorem dX10_explore_31 : decode cX10_explore 31 = .ok (.invokevirtual 60, 3) := by decide +kernel
theorem dX10_explore_34 : decode cX10_explore 34 = .ok (.return_, 1) := by decide +kernel
theorem dX10_explore_35 : decode cX10_explore 35 = .ok (.iconst 0, 1) := by decide +kernel
theorem dX10_explore_36 : decode cX10_explore 36 = .ok (.istore 6, 2) := by decide +kernel
theorem dX10_explore_38 : decode cX10_explore 38 = .ok (.iload 6, 2) := by decide +kernel
theorem dX10_explore_40 : decode cX10_explore 40 = .ok (.aload_n 0, 1) := by decide +kernel
