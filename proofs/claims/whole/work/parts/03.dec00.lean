theorem dX0_init_0 : decode cX0_init 0 = .ok (.aload_n 0, 1) := by decide +kernel
theorem dX0_init_1 : decode cX0_init 1 = .ok (.invokespecial 3, 3) := by decide +kernel
theorem dX0_init_4 : decode cX0_init 4 = .ok (.aload_n 0, 1) := by decide +kernel
theorem dX0_init_5 : decode cX0_init 5 = .ok (.iconst 4, 1) := by decide +kernel
theorem dX0_init_6 : decode cX0_init 6 = .ok (.invokestatic 9, 3) := by decide +kernel
theorem dX0_init_9 : decode cX0_init 9 = .ok (.putfield 15, 3) := by decide +kernel
theorem dX0_init_12 : decode cX0_init 12 = .ok (.aload_n 0, 1) := by decide +kernel
theorem dX0_init_13 : decode cX0_init 13 = .ok (.bipush 16, 2) := by decide +kernel
theorem dX0_init_15 : decode cX0_init 15 = .ok (.invokestatic 9, 3) := by decide +kernel
theorem dX0_init_18 : decode cX0_init 18 = .ok (.putfield 19, 3) := by decide +kernel
theorem dX0_init_21 : decode cX0_init 21 = .ok (.aload_n 0, 1) := by decide +kernel
theorem dX0_init_22 : decode cX0_init 22 = .ok (.bipush 16, 2) := by decide +kernel
theorem dX0_init_24 : decode cX0_init 24 = .ok (.newarray .int, 2) := by decide +kernel
theorem dX0_init_26 : decode cX0_init 26 = .ok (.putfield 22, 3) := by decide +kernel
theorem dX0_init_29 : decode cX0_init 29 = .ok (.aload_n 0, 1) := by decide +kernel
theorem dX0_init_30 : decode cX0_init 30 = .ok (.bipush 12, 2) := by decide +kernel
theorem dX0_init_32 : decode cX0_init 32 = .ok (.invokestatic 9, 3) := by decide +kernel
theorem dX0_init_35 : decode cX0_init 35 = .ok (.putfield 26, 3) := by decide +kernel
theorem dX0_init_38 : decode cX0_init 38 = .ok (.aload_n 0, 1) := by decide +kernel
theorem dX0_init_39 : decode cX0_init 39 = .ok (.aload_n 1, 1) := by decide +kernel
theorem dX0_init_40 : decode cX0_init 40 = .ok (.putfield 29, 3) := by decide +kernel
theorem dX0_init_43 : decode cX0_init 43 = .ok (.return_, 1) := by decide +kernel
theorem dX0_people_0 : decode cX0_people 0 = .ok (.iload_n 0, 1) := by decide +kernel
theorem dX0_people_1 : decode cX0_people 1 = .ok (.anewarray 33, 3) := by decide +kernel
theorem dX0_people_4 : decode cX0_people 4 = .ok (.astore_n 1, 1) := by decide +kernel
theorem dX0_people_5 : decode cX0_people 5 = .ok (.iconst 0, 1) := by decide +kernel
theorem dX0_people_6 : decode cX0_people 6 = .ok (.istore_n 2, 1) := by decide +kernel
theorem dX0_people_7 : decode cX0_people 7 = .ok (.iload_n 2, 1) := by decide +kernel
theorem dX0_people_8 : decode cX0_people 8 = .ok (.iload_n 0, 1) := by decide +kernel
theorem dX0_people_9 : decode cX0_people 9 = .ok (.if_icmp .ge 19, 3) := by decide +kernel
theorem dX0_people_12 : decode cX0_people 12 = .ok (.aload_n 1, 1) := by decide +kernel
theorem dX0_people_13 : decode cX0_people 13 = .ok (.iload_n 2, 1) := by decide +kernel
theorem dX0_people_14 : decode cX0_people 14 = .ok (.new 33, 3) := by decide +kernel
theorem dX0_people_17 : decode cX0_people 17 = .ok (.dup, 1) := by decide +kernel
theorem dX0_people_18 : decode cX0_people 18 = .ok (.invokespecial 35, 3) := by decide +kernel
theorem dX0_people_21 : decode cX0_people 21 = .ok (.aastore, 1) := by decide +kernel
theorem dX0_people_22 : decode cX0_people 22 = .ok (.iinc 2 1, 3) := by decide +kernel
theorem dX0_people_25 : decode cX0_people 25 = .ok (.goto (-18), 3) := by decide +kernel
theorem dX0_people_28 : decode cX0_people 28 = .ok (.aload_n 1, 1) := by decide +kernel
theorem dX0_people_29 : decode cX0_people 29 = .ok (.areturn, 1) := by decide +kernel
theorem dX0_begin_0 : decode cX0_begin 0 = .ok (.aload_n 0, 1) := by decide +kernel
theorem dX0_begin_1 : decode cX0_begin 1 = .ok (.iconst 0, 1) := by decide +kernel
theorem dX0_begin_2 : decode cX0_begin 2 = .ok (.putfield 36, 3) := by decide +kernel
theorem dX0_begin_5 : decode cX0_begin 5 = .ok (.aload_n 0, 1) := by decide +kernel
theorem dX0_begin_6 : decode cX0_begin 6 = .ok (.iconst 0, 1) := by decide +kernel
theorem dX0_begin_7 : decode cX0_begin 7 = .ok (.putfield 40, 3) := by decide +kernel
theorem dX0_begin_10 : decode cX0_begin 10 = .ok (.iconst 0, 1) := by decide +kernel
theorem dX0_begin_11 : decode cX0_begin 11 = .ok (.istore_n 1, 1) := by decide +kernel
theorem dX0_begin_12 : decode cX0_begin 12 = .ok (.iload_n 1, 1) := by decide +kernel
theorem dX0_begin_13 : decode cX0_begin 13 = .ok (.iconst 4, 1) := by decide +kernel
theorem dX0_begin_14 : decode cX0_begin 14 = .ok (.if_icmp .ge 72, 3) := by decide +kernel
theorem dX0_begin_17 : decode cX0_begin 17 = .ok (.aload_n 0, 1) := by decide +kernel
theorem dX0_begin_18 : decode cX0_begin 18 = .ok (.getfield 15, 3) := by decide +kernel
theorem dX0_begin_21 : decode cX0_begin 21 = .ok (.iload_n 1, 1) := by decide +kernel
theorem dX0_begin_22 : decode cX0_begin 22 = .ok (.aaload, 1) := by decide +kernel
theorem dX0_begin_23 : decode cX0_begin 23 = .ok (.aload_n 0, 1) := by decide +kernel
theorem dX0_begin_24 : decode cX0_begin 24 = .ok (.getfield 29, 3) := by decide +kernel
theorem dX0_begin_27 : decode cX0_begin 27 = .ok (.getfield 43, 3) := by decide +kernel
theorem dX0_begin_30 : decode cX0_begin 30 = .ok (.iload_n 1, 1) := by decide +kernel
theorem dX0_begin_31 : decode cX0_begin 31 = .ok (.iaload, 1) := by decide +kernel
theorem dX0_begin_32 : decode cX0_begin 32 = .ok (.putfield 48, 3) := by decide +kernel
theorem dX0_begin_35 : decode cX0_begin 35 = .ok (.aload_n 0, 1) := by decide +kernel
theorem dX0_begin_36 : decode cX0_begin 36 = .ok (.getfield 15, 3) := by decide +kernel
theorem dX0_begin_39 : decode cX0_begin 39 = .ok (.iload_n 1, 1) := by decide +kernel
theorem dX0_begin_40 : decode cX0_begin 40 = .ok (.aaload, 1) := by decide +kernel
theorem dX0_begin_41 : decode cX0_begin 41 = .ok (.iconst 0, 1) := by decide +kernel
theorem dX0_begin_42 : decode cX0_begin 42 = .ok (.putfield 51, 3) := by decide +kernel
theorem dX0_begin_45 : decode cX0_begin 45 = .ok (.aload_n 0, 1) := by decide +kernel
theorem dX0_begin_46 : decode cX0_begin 46 = .ok (.getfield 15, 3) := by decide +kernel
theorem dX0_begin_49 : decode cX0_begin 49 = .ok (.iload_n 1, 1) := by decide +kernel
theorem dX0_begin_50 : decode cX0_begin 50 = .ok (.aaload, 1) := by decide +kernel
theorem dX0_begin_51 : decode cX0_begin 51 = .ok (.iconst 0, 1) := by decide +kernel
theorem dX0_begin_52 : decode cX0_begin 52 = .ok (.putfield 54, 3) := by decide +kernel
theorem dX0_begin_55 : decode cX0_begin 55 = .ok (.aload_n 0, 1) := by decide +kernel
theorem dX0_begin_56 : decode cX0_begin 56 = .ok (.getfield 29, 3) := by decide +kernel
theorem dX0_begin_59 : decode cX0_begin 59 = .ok (.getfield 57, 3) := by decide +kernel
theorem dX0_begin_62 : decode cX0_begin 62 = .ok (.iload_n 1, 1) := by decide +kernel
theorem dX0_begin_63 : decode cX0_begin 63 = .ok (.aaload, 1) := by decide +kernel
theorem dX0_begin_64 : decode cX0_begin 64 = .ok (.iconst 0, 1) := by decide +kernel
theorem dX0_begin_65 : decode cX0_begin 65 = .ok (.aload_n 0, 1) := by decide +kernel
theorem dX0_begin_66 : decode cX0_begin 66 = .ok (.getfield 15, 3) := by decide +kernel
theorem dX0_begin_69 : decode cX0_begin 69 = .ok (.iload_n 1, 1) := by decide +kernel
theorem dX0_begin_70 : decode cX0_begin 70 = .ok (.aaload, 1) := by decide +kernel
theorem dX0_begin_71 : decode cX0_begin 71 = .ok (.getfield 61, 3) := by decide +kernel
theorem dX0_begin_74 : decode cX0_begin 74 = .ok (.iconst 0, 1) := by decide +kernel
theorem dX0_begin_75 : decode cX0_begin 75 = .ok (.bipush 6, 2) := by decide +kernel
theorem dX0_begin_77 : decode cX0_begin 77 = .ok (.invokestatic 64, 3) := by decide +kernel
theorem dX0_begin_80 : decode cX0_begin 80 = .ok (.iinc 1 1, 3) := by decide +kernel
theorem dX0_begin_83 : decode cX0_begin 83 = .ok (.goto (-71), 3) := by decide +kernel
theorem dX0_begin_86 : decode cX0_begin 86 = .ok (.return_, 1) := by decide +kernel
theorem dX0_keep_0 : decode cX0_keep 0 = .ok (.aload_n 0, 1) := by decide +kernel
theorem dX0_keep_1 : decode cX0_keep 1 = .ok (.getfield 19, 3) := by decide +kernel
theorem dX0_keep_4 : decode cX0_keep 4 = .ok (.aload_n 0, 1) := by decide +kernel
theorem dX0_keep_5 : decode cX0_keep 5 = .ok (.getfield 70, 3) := by decide +kernel
theorem dX0_keep_8 : decode cX0_keep 8 = .ok (.aaload, 1) := by decide +kernel
theorem dX0_keep_9 : decode cX0_keep 9 = .ok (.aload_n 0, 1) := by decide +kernel
theorem dX0_keep_10 : decode cX0_keep 10 = .ok (.getfield 15, 3) := by decide +kernel
theorem dX0_keep_13 : decode cX0_keep 13 = .ok (.iload_n 1, 1) := by decide +kernel
theorem dX0_keep_14 : decode cX0_keep 14 = .ok (.aaload, 1) := by decide +kernel
theorem dX0_keep_15 : decode cX0_keep 15 = .ok (.invokevirtual 73, 3) := by decide +kernel
theorem dX0_keep_18 : decode cX0_keep 18 = .ok (.aload_n 0, 1) := by decide +kernel
theorem dX0_keep_19 : decode cX0_keep 19 = .ok (.getfield 22, 3) := by decide +kernel
theorem dX0_keep_22 : decode cX0_keep 22 = .ok (.aload_n 0, 1) := by decide +kernel
theorem dX0_keep_23 : decode cX0_keep 23 = .ok (.getfield 70, 3) := by decide +kernel
theorem dX0_keep_26 : decode cX0_keep 26 = .ok (.iload_n 1, 1) := by decide +kernel
theorem dX0_keep_27 : decode cX0_keep 27 = .ok (.iastore, 1) := by decide +kernel
theorem dX0_keep_28 : decode cX0_keep 28 = .ok (.aload_n 0, 1) := by decide +kernel
theorem dX0_keep_29 : decode cX0_keep 29 = .ok (.aload_n 0, 1) := by decide +kernel
theorem dX0_keep_30 : decode cX0_keep 30 = .ok (.getfield 70, 3) := by decide +kernel
theorem dX0_keep_33 : decode cX0_keep 33 = .ok (.iconst 1, 1) := by decide +kernel
theorem dX0_keep_34 : decode cX0_keep 34 = .ok (.iadd, 1) := by decide +kernel
theorem dX0_keep_35 : decode cX0_keep 35 = .ok (.bipush 16, 2) := by decide +kernel
theorem dX0_keep_37 : decode cX0_keep 37 = .ok (.irem, 1) := by decide +kernel
theorem dX0_keep_38 : decode cX0_keep 38 = .ok (.putfield 70, 3) := by decide +kernel
theorem dX0_keep_41 : decode cX0_keep 41 = .ok (.aload_n 0, 1) := by decide +kernel
theorem dX0_keep_42 : decode cX0_keep 42 = .ok (.aload_n 0, 1) := by decide +kernel
theorem dX0_keep_43 : decode cX0_keep 43 = .ok (.getfield 36, 3) := by decide +kernel
theorem dX0_keep_46 : decode cX0_keep 46 = .ok (.iconst 1, 1) := by decide +kernel
theorem dX0_keep_47 : decode cX0_keep 47 = .ok (.iadd, 1) := by decide +kernel
theorem dX0_keep_48 : decode cX0_keep 48 = .ok (.bipush 16, 2) := by decide +kernel
theorem dX0_keep_50 : decode cX0_keep 50 = .ok (.invokestatic 77, 3) := by decide +kernel
theorem dX0_keep_53 : decode cX0_keep 53 = .ok (.putfield 36, 3) := by decide +kernel
theorem dX0_keep_56 : decode cX0_keep 56 = .ok (.return_, 1) := by decide +kernel
theorem dX0_takeBack_0 : decode cX0_takeBack 0 = .ok (.aload_n 0, 1) := by decide +kernel
theorem dX0_takeBack_1 : decode cX0_takeBack 1 = .ok (.getfield 36, 3) := by decide +kernel
theorem dX0_takeBack_4 : decode cX0_takeBack 4 = .ok (.ifCond .ne 5, 3) := by decide +kernel
theorem dX0_takeBack_7 : decode cX0_takeBack 7 = .ok (.iconst 0, 1) := by decide +kernel
theorem dX0_takeBack_8 : decode cX0_takeBack 8 = .ok (.ireturn, 1) := by decide +kernel
theorem dX0_takeBack_9 : decode cX0_takeBack 9 = .ok (.aload_n 0, 1) := by decide +kernel
theorem dX0_takeBack_10 : decode cX0_takeBack 10 = .ok (.aload_n 0, 1) := by decide +kernel
theorem dX0_takeBack_11 : decode cX0_takeBack 11 = .ok (.getfield 70, 3) := by decide +kernel
theorem dX0_takeBack_14 : decode cX0_takeBack 14 = .ok (.bipush 16, 2) := by decide +kernel
theorem dX0_takeBack_16 : decode cX0_takeBack 16 = .ok (.iadd, 1) := by decide +kernel
theorem dX0_takeBack_17 : decode cX0_takeBack 17 = .ok (.iconst 1, 1) := by decide +kernel
theorem dX0_takeBack_18 : decode cX0_takeBack 18 = .ok (.isub, 1) := by decide +kernel
theorem dX0_takeBack_19 : decode cX0_takeBack 19 = .ok (.bipush 16, 2) := by decide +kernel
theorem dX0_takeBack_21 : decode cX0_takeBack 21 = .ok (.irem, 1) := by decide +kernel
theorem dX0_takeBack_22 : decode cX0_takeBack 22 = .ok (.putfield 70, 3) := by decide +kernel
theorem dX0_takeBack_25 : decode cX0_takeBack 25 = .ok (.aload_n 0, 1) := by decide +kernel
theorem dX0_takeBack_26 : decode cX0_takeBack 26 = .ok (.getfield 15, 3) := by decide +kernel
theorem dX0_takeBack_29 : decode cX0_takeBack 29 = .ok (.aload_n 0, 1) := by decide +kernel
theorem dX0_takeBack_30 : decode cX0_takeBack 30 = .ok (.getfield 22, 3) := by decide +kernel
theorem dX0_takeBack_33 : decode cX0_takeBack 33 = .ok (.aload_n 0, 1) := by decide +kernel
theorem dX0_takeBack_34 : decode cX0_takeBack 34 = .ok (.getfield 70, 3) := by decide +kernel
theorem dX0_takeBack_37 : decode cX0_takeBack 37 = .ok (.iaload, 1) := by decide +kernel
theorem dX0_takeBack_38 : decode cX0_takeBack 38 = .ok (.aaload, 1) := by decide +kernel
theorem dX0_takeBack_39 : decode cX0_takeBack 39 = .ok (.aload_n 0, 1) := by decide +kernel
theorem dX0_takeBack_40 : decode cX0_takeBack 40 = .ok (.getfield 19, 3) := by decide +kernel
theorem dX0_takeBack_43 : decode cX0_takeBack 43 = .ok (.aload_n 0, 1) := by decide +kernel
theorem dX0_takeBack_44 : decode cX0_takeBack 44 = .ok (.getfield 70, 3) := by decide +kernel
theorem dX0_takeBack_47 : decode cX0_takeBack 47 = .ok (.aaload, 1) := by decide +kernel
theorem dX0_takeBack_48 : decode cX0_takeBack 48 = .ok (.invokevirtual 73, 3) := by decide +kernel
theorem dX0_takeBack_51 : decode cX0_takeBack 51 = .ok (.aload_n 0, 1) := by decide +kernel
theorem dX0_takeBack_52 : decode cX0_takeBack 52 = .ok (.dup, 1) := by decide +kernel
theorem dX0_takeBack_53 : decode cX0_takeBack 53 = .ok (.getfield 36, 3) := by decide +kernel
theorem dX0_takeBack_56 : decode cX0_takeBack 56 = .ok (.iconst 1, 1) := by decide +kernel
theorem dX0_takeBack_57 : decode cX0_takeBack 57 = .ok (.isub, 1) := by decide +kernel
theorem dX0_takeBack_58 : decode cX0_takeBack 58 = .ok (.putfield 36, 3) := by decide +kernel
theorem dX0_takeBack_61 : decode cX0_takeBack 61 = .ok (.iconst 1, 1) := by decide +kernel
theorem dX0_takeBack_62 : decode cX0_takeBack 62 = .ok (.ireturn, 1) := by decide +kernel
theorem dX0_setMark_0 : decode cX0_setMark 0 = .ok (.aload_n 0, 1) := by decide +kernel
theorem dX0_setMark_1 : decode cX0_setMark 1 = .ok (.getfield 40, 3) := by decide +kernel
theorem dX0_setMark_4 : decode cX0_setMark 4 = .ok (.iconst 3, 1) := by decide +kernel
theorem dX0_setMark_5 : decode cX0_setMark 5 = .ok (.if_icmp .lt 5, 3) := by decide +kernel
theorem dX0_setMark_8 : decode cX0_setMark 8 = .ok (.iconst (-1), 1) := by decide +kernel
theorem dX0_setMark_9 : decode cX0_setMark 9 = .ok (.ireturn, 1) := by decide +kernel
theorem dX0_setMark_10 : decode cX0_setMark 10 = .ok (.iconst 0, 1) := by decide +kernel
theorem dX0_setMark_11 : decode cX0_setMark 11 = .ok (.istore_n 1, 1) := by decide +kernel
theorem dX0_setMark_12 : decode cX0_setMark 12 = .ok (.iload_n 1, 1) := by decide +kernel
theorem dX0_setMark_13 : decode cX0_setMark 13 = .ok (.iconst 4, 1) := by decide +kernel
theorem dX0_setMark_14 : decode cX0_setMark 14 = .ok (.if_icmp .ge 31, 3) := by decide +kernel
theorem dX0_setMark_17 : decode cX0_setMark 17 = .ok (.aload_n 0, 1) := by decide +kernel
theorem dX0_setMark_18 : decode cX0_setMark 18 = .ok (.getfield 26, 3) := by decide +kernel
theorem dX0_setMark_21 : decode cX0_setMark 21 = .ok (.aload_n 0, 1) := by decide +kernel
theorem dX0_setMark_22 : decode cX0_setMark 22 = .ok (.getfield 40, 3) := by decide +kernel
theorem dX0_setMark_25 : decode cX0_setMark 25 = .ok (.iconst 4, 1) := by decide +kernel
theorem dX0_setMark_26 : decode cX0_setMark 26 = .ok (.imul, 1) := by decide +kernel
theorem dX0_setMark_27 : decode cX0_setMark 27 = .ok (.iload_n 1, 1) := by decide +kernel
theorem dX0_setMark_28 : decode cX0_setMark 28 = .ok (.iadd, 1) := by decide +kernel
theorem dX0_setMark_29 : decode cX0_setMark 29 = .ok (.aaload, 1) := by decide +kernel
theorem dX0_setMark_30 : decode cX0_setMark 30 = .ok (.aload_n 0, 1) := by decide +kernel
theorem dX0_setMark_31 : decode cX0_setMark 31 = .ok (.getfield 15, 3) := by decide +kernel
theorem dX0_setMark_34 : decode cX0_setMark 34 = .ok (.iload_n 1, 1) := by decide +kernel
theorem dX0_setMark_35 : decode cX0_setMark 35 = .ok (.aaload, 1) := by decide +kernel
theorem dX0_setMark_36 : decode cX0_setMark 36 = .ok (.invokevirtual 73, 3) := by decide +kernel
theorem dX0_setMark_39 : decode cX0_setMark 39 = .ok (.iinc 1 1, 3) := by decide +kernel
theorem dX0_setMark_42 : decode cX0_setMark 42 = .ok (.goto (-30), 3) := by decide +kernel
theorem dX0_setMark_45 : decode cX0_setMark 45 = .ok (.aload_n 0, 1) := by decide +kernel
theorem dX0_setMark_46 : decode cX0_setMark 46 = .ok (.dup, 1) := by decide +kernel
theorem dX0_setMark_47 : decode cX0_setMark 47 = .ok (.getfield 40, 3) := by decide +kernel
theorem dX0_setMark_50 : decode cX0_setMark 50 = .ok (.iconst 1, 1) := by decide +kernel
theorem dX0_setMark_51 : decode cX0_setMark 51 = .ok (.iadd, 1) := by decide +kernel
theorem dX0_setMark_52 : decode cX0_setMark 52 = .ok (.putfield 40, 3) := by decide +kernel
theorem dX0_setMark_55 : decode cX0_setMark 55 = .ok (.aload_n 0, 1) := by decide +kernel
theorem dX0_setMark_56 : decode cX0_setMark 56 = .ok (.getfield 40, 3) := by decide +kernel
theorem dX0_setMark_59 : decode cX0_setMark 59 = .ok (.iconst 1, 1) := by decide +kernel
theorem dX0_setMark_60 : decode cX0_setMark 60 = .ok (.isub, 1) := by decide +kernel
theorem dX0_setMark_61 : decode cX0_setMark 61 = .ok (.ireturn, 1) := by decide +kernel
theorem dX0_returnTo_0 : decode cX0_returnTo 0 = .ok (.iload_n 1, 1) := by decide +kernel
theorem dX0_returnTo_1 : decode cX0_returnTo 1 = .ok (.ifCond .lt 11, 3) := by decide +kernel
theorem dX0_returnTo_4 : decode cX0_returnTo 4 = .ok (.iload_n 1, 1) := by decide +kernel
theorem dX0_returnTo_5 : decode cX0_returnTo 5 = .ok (.aload_n 0, 1) := by decide +kernel
theorem dX0_returnTo_6 : decode cX0_returnTo 6 = .ok (.getfield 40, 3) := by decide +kernel
theorem dX0_returnTo_9 : decode cX0_returnTo 9 = .ok (.if_icmp .lt 5, 3) := by decide +kernel
theorem dX0_returnTo_12 : decode cX0_returnTo 12 = .ok (.iconst 0, 1) := by decide +kernel
theorem dX0_returnTo_13 : decode cX0_returnTo 13 = .ok (.ireturn, 1) := by decide +kernel
theorem dX0_returnTo_14 : decode cX0_returnTo 14 = .ok (.iconst 0, 1) := by decide +kernel
theorem dX0_returnTo_15 : decode cX0_returnTo 15 = .ok (.istore_n 2, 1) := by decide +kernel
theorem dX0_returnTo_16 : decode cX0_returnTo 16 = .ok (.iload_n 2, 1) := by decide +kernel
theorem dX0_returnTo_17 : decode cX0_returnTo 17 = .ok (.iconst 4, 1) := by decide +kernel
theorem dX0_returnTo_18 : decode cX0_returnTo 18 = .ok (.if_icmp .ge 28, 3) := by decide +kernel
theorem dX0_returnTo_21 : decode cX0_returnTo 21 = .ok (.aload_n 0, 1) := by decide +kernel
theorem dX0_returnTo_22 : decode cX0_returnTo 22 = .ok (.getfield 15, 3) := by decide +kernel
theorem dX0_returnTo_25 : decode cX0_returnTo 25 = .ok (.iload_n 2, 1) := by decide +kernel
theorem dX0_returnTo_26 : decode cX0_returnTo 26 = .ok (.aaload, 1) := by decide +kernel
theorem dX0_returnTo_27 : decode cX0_returnTo 27 = .ok (.aload_n 0, 1) := by decide +kernel
theorem dX0_returnTo_28 : decode cX0_returnTo 28 = .ok (.getfield 26, 3) := by decide +kernel
theorem dX0_returnTo_31 : decode cX0_returnTo 31 = .ok (.iload_n 1, 1) := by decide +kernel
theorem dX0_returnTo_32 : decode cX0_returnTo 32 = .ok (.iconst 4, 1) := by decide +kernel
theorem dX0_returnTo_33 : decode cX0_returnTo 33 = .ok (.imul, 1) := by decide +kernel
theorem dX0_returnTo_34 : decode cX0_returnTo 34 = .ok (.iload_n 2, 1) := by decide +kernel
theorem dX0_returnTo_35 : decode cX0_returnTo 35 = .ok (.iadd, 1) := by decide +kernel
theorem dX0_returnTo_36 : decode cX0_returnTo 36 = .ok (.aaload, 1) := by decide +kernel
theorem dX0_returnTo_37 : decode cX0_returnTo 37 = .ok (.invokevirtual 73, 3) := by decide +kernel
theorem dX0_returnTo_40 : decode cX0_returnTo 40 = .ok (.iinc 2 1, 3) := by decide +kernel
theorem dX0_returnTo_43 : decode cX0_returnTo 43 = .ok (.goto (-27), 3) := by decide +kernel
theorem dX0_returnTo_46 : decode cX0_returnTo 46 = .ok (.aload_n 0, 1) := by decide +kernel
theorem dX0_returnTo_47 : decode cX0_returnTo 47 = .ok (.iconst 0, 1) := by decide +kernel
theorem dX0_returnTo_48 : decode cX0_returnTo 48 = .ok (.putfield 36, 3) := by decide +kernel
theorem dX0_returnTo_51 : decode cX0_returnTo 51 = .ok (.iconst 1, 1) := by decide +kernel
theorem dX0_returnTo_52 : decode cX0_returnTo 52 = .ok (.ireturn, 1) := by decide +kernel
theorem dX1_init_0 : decode cX1_init 0 = .ok (.aload_n 0, 1) := by decide +kernel
theorem dX1_init_1 : decode cX1_init 1 = .ok (.invokespecial 3, 3) := by decide +kernel
theorem dX1_init_4 : decode cX1_init 4 = .ok (.aload_n 0, 1) := by decide +kernel
theorem dX1_init_5 : decode cX1_init 5 = .ok (.bipush 6, 2) := by decide +kernel
theorem dX1_init_7 : decode cX1_init 7 = .ok (.newarray .int, 2) := by decide +kernel
theorem dX1_init_9 : decode cX1_init 9 = .ok (.putfield 9, 3) := by decide +kernel
theorem dX1_init_12 : decode cX1_init 12 = .ok (.aload_n 0, 1) := by decide +kernel
theorem dX1_init_13 : decode cX1_init 13 = .ok (.aload_n 1, 1) := by decide +kernel
theorem dX1_init_14 : decode cX1_init 14 = .ok (.putfield 15, 3) := by decide +kernel
theorem dX1_init_17 : decode cX1_init 17 = .ok (.return_, 1) := by decide +kernel
theorem dX1_take_0 : decode cX1_take 0 = .ok (.iconst 0, 1) := by decide +kernel
theorem dX1_take_1 : decode cX1_take 1 = .ok (.istore 4, 2) := by decide +kernel
theorem dX1_take_3 : decode cX1_take 3 = .ok (.iconst 0, 1) := by decide +kernel
theorem dX1_take_4 : decode cX1_take 4 = .ok (.istore 5, 2) := by decide +kernel
theorem dX1_take_6 : decode cX1_take 6 = .ok (.iload 5, 2) := by decide +kernel
theorem dX1_take_8 : decode cX1_take 8 = .ok (.aload_n 0, 1) := by decide +kernel
theorem dX1_take_9 : decode cX1_take 9 = .ok (.getfield 15, 3) := by decide +kernel
theorem dX1_take_12 : decode cX1_take 12 = .ok (.getfield 19, 3) := by decide +kernel
theorem dX1_take_15 : decode cX1_take 15 = .ok (.iconst 2, 1) := by decide +kernel
theorem dX1_take_16 : decode cX1_take 16 = .ok (.iaload, 1) := by decide +kernel
theorem dX1_take_17 : decode cX1_take 17 = .ok (.if_icmp .ge 69, 3) := by decide +kernel
theorem dX1_take_20 : decode cX1_take 20 = .ok (.aload_n 0, 1) := by decide +kernel
theorem dX1_take_21 : decode cX1_take 21 = .ok (.getfield 15, 3) := by decide +kernel
theorem dX1_take_24 : decode cX1_take 24 = .ok (.getfield 24, 3) := by decide +kernel
theorem dX1_take_27 : decode cX1_take 27 = .ok (.iload 5, 2) := by decide +kernel
theorem dX1_take_29 : decode cX1_take 29 = .ok (.iaload, 1) := by decide +kernel
theorem dX1_take_30 : decode cX1_take 30 = .ok (.istore 6, 2) := by decide +kernel
theorem dX1_take_32 : decode cX1_take 32 = .ok (.aload_n 0, 1) := by decide +kernel
theorem dX1_take_33 : decode cX1_take 33 = .ok (.getfield 9, 3) := by decide +kernel
theorem dX1_take_36 : decode cX1_take 36 = .ok (.iload 5, 2) := by decide +kernel
theorem dX1_take_38 : decode cX1_take 38 = .ok (.iconst 0, 1) := by decide +kernel
theorem dX1_take_39 : decode cX1_take 39 = .ok (.aload_n 1, 1) := by decide +kernel
theorem dX1_take_40 : decode cX1_take 40 = .ok (.iload 5, 2) := by decide +kernel
theorem dX1_take_42 : decode cX1_take 42 = .ok (.iaload, 1) := by decide +kernel
theorem dX1_take_43 : decode cX1_take 43 = .ok (.getstatic 27, 3) := by decide +kernel
theorem dX1_take_46 : decode cX1_take 46 = .ok (.iload 6, 2) := by decide +kernel
theorem dX1_take_48 : decode cX1_take 48 = .ok (.iaload, 1) := by decide +kernel
theorem dX1_take_49 : decode cX1_take 49 = .ok (.iload_n 2, 1) := by decide +kernel
theorem dX1_take_50 : decode cX1_take 50 = .ok (.imul, 1) := by decide +kernel
theorem dX1_take_51 : decode cX1_take 51 = .ok (.isub, 1) := by decide +kernel
theorem dX1_take_52 : decode cX1_take 52 = .ok (.iload_n 3, 1) := by decide +kernel
theorem dX1_take_53 : decode cX1_take 53 = .ok (.isub, 1) := by decide +kernel
theorem dX1_take_54 : decode cX1_take 54 = .ok (.invokestatic 30, 3) := by decide +kernel
theorem dX1_take_57 : decode cX1_take 57 = .ok (.iconst 2, 1) := by decide +kernel
theorem dX1_take_58 : decode cX1_take 58 = .ok (.idiv, 1) := by decide +kernel
theorem dX1_take_59 : decode cX1_take 59 = .ok (.iastore, 1) := by decide +kernel
theorem dX1_take_60 : decode cX1_take 60 = .ok (.iload 6, 2) := by decide +kernel
theorem dX1_take_62 : decode cX1_take 62 = .ok (.iconst 2, 1) := by decide +kernel
theorem dX1_take_63 : decode cX1_take 63 = .ok (.if_icmp .ne 17, 3) := by decide +kernel
theorem dX1_take_66 : decode cX1_take 66 = .ok (.iload 4, 2) := by decide +kernel
theorem dX1_take_68 : decode cX1_take 68 = .ok (.aload_n 0, 1) := by decide +kernel
theorem dX1_take_69 : decode cX1_take 69 = .ok (.getfield 9, 3) := by decide +kernel
theorem dX1_take_72 : decode cX1_take 72 = .ok (.iload 5, 2) := by decide +kernel
theorem dX1_take_74 : decode cX1_take 74 = .ok (.iaload, 1) := by decide +kernel
theorem dX1_take_75 : decode cX1_take 75 = .ok (.invokestatic 30, 3) := by decide +kernel
theorem dX1_take_78 : decode cX1_take 78 = .ok (.istore 4, 2) := by decide +kernel
theorem dX1_take_80 : decode cX1_take 80 = .ok (.iinc 5 1, 3) := by decide +kernel
theorem dX1_take_83 : decode cX1_take 83 = .ok (.goto (-77), 3) := by decide +kernel
theorem dX1_take_86 : decode cX1_take 86 = .ok (.aload_n 0, 1) := by decide +kernel
theorem dX1_take_87 : decode cX1_take 87 = .ok (.iload 4, 2) := by decide +kernel
theorem dX1_take_89 : decode cX1_take 89 = .ok (.iconst 2, 1) := by decide +kernel
theorem dX1_take_90 : decode cX1_take 90 = .ok (.idiv, 1) := by decide +kernel
theorem dX1_take_91 : decode cX1_take 91 = .ok (.putfield 36, 3) := by decide +kernel
theorem dX1_take_94 : decode cX1_take 94 = .ok (.return_, 1) := by decide +kernel
theorem dX1_fade_0 : decode cX1_fade 0 = .ok (.iconst 0, 1) := by decide +kernel
theorem dX1_fade_1 : decode cX1_fade 1 = .ok (.istore_n 3, 1) := by decide +kernel
theorem dX1_fade_2 : decode cX1_fade 2 = .ok (.iload_n 3, 1) := by decide +kernel
theorem dX1_fade_3 : decode cX1_fade 3 = .ok (.aload_n 0, 1) := by decide +kernel
theorem dX1_fade_4 : decode cX1_fade 4 = .ok (.getfield 15, 3) := by decide +kernel
theorem dX1_fade_7 : decode cX1_fade 7 = .ok (.getfield 19, 3) := by decide +kernel
theorem dX1_fade_10 : decode cX1_fade 10 = .ok (.iconst 2, 1) := by decide +kernel
theorem dX1_fade_11 : decode cX1_fade 11 = .ok (.iaload, 1) := by decide +kernel
theorem dX1_fade_12 : decode cX1_fade 12 = .ok (.if_icmp .ge 35, 3) := by decide +kernel
theorem dX1_fade_15 : decode cX1_fade 15 = .ok (.aload_n 1, 1) := by decide +kernel
theorem dX1_fade_16 : decode cX1_fade 16 = .ok (.iload_n 3, 1) := by decide +kernel
theorem dX1_fade_17 : decode cX1_fade 17 = .ok (.iconst 0, 1) := by decide +kernel
theorem dX1_fade_18 : decode cX1_fade 18 = .ok (.aload_n 1, 1) := by decide +kernel
theorem dX1_fade_19 : decode cX1_fade 19 = .ok (.iload_n 3, 1) := by decide +kernel
theorem dX1_fade_20 : decode cX1_fade 20 = .ok (.iaload, 1) := by decide +kernel
theorem dX1_fade_21 : decode cX1_fade 21 = .ok (.getstatic 27, 3) := by decide +kernel
theorem dX1_fade_24 : decode cX1_fade 24 = .ok (.aload_n 0, 1) := by decide +kernel
theorem dX1_fade_25 : decode cX1_fade 25 = .ok (.getfield 15, 3) := by decide +kernel
theorem dX1_fade_28 : decode cX1_fade 28 = .ok (.getfield 24, 3) := by decide +kernel
theorem dX1_fade_31 : decode cX1_fade 31 = .ok (.iload_n 3, 1) := by decide +kernel
theorem dX1_fade_32 : decode cX1_fade 32 = .ok (.iaload, 1) := by decide +kernel
theorem dX1_fade_33 : decode cX1_fade 33 = .ok (.iaload, 1) := by decide +kernel
theorem dX1_fade_34 : decode cX1_fade 34 = .ok (.iload_n 2, 1) := by decide +kernel
theorem dX1_fade_35 : decode cX1_fade 35 = .ok (.imul, 1) := by decide +kernel
theorem dX1_fade_36 : decode cX1_fade 36 = .ok (.isub, 1) := by decide +kernel
theorem dX1_fade_37 : decode cX1_fade 37 = .ok (.invokestatic 30, 3) := by decide +kernel
theorem dX1_fade_40 : decode cX1_fade 40 = .ok (.iastore, 1) := by decide +kernel
theorem dX1_fade_41 : decode cX1_fade 41 = .ok (.iinc 3 1, 3) := by decide +kernel
theorem dX1_fade_44 : decode cX1_fade 44 = .ok (.goto (-42), 3) := by decide +kernel
theorem dX1_fade_47 : decode cX1_fade 47 = .ok (.return_, 1) := by decide +kernel
theorem dX1_uncovered_0 : decode cX1_uncovered 0 = .ok (.aload_n 0, 1) := by decide +kernel
theorem dX1_uncovered_1 : decode cX1_uncovered 1 = .ok (.getfield 15, 3) := by decide +kernel
theorem dX1_uncovered_4 : decode cX1_uncovered 4 = .ok (.getfield 24, 3) := by decide +kernel
theorem dX1_uncovered_7 : decode cX1_uncovered 7 = .ok (.iload_n 1, 1) := by decide +kernel
theorem dX1_uncovered_8 : decode cX1_uncovered 8 = .ok (.iaload, 1) := by decide +kernel
theorem dX1_uncovered_9 : decode cX1_uncovered 9 = .ok (.iconst 2, 1) := by decide +kernel
theorem dX1_uncovered_10 : decode cX1_uncovered 10 = .ok (.if_icmp .ne 10, 3) := by decide +kernel
theorem dX1_uncovered_13 : decode cX1_uncovered 13 = .ok (.aload_n 0, 1) := by decide +kernel
theorem dX1_uncovered_14 : decode cX1_uncovered 14 = .ok (.getfield 9, 3) := by decide +kernel
theorem dX1_uncovered_17 : decode cX1_uncovered 17 = .ok (.iload_n 1, 1) := by decide +kernel
theorem dX1_uncovered_18 : decode cX1_uncovered 18 = .ok (.iaload, 1) := by decide +kernel
theorem dX1_uncovered_19 : decode cX1_uncovered 19 = .ok (.ireturn, 1) := by decide +kernel
theorem dX1_uncovered_20 : decode cX1_uncovered 20 = .ok (.aload_n 0, 1) := by decide +kernel
theorem dX1_uncovered_21 : decode cX1_uncovered 21 = .ok (.getfield 9, 3) := by decide +kernel
theorem dX1_uncovered_24 : decode cX1_uncovered 24 = .ok (.iload_n 1, 1) := by decide +kernel
theorem dX1_uncovered_25 : decode cX1_uncovered 25 = .ok (.iaload, 1) := by decide +kernel
theorem dX1_uncovered_26 : decode cX1_uncovered 26 = .ok (.aload_n 0, 1) := by decide +kernel
theorem dX1_uncovered_27 : decode cX1_uncovered 27 = .ok (.getfield 36, 3) := by decide +kernel
theorem dX1_uncovered_30 : decode cX1_uncovered 30 = .ok (.if_icmp .le 17, 3) := by decide +kernel
theorem dX1_uncovered_33 : decode cX1_uncovered 33 = .ok (.aload_n 0, 1) := by decide +kernel
theorem dX1_uncovered_34 : decode cX1_uncovered 34 = .ok (.getfield 9, 3) := by decide +kernel
theorem dX1_uncovered_37 : decode cX1_uncovered 37 = .ok (.iload_n 1, 1) := by decide +kernel
theorem dX1_uncovered_38 : decode cX1_uncovered 38 = .ok (.iaload, 1) := by decide +kernel
theorem dX1_uncovered_39 : decode cX1_uncovered 39 = .ok (.aload_n 0, 1) := by decide +kernel
theorem dX1_uncovered_40 : decode cX1_uncovered 40 = .ok (.getfield 36, 3) := by decide +kernel
theorem dX1_uncovered_43 : decode cX1_uncovered 43 = .ok (.isub, 1) := by decide +kernel
theorem dX1_uncovered_44 : decode cX1_uncovered 44 = .ok (.goto 4, 3) := by decide +kernel
theorem dX1_uncovered_47 : decode cX1_uncovered 47 = .ok (.iconst 0, 1) := by decide +kernel
theorem dX1_uncovered_48 : decode cX1_uncovered 48 = .ok (.ireturn, 1) := by decide +kernel
theorem dX1_smeltBy_0 : decode cX1_smeltBy 0 = .ok (.iconst 0, 1) := by decide +kernel
theorem dX1_smeltBy_1 : decode cX1_smeltBy 1 = .ok (.istore_n 2, 1) := by decide +kernel
theorem dX1_smeltBy_2 : decode cX1_smeltBy 2 = .ok (.iconst 0, 1) := by decide +kernel
theorem dX1_smeltBy_3 : decode cX1_smeltBy 3 = .ok (.istore_n 3, 1) := by decide +kernel
theorem dX1_smeltBy_4 : decode cX1_smeltBy 4 = .ok (.iload_n 3, 1) := by decide +kernel
theorem dX1_smeltBy_5 : decode cX1_smeltBy 5 = .ok (.aload_n 0, 1) := by decide +kernel
theorem dX1_smeltBy_6 : decode cX1_smeltBy 6 = .ok (.getfield 15, 3) := by decide +kernel
theorem dX1_smeltBy_9 : decode cX1_smeltBy 9 = .ok (.getfield 19, 3) := by decide +kernel
theorem dX1_smeltBy_12 : decode cX1_smeltBy 12 = .ok (.iconst 2, 1) := by decide +kernel
theorem dX1_smeltBy_13 : decode cX1_smeltBy 13 = .ok (.iaload, 1) := by decide +kernel
theorem dX1_smeltBy_14 : decode cX1_smeltBy 14 = .ok (.if_icmp .ge 24, 3) := by decide +kernel
theorem dX1_smeltBy_17 : decode cX1_smeltBy 17 = .ok (.aload_n 0, 1) := by decide +kernel
theorem dX1_smeltBy_18 : decode cX1_smeltBy 18 = .ok (.iload_n 3, 1) := by decide +kernel
theorem dX1_smeltBy_19 : decode cX1_smeltBy 19 = .ok (.invokevirtual 40, 3) := by decide +kernel
theorem dX1_smeltBy_22 : decode cX1_smeltBy 22 = .ok (.iload_n 1, 1) := by decide +kernel
theorem dX1_smeltBy_23 : decode cX1_smeltBy 23 = .ok (.if_icmp .lt 9, 3) := by decide +kernel
theorem dX1_smeltBy_26 : decode cX1_smeltBy 26 = .ok (.iload_n 2, 1) := by decide +kernel
theorem dX1_smeltBy_27 : decode cX1_smeltBy 27 = .ok (.iconst 1, 1) := by decide +kernel
theorem dX1_smeltBy_28 : decode cX1_smeltBy 28 = .ok (.iload_n 3, 1) := by decide +kernel
theorem dX1_smeltBy_29 : decode cX1_smeltBy 29 = .ok (.ishl, 1) := by decide +kernel
theorem dX1_smeltBy_30 : decode cX1_smeltBy 30 = .ok (.ior, 1) := by decide +kernel
theorem dX1_smeltBy_31 : decode cX1_smeltBy 31 = .ok (.istore_n 2, 1) := by decide +kernel
theorem dX1_smeltBy_32 : decode cX1_smeltBy 32 = .ok (.iinc 3 1, 3) := by decide +kernel
theorem dX1_smeltBy_35 : decode cX1_smeltBy 35 = .ok (.goto (-31), 3) := by decide +kernel
theorem dX1_smeltBy_38 : decode cX1_smeltBy 38 = .ok (.iload_n 2, 1) := by decide +kernel
theorem dX1_smeltBy_39 : decode cX1_smeltBy 39 = .ok (.ireturn, 1) := by decide +kernel
theorem dX1_toll_0 : decode cX1_toll 0 = .ok (.iload_n 3, 1) := by decide +kernel
theorem dX1_toll_1 : decode cX1_toll 1 = .ok (.ifCond .eq 8, 3) := by decide +kernel
theorem dX1_toll_4 : decode cX1_toll 4 = .ok (.iload_n 1, 1) := by decide +kernel
theorem dX1_toll_5 : decode cX1_toll 5 = .ok (.iconst 3, 1) := by decide +kernel
theorem dX1_toll_6 : decode cX1_toll 6 = .ok (.if_icmp .ne 5, 3) := by decide +kernel
theorem dX1_toll_9 : decode cX1_toll 9 = .ok (.iconst 0, 1) := by decide +kernel
theorem dX1_toll_10 : decode cX1_toll 10 = .ok (.ireturn, 1) := by decide +kernel
theorem dX1_toll_11 : decode cX1_toll 11 = .ok (.iconst 0, 1) := by decide +kernel
theorem dX1_toll_12 : decode cX1_toll 12 = .ok (.istore 4, 2) := by decide +kernel
theorem dX1_toll_14 : decode cX1_toll 14 = .ok (.iconst 0, 1) := by decide +kernel
theorem dX1_toll_15 : decode cX1_toll 15 = .ok (.istore 5, 2) := by decide +kernel
theorem dX1_toll_17 : decode cX1_toll 17 = .ok (.iload 5, 2) := by decide +kernel
theorem dX1_toll_19 : decode cX1_toll 19 = .ok (.aload_n 0, 1) := by decide +kernel
theorem dX1_toll_20 : decode cX1_toll 20 = .ok (.getfield 15, 3) := by decide +kernel
theorem dX1_toll_23 : decode cX1_toll 23 = .ok (.getfield 19, 3) := by decide +kernel
theorem dX1_toll_26 : decode cX1_toll 26 = .ok (.iconst 2, 1) := by decide +kernel
theorem dX1_toll_27 : decode cX1_toll 27 = .ok (.iaload, 1) := by decide +kernel
theorem dX1_toll_28 : decode cX1_toll 28 = .ok (.if_icmp .ge 67, 3) := by decide +kernel
theorem dX1_toll_31 : decode cX1_toll 31 = .ok (.aload_n 0, 1) := by decide +kernel
theorem dX1_toll_32 : decode cX1_toll 32 = .ok (.iload 5, 2) := by decide +kernel
theorem dX1_toll_34 : decode cX1_toll 34 = .ok (.invokevirtual 40, 3) := by decide +kernel
theorem dX1_toll_37 : decode cX1_toll 37 = .ok (.istore 6, 2) := by decide +kernel
theorem dX1_toll_39 : decode cX1_toll 39 = .ok (.iload 6, 2) := by decide +kernel
theorem dX1_toll_41 : decode cX1_toll 41 = .ok (.iload_n 3, 1) := by decide +kernel
theorem dX1_toll_42 : decode cX1_toll 42 = .ok (.if_icmp .lt 47, 3) := by decide +kernel
theorem dX1_toll_45 : decode cX1_toll 45 = .ok (.aload_n 0, 1) := by decide +kernel
theorem dX1_toll_46 : decode cX1_toll 46 = .ok (.iload 5, 2) := by decide +kernel
theorem dX1_toll_48 : decode cX1_toll 48 = .ok (.aload_n 0, 1) := by decide +kernel
theorem dX1_toll_49 : decode cX1_toll 49 = .ok (.getfield 15, 3) := by decide +kernel
theorem dX1_toll_52 : decode cX1_toll 52 = .ok (.getfield 44, 3) := by decide +kernel
theorem dX1_toll_55 : decode cX1_toll 55 = .ok (.iload_n 2, 1) := by decide +kernel
theorem dX1_toll_56 : decode cX1_toll 56 = .ok (.iaload, 1) := by decide +kernel
theorem dX1_toll_57 : decode cX1_toll 57 = .ok (.invokevirtual 47, 3) := by decide +kernel
theorem dX1_toll_60 : decode cX1_toll 60 = .ok (.ifCond .eq 29, 3) := by decide +kernel
theorem dX1_toll_63 : decode cX1_toll 63 = .ok (.iload 4, 2) := by decide +kernel
theorem dX1_toll_65 : decode cX1_toll 65 = .ok (.iload 6, 2) := by decide +kernel
theorem dX1_toll_67 : decode cX1_toll 67 = .ok (.aload_n 0, 1) := by decide +kernel
theorem dX1_toll_68 : decode cX1_toll 68 = .ok (.getfield 15, 3) := by decide +kernel
theorem dX1_toll_71 : decode cX1_toll 71 = .ok (.getfield 51, 3) := by decide +kernel
theorem dX1_toll_74 : decode cX1_toll 74 = .ok (.aload_n 0, 1) := by decide +kernel
theorem dX1_toll_75 : decode cX1_toll 75 = .ok (.getfield 15, 3) := by decide +kernel
theorem dX1_toll_78 : decode cX1_toll 78 = .ok (.getfield 54, 3) := by decide +kernel
theorem dX1_toll_81 : decode cX1_toll 81 = .ok (.iload 5, 2) := by decide +kernel
theorem dX1_toll_83 : decode cX1_toll 83 = .ok (.iaload, 1) := by decide +kernel
theorem dX1_toll_84 : decode cX1_toll 84 = .ok (.iaload, 1) := by decide +kernel
theorem dX1_toll_85 : decode cX1_toll 85 = .ok (.imul, 1) := by decide +kernel
theorem dX1_toll_86 : decode cX1_toll 86 = .ok (.iadd, 1) := by decide +kernel
theorem dX1_toll_87 : decode cX1_toll 87 = .ok (.istore 4, 2) := by decide +kernel
theorem dX1_toll_89 : decode cX1_toll 89 = .ok (.iinc 5 1, 3) := by decide +kernel
theorem dX1_toll_92 : decode cX1_toll 92 = .ok (.goto (-75), 3) := by decide +kernel
theorem dX1_toll_95 : decode cX1_toll 95 = .ok (.iload_n 1, 1) := by decide +kernel
theorem dX1_toll_96 : decode cX1_toll 96 = .ok (.iconst 1, 1) := by decide +kernel
theorem dX1_toll_97 : decode cX1_toll 97 = .ok (.if_icmp .ne 10, 3) := by decide +kernel
theorem dX1_toll_100 : decode cX1_toll 100 = .ok (.iconst 2, 1) := by decide +kernel
theorem dX1_toll_101 : decode cX1_toll 101 = .ok (.iload 4, 2) := by decide +kernel
theorem dX1_toll_103 : decode cX1_toll 103 = .ok (.imul, 1) := by decide +kernel
theorem dX1_toll_104 : decode cX1_toll 104 = .ok (.goto 17, 3) := by decide +kernel
theorem dX1_toll_107 : decode cX1_toll 107 = .ok (.iload_n 1, 1) := by decide +kernel
theorem dX1_toll_108 : decode cX1_toll 108 = .ok (.iconst 2, 1) := by decide +kernel
theorem dX1_toll_109 : decode cX1_toll 109 = .ok (.if_icmp .ne 10, 3) := by decide +kernel
theorem dX1_toll_112 : decode cX1_toll 112 = .ok (.iload 4, 2) := by decide +kernel
theorem dX1_toll_114 : decode cX1_toll 114 = .ok (.iconst 2, 1) := by decide +kernel
theorem dX1_toll_115 : decode cX1_toll 115 = .ok (.idiv, 1) := by decide +kernel
theorem dX1_toll_116 : decode cX1_toll 116 = .ok (.goto 5, 3) := by decide +kernel
theorem dX1_toll_119 : decode cX1_toll 119 = .ok (.iload 4, 2) := by decide +kernel
theorem dX1_toll_121 : decode cX1_toll 121 = .ok (.ireturn, 1) := by decide +kernel
theorem dX1_isDutiable_0 : decode cX1_isDutiable 0 = .ok (.aload_n 0, 1) := by decide +kernel
theorem dX1_isDutiable_1 : decode cX1_isDutiable 1 = .ok (.getfield 15, 3) := by decide +kernel
theorem dX1_isDutiable_4 : decode cX1_isDutiable 4 = .ok (.getfield 24, 3) := by decide +kernel
theorem dX1_isDutiable_7 : decode cX1_isDutiable 7 = .ok (.iload_n 1, 1) := by decide +kernel
theorem dX1_isDutiable_8 : decode cX1_isDutiable 8 = .ok (.iaload, 1) := by decide +kernel
theorem dX1_isDutiable_9 : decode cX1_isDutiable 9 = .ok (.istore_n 3, 1) := by decide +kernel
theorem dX1_isDutiable_10 : decode cX1_isDutiable 10 = .ok (.iload_n 3, 1) := by decide +kernel
theorem dX1_isDutiable_11 : decode cX1_isDutiable 11 = .ok (.iconst 3, 1) := by decide +kernel
theorem dX1_isDutiable_12 : decode cX1_isDutiable 12 = .ok (.if_icmp .eq 25, 3) := by decide +kernel
theorem dX1_isDutiable_15 : decode cX1_isDutiable 15 = .ok (.iload_n 3, 1) := by decide +kernel
theorem dX1_isDutiable_16 : decode cX1_isDutiable 16 = .ok (.iconst 4, 1) := by decide +kernel
theorem dX1_isDutiable_17 : decode cX1_isDutiable 17 = .ok (.if_icmp .eq 20, 3) := by decide +kernel
theorem dX1_isDutiable_20 : decode cX1_isDutiable 20 = .ok (.aload_n 0, 1) := by decide +kernel
theorem dX1_isDutiable_21 : decode cX1_isDutiable 21 = .ok (.getfield 15, 3) := by decide +kernel
theorem dX1_isDutiable_24 : decode cX1_isDutiable 24 = .ok (.getfield 54, 3) := by decide +kernel
theorem dX1_isDutiable_27 : decode cX1_isDutiable 27 = .ok (.iload_n 1, 1) := by decide +kernel
theorem dX1_isDutiable_28 : decode cX1_isDutiable 28 = .ok (.iaload, 1) := by decide +kernel
theorem dX1_isDutiable_29 : decode cX1_isDutiable 29 = .ok (.iload_n 2, 1) := by decide +kernel
theorem dX1_isDutiable_30 : decode cX1_isDutiable 30 = .ok (.if_icmp .eq 7, 3) := by decide +kernel
theorem dX1_isDutiable_33 : decode cX1_isDutiable 33 = .ok (.iconst 1, 1) := by decide +kernel
theorem dX1_isDutiable_34 : decode cX1_isDutiable 34 = .ok (.goto 4, 3) := by decide +kernel
theorem dX1_isDutiable_37 : decode cX1_isDutiable 37 = .ok (.iconst 0, 1) := by decide +kernel
theorem dX1_isDutiable_38 : decode cX1_isDutiable 38 = .ok (.ireturn, 1) := by decide +kernel
theorem dX1_claimant_0 : decode cX1_claimant 0 = .ok (.iconst 0, 1) := by decide +kernel
theorem dX1_claimant_1 : decode cX1_claimant 1 = .ok (.istore_n 1, 1) := by decide +kernel
theorem dX1_claimant_2 : decode cX1_claimant 2 = .ok (.bipush (-2), 2) := by decide +kernel
theorem dX1_claimant_4 : decode cX1_claimant 4 = .ok (.istore_n 2, 1) := by decide +kernel
theorem dX1_claimant_5 : decode cX1_claimant 5 = .ok (.iconst 0, 1) := by decide +kernel
theorem dX1_claimant_6 : decode cX1_claimant 6 = .ok (.istore_n 3, 1) := by decide +kernel
theorem dX1_claimant_7 : decode cX1_claimant 7 = .ok (.iload_n 3, 1) := by decide +kernel
theorem dX1_claimant_8 : decode cX1_claimant 8 = .ok (.aload_n 0, 1) := by decide +kernel
theorem dX1_claimant_9 : decode cX1_claimant 9 = .ok (.getfield 15, 3) := by decide +kernel
theorem dX1_claimant_12 : decode cX1_claimant 12 = .ok (.getfield 19, 3) := by decide +kernel
theorem dX1_claimant_15 : decode cX1_claimant 15 = .ok (.iconst 1, 1) := by decide +kernel
theorem dX1_claimant_16 : decode cX1_claimant 16 = .ok (.iaload, 1) := by decide +kernel
theorem dX1_claimant_17 : decode cX1_claimant 17 = .ok (.if_icmp .ge 39, 3) := by decide +kernel
theorem dX1_claimant_20 : decode cX1_claimant 20 = .ok (.aload_n 0, 1) := by decide +kernel
theorem dX1_claimant_21 : decode cX1_claimant 21 = .ok (.iload_n 3, 1) := by decide +kernel
theorem dX1_claimant_22 : decode cX1_claimant 22 = .ok (.invokevirtual 57, 3) := by decide +kernel
theorem dX1_claimant_25 : decode cX1_claimant 25 = .ok (.istore 4, 2) := by decide +kernel
theorem dX1_claimant_27 : decode cX1_claimant 27 = .ok (.iload 4, 2) := by decide +kernel
theorem dX1_claimant_29 : decode cX1_claimant 29 = .ok (.iload_n 1, 1) := by decide +kernel
theorem dX1_claimant_30 : decode cX1_claimant 30 = .ok (.if_icmp .le 11, 3) := by decide +kernel
theorem dX1_claimant_33 : decode cX1_claimant 33 = .ok (.iload 4, 2) := by decide +kernel
theorem dX1_claimant_35 : decode cX1_claimant 35 = .ok (.istore_n 1, 1) := by decide +kernel
theorem dX1_claimant_36 : decode cX1_claimant 36 = .ok (.iload_n 3, 1) := by decide +kernel
theorem dX1_claimant_37 : decode cX1_claimant 37 = .ok (.istore_n 2, 1) := by decide +kernel
theorem dX1_claimant_38 : decode cX1_claimant 38 = .ok (.goto 12, 3) := by decide +kernel
theorem dX1_claimant_41 : decode cX1_claimant 41 = .ok (.iload 4, 2) := by decide +kernel
theorem dX1_claimant_43 : decode cX1_claimant 43 = .ok (.iload_n 1, 1) := by decide +kernel
theorem dX1_claimant_44 : decode cX1_claimant 44 = .ok (.if_icmp .ne 6, 3) := by decide +kernel
theorem dX1_claimant_47 : decode cX1_claimant 47 = .ok (.bipush (-2), 2) := by decide +kernel
theorem dX1_claimant_49 : decode cX1_claimant 49 = .ok (.istore_n 2, 1) := by decide +kernel
theorem dX1_claimant_50 : decode cX1_claimant 50 = .ok (.iinc 3 1, 3) := by decide +kernel
theorem dX1_claimant_53 : decode cX1_claimant 53 = .ok (.goto (-46), 3) := by decide +kernel
theorem dX1_claimant_56 : decode cX1_claimant 56 = .ok (.iload_n 2, 1) := by decide +kernel
theorem dX1_claimant_57 : decode cX1_claimant 57 = .ok (.ireturn, 1) := by decide +kernel
theorem dX1_fromLand_0 : decode cX1_fromLand 0 = .ok (.iconst 0, 1) := by decide +kernel
theorem dX1_fromLand_1 : decode cX1_fromLand 1 = .ok (.istore_n 2, 1) := by decide +kernel
theorem dX1_fromLand_2 : decode cX1_fromLand 2 = .ok (.iconst 0, 1) := by decide +kernel
theorem dX1_fromLand_3 : decode cX1_fromLand 3 = .ok (.istore_n 3, 1) := by decide +kernel
theorem dX1_fromLand_4 : decode cX1_fromLand 4 = .ok (.iload_n 3, 1) := by decide +kernel
theorem dX1_fromLand_5 : decode cX1_fromLand 5 = .ok (.aload_n 0, 1) := by decide +kernel
theorem dX1_fromLand_6 : decode cX1_fromLand 6 = .ok (.getfield 15, 3) := by decide +kernel
theorem dX1_fromLand_9 : decode cX1_fromLand 9 = .ok (.getfield 19, 3) := by decide +kernel
theorem dX1_fromLand_12 : decode cX1_fromLand 12 = .ok (.iconst 2, 1) := by decide +kernel
theorem dX1_fromLand_13 : decode cX1_fromLand 13 = .ok (.iaload, 1) := by decide +kernel
theorem dX1_fromLand_14 : decode cX1_fromLand 14 = .ok (.if_icmp .ge 43, 3) := by decide +kernel
theorem dX1_fromLand_17 : decode cX1_fromLand 17 = .ok (.aload_n 0, 1) := by decide +kernel
theorem dX1_fromLand_18 : decode cX1_fromLand 18 = .ok (.getfield 15, 3) := by decide +kernel
theorem dX1_fromLand_21 : decode cX1_fromLand 21 = .ok (.getfield 54, 3) := by decide +kernel
theorem dX1_fromLand_24 : decode cX1_fromLand 24 = .ok (.iload_n 3, 1) := by decide +kernel
theorem dX1_fromLand_25 : decode cX1_fromLand 25 = .ok (.iaload, 1) := by decide +kernel
theorem dX1_fromLand_26 : decode cX1_fromLand 26 = .ok (.iload_n 1, 1) := by decide +kernel
theorem dX1_fromLand_27 : decode cX1_fromLand 27 = .ok (.if_icmp .ne 24, 3) := by decide +kernel
theorem dX1_fromLand_30 : decode cX1_fromLand 30 = .ok (.aload_n 0, 1) := by decide +kernel
theorem dX1_fromLand_31 : decode cX1_fromLand 31 = .ok (.getfield 15, 3) := by decide +kernel
theorem dX1_fromLand_34 : decode cX1_fromLand 34 = .ok (.getfield 24, 3) := by decide +kernel
theorem dX1_fromLand_37 : decode cX1_fromLand 37 = .ok (.iload_n 3, 1) := by decide +kernel
theorem dX1_fromLand_38 : decode cX1_fromLand 38 = .ok (.iaload, 1) := by decide +kernel
theorem dX1_fromLand_39 : decode cX1_fromLand 39 = .ok (.iconst 3, 1) := by decide +kernel
theorem dX1_fromLand_40 : decode cX1_fromLand 40 = .ok (.if_icmp .eq 11, 3) := by decide +kernel
theorem dX1_fromLand_43 : decode cX1_fromLand 43 = .ok (.iload_n 2, 1) := by decide +kernel
theorem dX1_fromLand_44 : decode cX1_fromLand 44 = .ok (.aload_n 0, 1) := by decide +kernel
theorem dX1_fromLand_45 : decode cX1_fromLand 45 = .ok (.iload_n 3, 1) := by decide +kernel
theorem dX1_fromLand_46 : decode cX1_fromLand 46 = .ok (.invokevirtual 40, 3) := by decide +kernel
theorem dX1_fromLand_49 : decode cX1_fromLand 49 = .ok (.iadd, 1) := by decide +kernel
theorem dX1_fromLand_50 : decode cX1_fromLand 50 = .ok (.istore_n 2, 1) := by decide +kernel
theorem dX1_fromLand_51 : decode cX1_fromLand 51 = .ok (.iinc 3 1, 3) := by decide +kernel
theorem dX1_fromLand_54 : decode cX1_fromLand 54 = .ok (.goto (-50), 3) := by decide +kernel
theorem dX1_fromLand_57 : decode cX1_fromLand 57 = .ok (.iload_n 2, 1) := by decide +kernel
theorem dX1_fromLand_58 : decode cX1_fromLand 58 = .ok (.ireturn, 1) := by decide +kernel
theorem dX1_together_0 : decode cX1_together 0 = .ok (.iconst 0, 1) := by decide +kernel
theorem dX1_together_1 : decode cX1_together 1 = .ok (.istore_n 1, 1) := by decide +kernel
theorem dX1_together_2 : decode cX1_together 2 = .ok (.iconst 0, 1) := by decide +kernel
theorem dX1_together_3 : decode cX1_together 3 = .ok (.istore_n 2, 1) := by decide +kernel
theorem dX1_together_4 : decode cX1_together 4 = .ok (.iload_n 2, 1) := by decide +kernel
theorem dX1_together_5 : decode cX1_together 5 = .ok (.aload_n 0, 1) := by decide +kernel
theorem dX1_together_6 : decode cX1_together 6 = .ok (.getfield 15, 3) := by decide +kernel
theorem dX1_together_9 : decode cX1_together 9 = .ok (.getfield 19, 3) := by decide +kernel
theorem dX1_together_12 : decode cX1_together 12 = .ok (.iconst 2, 1) := by decide +kernel
theorem dX1_together_13 : decode cX1_together 13 = .ok (.iaload, 1) := by decide +kernel
theorem dX1_together_14 : decode cX1_together 14 = .ok (.if_icmp .ge 18, 3) := by decide +kernel
theorem dX1_together_17 : decode cX1_together 17 = .ok (.iload_n 1, 1) := by decide +kernel
theorem dX1_together_18 : decode cX1_together 18 = .ok (.aload_n 0, 1) := by decide +kernel
theorem dX1_together_19 : decode cX1_together 19 = .ok (.getfield 9, 3) := by decide +kernel
theorem dX1_together_22 : decode cX1_together 22 = .ok (.iload_n 2, 1) := by decide +kernel
theorem dX1_together_23 : decode cX1_together 23 = .ok (.iaload, 1) := by decide +kernel
theorem dX1_together_24 : decode cX1_together 24 = .ok (.iadd, 1) := by decide +kernel
theorem dX1_together_25 : decode cX1_together 25 = .ok (.istore_n 1, 1) := by decide +kernel
theorem dX1_together_26 : decode cX1_together 26 = .ok (.iinc 2 1, 3) := by decide +kernel
theorem dX1_together_29 : decode cX1_together 29 = .ok (.goto (-25), 3) := by decide +kernel
theorem dX1_together_32 : decode cX1_together 32 = .ok (.iload_n 1, 1) := by decide +kernel
theorem dX1_together_33 : decode cX1_together 33 = .ok (.ireturn, 1) := by decide +kernel
theorem dX1_blown_0 : decode cX1_blown 0 = .ok (.aload_n 0, 1) := by decide +kernel
theorem dX1_blown_1 : decode cX1_blown 1 = .ok (.getfield 15, 3) := by decide +kernel
theorem dX1_blown_4 : decode cX1_blown 4 = .ok (.getfield 19, 3) := by decide +kernel
theorem dX1_blown_7 : decode cX1_blown 7 = .ok (.iconst 0, 1) := by decide +kernel
theorem dX1_blown_8 : decode cX1_blown 8 = .ok (.iaload, 1) := by decide +kernel
theorem dX1_blown_9 : decode cX1_blown 9 = .ok (.istore_n 3, 1) := by decide +kernel
theorem dX1_blown_10 : decode cX1_blown 10 = .ok (.iload_n 3, 1) := by decide +kernel
theorem dX1_blown_11 : decode cX1_blown 11 = .ok (.ifCond .gt 5, 3) := by decide +kernel
theorem dX1_blown_14 : decode cX1_blown 14 = .ok (.iconst 0, 1) := by decide +kernel
theorem dX1_blown_15 : decode cX1_blown 15 = .ok (.ireturn, 1) := by decide +kernel
theorem dX1_blown_16 : decode cX1_blown 16 = .ok (.iload_n 1, 1) := by decide +kernel
theorem dX1_blown_17 : decode cX1_blown 17 = .ok (.istore 4, 2) := by decide +kernel
theorem dX1_blown_19 : decode cX1_blown 19 = .ok (.iconst 0, 1) := by decide +kernel
theorem dX1_blown_20 : decode cX1_blown 20 = .ok (.istore 5, 2) := by decide +kernel
theorem dX1_blown_22 : decode cX1_blown 22 = .ok (.iconst 0, 1) := by decide +kernel
theorem dX1_blown_23 : decode cX1_blown 23 = .ok (.istore 6, 2) := by decide +kernel
theorem dX1_blown_25 : decode cX1_blown 25 = .ok (.iload 6, 2) := by decide +kernel
theorem dX1_blown_27 : decode cX1_blown 27 = .ok (.iload_n 2, 1) := by decide +kernel
theorem dX1_blown_28 : decode cX1_blown 28 = .ok (.if_icmp .ge 31, 3) := by decide +kernel
theorem dX1_blown_31 : decode cX1_blown 31 = .ok (.bipush 75, 2) := by decide +kernel
theorem dX1_blown_33 : decode cX1_blown 33 = .ok (.iload 4, 2) := by decide +kernel
theorem dX1_blown_35 : decode cX1_blown 35 = .ok (.imul, 1) := by decide +kernel
theorem dX1_blown_36 : decode cX1_blown 36 = .ok (.bipush 74, 2) := by decide +kernel
theorem dX1_blown_38 : decode cX1_blown 38 = .ok (.iadd, 1) := by decide +kernel
theorem dX1_blown_39 : decode cX1_blown 39 = .ok (.ldc 60, 2) := by decide +kernel
theorem dX1_blown_41 : decode cX1_blown 41 = .ok (.irem, 1) := by decide +kernel
theorem dX1_blown_42 : decode cX1_blown 42 = .ok (.istore 4, 2) := by decide +kernel
theorem dX1_blown_44 : decode cX1_blown 44 = .ok (.iload 5, 2) := by decide +kernel
theorem dX1_blown_46 : decode cX1_blown 46 = .ok (.iload 4, 2) := by decide +kernel
theorem dX1_blown_48 : decode cX1_blown 48 = .ok (.iload_n 3, 1) := by decide +kernel
theorem dX1_blown_49 : decode cX1_blown 49 = .ok (.irem, 1) := by decide +kernel
theorem dX1_blown_50 : decode cX1_blown 50 = .ok (.iadd, 1) := by decide +kernel
theorem dX1_blown_51 : decode cX1_blown 51 = .ok (.istore 5, 2) := by decide +kernel
theorem dX1_blown_53 : decode cX1_blown 53 = .ok (.iinc 6 1, 3) := by decide +kernel
theorem dX1_blown_56 : decode cX1_blown 56 = .ok (.goto (-31), 3) := by decide +kernel
theorem dX1_blown_59 : decode cX1_blown 59 = .ok (.iload 5, 2) := by decide +kernel
theorem dX1_blown_61 : decode cX1_blown 61 = .ok (.ireturn, 1) := by decide +kernel
theorem dX2_init_0 : decode cX2_init 0 = .ok (.aload_n 0, 1) := by decide +kernel
theorem dX2_init_1 : decode cX2_init 1 = .ok (.invokespecial 3, 3) := by decide +kernel
theorem dX2_init_4 : decode cX2_init 4 = .ok (.aload_n 0, 1) := by decide +kernel
theorem dX2_init_5 : decode cX2_init 5 = .ok (.bipush 12, 2) := by decide +kernel
theorem dX2_init_7 : decode cX2_init 7 = .ok (.newarray .int, 2) := by decide +kernel
theorem dX2_init_9 : decode cX2_init 9 = .ok (.putfield 9, 3) := by decide +kernel
theorem dX2_init_12 : decode cX2_init 12 = .ok (.aload_n 0, 1) := by decide +kernel
theorem dX2_init_13 : decode cX2_init 13 = .ok (.iconst 4, 1) := by decide +kernel
theorem dX2_init_14 : decode cX2_init 14 = .ok (.newarray .int, 2) := by decide +kernel
theorem dX2_init_16 : decode cX2_init 16 = .ok (.putfield 15, 3) := by decide +kernel
theorem dX2_init_19 : decode cX2_init 19 = .ok (.aload_n 0, 1) := by decide +kernel
theorem dX2_init_20 : decode cX2_init 20 = .ok (.bipush 6, 2) := by decide +kernel
theorem dX2_init_22 : decode cX2_init 22 = .ok (.newarray .int, 2) := by decide +kernel
theorem dX2_init_24 : decode cX2_init 24 = .ok (.putfield 18, 3) := by decide +kernel
theorem dX2_init_27 : decode cX2_init 27 = .ok (.aload_n 0, 1) := by decide +kernel
theorem dX2_init_28 : decode cX2_init 28 = .ok (.bipush 6, 2) := by decide +kernel
theorem dX2_init_30 : decode cX2_init 30 = .ok (.newarray .int, 2) := by decide +kernel
theorem dX2_init_32 : decode cX2_init 32 = .ok (.putfield 21, 3) := by decide +kernel
theorem dX2_init_35 : decode cX2_init 35 = .ok (.aload_n 0, 1) := by decide +kernel
theorem dX2_init_36 : decode cX2_init 36 = .ok (.iconst 4, 1) := by decide +kernel
theorem dX2_init_37 : decode cX2_init 37 = .ok (.newarray .int, 2) := by decide +kernel
theorem dX2_init_39 : decode cX2_init 39 = .ok (.putfield 24, 3) := by decide +kernel
theorem dX2_init_42 : decode cX2_init 42 = .ok (.aload_n 0, 1) := by decide +kernel
theorem dX2_init_43 : decode cX2_init 43 = .ok (.bipush 6, 2) := by decide +kernel
theorem dX2_init_45 : decode cX2_init 45 = .ok (.newarray .int, 2) := by decide +kernel
theorem dX2_init_47 : decode cX2_init 47 = .ok (.putfield 27, 3) := by decide +kernel
theorem dX2_init_50 : decode cX2_init 50 = .ok (.aload_n 0, 1) := by decide +kernel
theorem dX2_init_51 : decode cX2_init 51 = .ok (.bipush 6, 2) := by decide +kernel
theorem dX2_init_53 : decode cX2_init 53 = .ok (.newarray .int, 2) := by decide +kernel
theorem dX2_init_55 : decode cX2_init 55 = .ok (.putfield 30, 3) := by decide +kernel
theorem dX2_init_58 : decode cX2_init 58 = .ok (.aload_n 0, 1) := by decide +kernel
theorem dX2_init_59 : decode cX2_init 59 = .ok (.bipush 6, 2) := by decide +kernel
theorem dX2_init_61 : decode cX2_init 61 = .ok (.bipush 6, 2) := by decide +kernel
theorem dX2_init_63 : decode cX2_init 63 = .ok (.multianewarray 33 2, 4) := by decide +kernel
theorem dX2_init_67 : decode cX2_init 67 = .ok (.putfield 35, 3) := by decide +kernel
theorem dX2_init_70 : decode cX2_init 70 = .ok (.aload_n 0, 1) := by decide +kernel
theorem dX2_init_71 : decode cX2_init 71 = .ok (.bipush 6, 2) := by decide +kernel
theorem dX2_init_73 : decode cX2_init 73 = .ok (.bipush 6, 2) := by decide +kernel
theorem dX2_init_75 : decode cX2_init 75 = .ok (.multianewarray 33 2, 4) := by decide +kernel
theorem dX2_init_79 : decode cX2_init 79 = .ok (.putfield 38, 3) := by decide +kernel
theorem dX2_init_82 : decode cX2_init 82 = .ok (.aload_n 0, 1) := by decide +kernel
theorem dX2_init_83 : decode cX2_init 83 = .ok (.iconst 4, 1) := by decide +kernel
theorem dX2_init_84 : decode cX2_init 84 = .ok (.newarray .int, 2) := by decide +kernel
theorem dX2_init_86 : decode cX2_init 86 = .ok (.putfield 41, 3) := by decide +kernel
theorem dX2_init_89 : decode cX2_init 89 = .ok (.aload_n 0, 1) := by decide +kernel
theorem dX2_init_90 : decode cX2_init 90 = .ok (.iconst 4, 1) := by decide +kernel
theorem dX2_init_91 : decode cX2_init 91 = .ok (.newarray .int, 2) := by decide +kernel
theorem dX2_init_93 : decode cX2_init 93 = .ok (.putfield 44, 3) := by decide +kernel
theorem dX2_init_96 : decode cX2_init 96 = .ok (.aload_n 0, 1) := by decide +kernel
theorem dX2_init_97 : decode cX2_init 97 = .ok (.iconst 4, 1) := by decide +kernel
theorem dX2_init_98 : decode cX2_init 98 = .ok (.newarray .int, 2) := by decide +kernel
theorem dX2_init_100 : decode cX2_init 100 = .ok (.putfield 47, 3) := by decide +kernel
theorem dX2_init_103 : decode cX2_init 103 = .ok (.aload_n 0, 1) := by decide +kernel
theorem dX2_init_104 : decode cX2_init 104 = .ok (.iconst 4, 1) := by decide +kernel
theorem dX2_init_105 : decode cX2_init 105 = .ok (.bipush 6, 2) := by decide +kernel
theorem dX2_init_107 : decode cX2_init 107 = .ok (.multianewarray 33 2, 4) := by decide +kernel
theorem dX2_init_111 : decode cX2_init 111 = .ok (.putfield 50, 3) := by decide +kernel
theorem dX2_init_114 : decode cX2_init 114 = .ok (.aload_n 0, 1) := by decide +kernel
theorem dX2_init_115 : decode cX2_init 115 = .ok (.iconst 4, 1) := by decide +kernel
theorem dX2_init_116 : decode cX2_init 116 = .ok (.newarray .int, 2) := by decide +kernel
theorem dX2_init_118 : decode cX2_init 118 = .ok (.putfield 53, 3) := by decide +kernel
theorem dX2_init_121 : decode cX2_init 121 = .ok (.aload_n 0, 1) := by decide +kernel
theorem dX2_init_122 : decode cX2_init 122 = .ok (.iconst 4, 1) := by decide +kernel
theorem dX2_init_123 : decode cX2_init 123 = .ok (.iconst 5, 1) := by decide +kernel
theorem dX2_init_124 : decode cX2_init 124 = .ok (.multianewarray 33 2, 4) := by decide +kernel
theorem dX2_init_128 : decode cX2_init 128 = .ok (.putfield 56, 3) := by decide +kernel
theorem dX2_init_131 : decode cX2_init 131 = .ok (.aload_n 0, 1) := by decide +kernel
theorem dX2_init_132 : decode cX2_init 132 = .ok (.iconst 4, 1) := by decide +kernel
theorem dX2_init_133 : decode cX2_init 133 = .ok (.newarray .int, 2) := by decide +kernel
theorem dX2_init_135 : decode cX2_init 135 = .ok (.putfield 59, 3) := by decide +kernel
theorem dX2_init_138 : decode cX2_init 138 = .ok (.aload_n 0, 1) := by decide +kernel
theorem dX2_init_139 : decode cX2_init 139 = .ok (.iconst 4, 1) := by decide +kernel
theorem dX2_init_140 : decode cX2_init 140 = .ok (.newarray .int, 2) := by decide +kernel
theorem dX2_init_142 : decode cX2_init 142 = .ok (.putfield 62, 3) := by decide +kernel
theorem dX2_init_145 : decode cX2_init 145 = .ok (.aload_n 0, 1) := by decide +kernel
theorem dX2_init_146 : decode cX2_init 146 = .ok (.bipush 6, 2) := by decide +kernel
theorem dX2_init_148 : decode cX2_init 148 = .ok (.newarray .int, 2) := by decide +kernel
theorem dX2_init_150 : decode cX2_init 150 = .ok (.putfield 65, 3) := by decide +kernel
theorem dX2_init_153 : decode cX2_init 153 = .ok (.return_, 1) := by decide +kernel
theorem dX2_stands_0 : decode cX2_stands 0 = .ok (.aload_n 0, 1) := by decide +kernel
theorem dX2_stands_1 : decode cX2_stands 1 = .ok (.getfield 9, 3) := by decide +kernel
theorem dX2_stands_4 : decode cX2_stands 4 = .ok (.iconst 0, 1) := by decide +kernel
theorem dX2_stands_5 : decode cX2_stands 5 = .ok (.iaload, 1) := by decide +kernel
theorem dX2_stands_6 : decode cX2_stands 6 = .ok (.ifCond .le 7, 3) := by decide +kernel
theorem dX2_stands_9 : decode cX2_stands 9 = .ok (.iconst 1, 1) := by decide +kernel
theorem dX2_stands_10 : decode cX2_stands 10 = .ok (.goto 4, 3) := by decide +kernel
theorem dX2_stands_13 : decode cX2_stands 13 = .ok (.iconst 0, 1) := by decide +kernel
theorem dX2_stands_14 : decode cX2_stands 14 = .ok (.ireturn, 1) := by decide +kernel
theorem dX2_pathsOf_0 : decode cX2_pathsOf 0 = .ok (.iconst 0, 1) := by decide +kernel
theorem dX2_pathsOf_1 : decode cX2_pathsOf 1 = .ok (.istore_n 2, 1) := by decide +kernel
theorem dX2_pathsOf_2 : decode cX2_pathsOf 2 = .ok (.iconst 0, 1) := by decide +kernel
theorem dX2_pathsOf_3 : decode cX2_pathsOf 3 = .ok (.istore_n 3, 1) := by decide +kernel
theorem dX2_pathsOf_4 : decode cX2_pathsOf 4 = .ok (.iload_n 3, 1) := by decide +kernel
theorem dX2_pathsOf_5 : decode cX2_pathsOf 5 = .ok (.aload_n 0, 1) := by decide +kernel
theorem dX2_pathsOf_6 : decode cX2_pathsOf 6 = .ok (.getfield 9, 3) := by decide +kernel
theorem dX2_pathsOf_9 : decode cX2_pathsOf 9 = .ok (.iconst 4, 1) := by decide +kernel
theorem dX2_pathsOf_10 : decode cX2_pathsOf 10 = .ok (.iaload, 1) := by decide +kernel
theorem dX2_pathsOf_11 : decode cX2_pathsOf 11 = .ok (.if_icmp .ge 23, 3) := by decide +kernel
theorem dX2_pathsOf_14 : decode cX2_pathsOf 14 = .ok (.aload_n 0, 1) := by decide +kernel
theorem dX2_pathsOf_15 : decode cX2_pathsOf 15 = .ok (.getfield 35, 3) := by decide +kernel
theorem dX2_pathsOf_18 : decode cX2_pathsOf 18 = .ok (.iload_n 1, 1) := by decide +kernel
theorem dX2_pathsOf_19 : decode cX2_pathsOf 19 = .ok (.aaload, 1) := by decide +kernel
theorem dX2_pathsOf_20 : decode cX2_pathsOf 20 = .ok (.iload_n 3, 1) := by decide +kernel
theorem dX2_pathsOf_21 : decode cX2_pathsOf 21 = .ok (.iaload, 1) := by decide +kernel
theorem dX2_pathsOf_22 : decode cX2_pathsOf 22 = .ok (.ifCond .le 6, 3) := by decide +kernel
theorem dX2_pathsOf_25 : decode cX2_pathsOf 25 = .ok (.iinc 2 1, 3) := by decide +kernel
theorem dX2_pathsOf_28 : decode cX2_pathsOf 28 = .ok (.iinc 3 1, 3) := by decide +kernel
theorem dX2_pathsOf_31 : decode cX2_pathsOf 31 = .ok (.goto (-27), 3) := by decide +kernel
theorem dX2_pathsOf_34 : decode cX2_pathsOf 34 = .ok (.iload_n 2, 1) := by decide +kernel
theorem dX2_pathsOf_35 : decode cX2_pathsOf 35 = .ok (.ireturn, 1) := by decide +kernel
theorem dX2_skillAt_0 : decode cX2_skillAt 0 = .ok (.aload_n 2, 1) := by decide +kernel
theorem dX2_skillAt_1 : decode cX2_skillAt 1 = .ok (.iload_n 1, 1) := by decide +kernel
theorem dX2_skillAt_2 : decode cX2_skillAt 2 = .ok (.iaload, 1) := by decide +kernel
theorem dX2_skillAt_3 : decode cX2_skillAt 3 = .ok (.istore_n 3, 1) := by decide +kernel
theorem dX2_skillAt_4 : decode cX2_skillAt 4 = .ok (.iload_n 3, 1) := by decide +kernel
theorem dX2_skillAt_5 : decode cX2_skillAt 5 = .ok (.ifCond .lt 17, 3) := by decide +kernel
theorem dX2_skillAt_8 : decode cX2_skillAt 8 = .ok (.iload_n 3, 1) := by decide +kernel
theorem dX2_skillAt_9 : decode cX2_skillAt 9 = .ok (.iconst 4, 1) := by decide +kernel
theorem dX2_skillAt_10 : decode cX2_skillAt 10 = .ok (.if_icmp .ge 12, 3) := by decide +kernel
theorem dX2_skillAt_13 : decode cX2_skillAt 13 = .ok (.aload_n 0, 1) := by decide +kernel
theorem dX2_skillAt_14 : decode cX2_skillAt 14 = .ok (.getfield 24, 3) := by decide +kernel
theorem dX2_skillAt_17 : decode cX2_skillAt 17 = .ok (.iload_n 3, 1) := by decide +kernel
theorem dX2_skillAt_18 : decode cX2_skillAt 18 = .ok (.iaload, 1) := by decide +kernel
theorem dX2_skillAt_19 : decode cX2_skillAt 19 = .ok (.goto 4, 3) := by decide +kernel
theorem dX2_skillAt_22 : decode cX2_skillAt 22 = .ok (.iconst 0, 1) := by decide +kernel
theorem dX2_skillAt_23 : decode cX2_skillAt 23 = .ok (.ireturn, 1) := by decide +kernel
theorem dX2_clear_0 : decode cX2_clear 0 = .ok (.iconst 0, 1) := by decide +kernel
theorem dX2_clear_1 : decode cX2_clear 1 = .ok (.istore_n 1, 1) := by decide +kernel
theorem dX2_clear_2 : decode cX2_clear 2 = .ok (.iload_n 1, 1) := by decide +kernel
theorem dX2_clear_3 : decode cX2_clear 3 = .ok (.bipush 12, 2) := by decide +kernel
theorem dX2_clear_5 : decode cX2_clear 5 = .ok (.if_icmp .ge 16, 3) := by decide +kernel
theorem dX2_clear_8 : decode cX2_clear 8 = .ok (.aload_n 0, 1) := by decide +kernel
theorem dX2_clear_9 : decode cX2_clear 9 = .ok (.getfield 9, 3) := by decide +kernel
theorem dX2_clear_12 : decode cX2_clear 12 = .ok (.iload_n 1, 1) := by decide +kernel
theorem dX2_clear_13 : decode cX2_clear 13 = .ok (.iconst 0, 1) := by decide +kernel
theorem dX2_clear_14 : decode cX2_clear 14 = .ok (.iastore, 1) := by decide +kernel
theorem dX2_clear_15 : decode cX2_clear 15 = .ok (.iinc 1 1, 3) := by decide +kernel
theorem dX2_clear_18 : decode cX2_clear 18 = .ok (.goto (-16), 3) := by decide +kernel
theorem dX2_clear_21 : decode cX2_clear 21 = .ok (.iconst 0, 1) := by decide +kernel
theorem dX2_clear_22 : decode cX2_clear 22 = .ok (.istore_n 1, 1) := by decide +kernel
theorem dX2_clear_23 : decode cX2_clear 23 = .ok (.iload_n 1, 1) := by decide +kernel
theorem dX2_clear_24 : decode cX2_clear 24 = .ok (.iconst 4, 1) := by decide +kernel
theorem dX2_clear_25 : decode cX2_clear 25 = .ok (.if_icmp .ge 16, 3) := by decide +kernel
theorem dX2_clear_28 : decode cX2_clear 28 = .ok (.aload_n 0, 1) := by decide +kernel
theorem dX2_clear_29 : decode cX2_clear 29 = .ok (.getfield 53, 3) := by decide +kernel
theorem dX2_clear_32 : decode cX2_clear 32 = .ok (.iload_n 1, 1) := by decide +kernel
theorem dX2_clear_33 : decode cX2_clear 33 = .ok (.iconst 0, 1) := by decide +kernel
theorem dX2_clear_34 : decode cX2_clear 34 = .ok (.iastore, 1) := by decide +kernel
theorem dX2_clear_35 : decode cX2_clear 35 = .ok (.iinc 1 1, 3) := by decide +kernel
theorem dX2_clear_38 : decode cX2_clear 38 = .ok (.goto (-15), 3) := by decide +kernel
theorem dX2_clear_41 : decode cX2_clear 41 = .ok (.iconst 0, 1) := by decide +kernel
theorem dX2_clear_42 : decode cX2_clear 42 = .ok (.istore_n 1, 1) := by decide +kernel
theorem dX2_clear_43 : decode cX2_clear 43 = .ok (.iload_n 1, 1) := by decide +kernel
theorem dX2_clear_44 : decode cX2_clear 44 = .ok (.bipush 6, 2) := by decide +kernel
theorem dX2_clear_46 : decode cX2_clear 46 = .ok (.if_icmp .ge 16, 3) := by decide +kernel
theorem dX2_clear_49 : decode cX2_clear 49 = .ok (.aload_n 0, 1) := by decide +kernel
theorem dX2_clear_50 : decode cX2_clear 50 = .ok (.getfield 65, 3) := by decide +kernel
theorem dX2_clear_53 : decode cX2_clear 53 = .ok (.iload_n 1, 1) := by decide +kernel
theorem dX2_clear_54 : decode cX2_clear 54 = .ok (.iconst (-1), 1) := by decide +kernel
theorem dX2_clear_55 : decode cX2_clear 55 = .ok (.iastore, 1) := by decide +kernel
theorem dX2_clear_56 : decode cX2_clear 56 = .ok (.iinc 1 1, 3) := by decide +kernel
theorem dX2_clear_59 : decode cX2_clear 59 = .ok (.goto (-16), 3) := by decide +kernel
theorem dX2_clear_62 : decode cX2_clear 62 = .ok (.aload_n 0, 1) := by decide +kernel
theorem dX2_clear_63 : decode cX2_clear 63 = .ok (.getfield 35, 3) := by decide +kernel
theorem dX2_clear_66 : decode cX2_clear 66 = .ok (.invokestatic 68, 3) := by decide +kernel
theorem dX2_clear_69 : decode cX2_clear 69 = .ok (.aload_n 0, 1) := by decide +kernel
theorem dX2_clear_70 : decode cX2_clear 70 = .ok (.getfield 38, 3) := by decide +kernel
theorem dX2_clear_73 : decode cX2_clear 73 = .ok (.invokestatic 68, 3) := by decide +kernel
theorem dX2_clear_76 : decode cX2_clear 76 = .ok (.aload_n 0, 1) := by decide +kernel
theorem dX2_clear_77 : decode cX2_clear 77 = .ok (.getfield 50, 3) := by decide +kernel
theorem dX2_clear_80 : decode cX2_clear 80 = .ok (.invokestatic 68, 3) := by decide +kernel
theorem dX2_clear_83 : decode cX2_clear 83 = .ok (.return_, 1) := by decide +kernel
theorem dX2_copy_0 : decode cX2_copy 0 = .ok (.aload_n 1, 1) := by decide +kernel
theorem dX2_copy_1 : decode cX2_copy 1 = .ok (.getfield 9, 3) := by decide +kernel
theorem dX2_copy_4 : decode cX2_copy 4 = .ok (.aload_n 0, 1) := by decide +kernel
theorem dX2_copy_5 : decode cX2_copy 5 = .ok (.getfield 9, 3) := by decide +kernel
theorem dX2_copy_8 : decode cX2_copy 8 = .ok (.invokestatic 72, 3) := by decide +kernel
theorem dX2_copy_11 : decode cX2_copy 11 = .ok (.aload_n 1, 1) := by decide +kernel
theorem dX2_copy_12 : decode cX2_copy 12 = .ok (.getfield 15, 3) := by decide +kernel
theorem dX2_copy_15 : decode cX2_copy 15 = .ok (.aload_n 0, 1) := by decide +kernel
theorem dX2_copy_16 : decode cX2_copy 16 = .ok (.getfield 15, 3) := by decide +kernel
theorem dX2_copy_19 : decode cX2_copy 19 = .ok (.invokestatic 72, 3) := by decide +kernel
theorem dX2_copy_22 : decode cX2_copy 22 = .ok (.aload_n 1, 1) := by decide +kernel
theorem dX2_copy_23 : decode cX2_copy 23 = .ok (.getfield 18, 3) := by decide +kernel
theorem dX2_copy_26 : decode cX2_copy 26 = .ok (.aload_n 0, 1) := by decide +kernel
theorem dX2_copy_27 : decode cX2_copy 27 = .ok (.getfield 18, 3) := by decide +kernel
theorem dX2_copy_30 : decode cX2_copy 30 = .ok (.invokestatic 72, 3) := by decide +kernel
theorem dX2_copy_33 : decode cX2_copy 33 = .ok (.aload_n 1, 1) := by decide +kernel
theorem dX2_copy_34 : decode cX2_copy 34 = .ok (.getfield 21, 3) := by decide +kernel
theorem dX2_copy_37 : decode cX2_copy 37 = .ok (.aload_n 0, 1) := by decide +kernel
theorem dX2_copy_38 : decode cX2_copy 38 = .ok (.getfield 21, 3) := by decide +kernel
theorem dX2_copy_41 : decode cX2_copy 41 = .ok (.invokestatic 72, 3) := by decide +kernel
theorem dX2_copy_44 : decode cX2_copy 44 = .ok (.aload_n 1, 1) := by decide +kernel
theorem dX2_copy_45 : decode cX2_copy 45 = .ok (.getfield 24, 3) := by decide +kernel
theorem dX2_copy_48 : decode cX2_copy 48 = .ok (.aload_n 0, 1) := by decide +kernel
theorem dX2_copy_49 : decode cX2_copy 49 = .ok (.getfield 24, 3) := by decide +kernel
theorem dX2_copy_52 : decode cX2_copy 52 = .ok (.invokestatic 72, 3) := by decide +kernel
theorem dX2_copy_55 : decode cX2_copy 55 = .ok (.aload_n 1, 1) := by decide +kernel
theorem dX2_copy_56 : decode cX2_copy 56 = .ok (.getfield 27, 3) := by decide +kernel
theorem dX2_copy_59 : decode cX2_copy 59 = .ok (.aload_n 0, 1) := by decide +kernel
theorem dX2_copy_60 : decode cX2_copy 60 = .ok (.getfield 27, 3) := by decide +kernel
theorem dX2_copy_63 : decode cX2_copy 63 = .ok (.invokestatic 72, 3) := by decide +kernel
theorem dX2_copy_66 : decode cX2_copy 66 = .ok (.aload_n 1, 1) := by decide +kernel
theorem dX2_copy_67 : decode cX2_copy 67 = .ok (.getfield 30, 3) := by decide +kernel
theorem dX2_copy_70 : decode cX2_copy 70 = .ok (.aload_n 0, 1) := by decide +kernel
theorem dX2_copy_71 : decode cX2_copy 71 = .ok (.getfield 30, 3) := by decide +kernel
theorem dX2_copy_74 : decode cX2_copy 74 = .ok (.invokestatic 72, 3) := by decide +kernel
theorem dX2_copy_77 : decode cX2_copy 77 = .ok (.aload_n 1, 1) := by decide +kernel
theorem dX2_copy_78 : decode cX2_copy 78 = .ok (.getfield 35, 3) := by decide +kernel
theorem dX2_copy_81 : decode cX2_copy 81 = .ok (.aload_n 0, 1) := by decide +kernel
theorem dX2_copy_82 : decode cX2_copy 82 = .ok (.getfield 35, 3) := by decide +kernel
theorem dX2_copy_85 : decode cX2_copy 85 = .ok (.invokestatic 76, 3) := by decide +kernel
theorem dX2_copy_88 : decode cX2_copy 88 = .ok (.aload_n 1, 1) := by decide +kernel
theorem dX2_copy_89 : decode cX2_copy 89 = .ok (.getfield 38, 3) := by decide +kernel
theorem dX2_copy_92 : decode cX2_copy 92 = .ok (.aload_n 0, 1) := by decide +kernel
theorem dX2_copy_93 : decode cX2_copy 93 = .ok (.getfield 38, 3) := by decide +kernel
theorem dX2_copy_96 : decode cX2_copy 96 = .ok (.invokestatic 76, 3) := by decide +kernel
theorem dX2_copy_99 : decode cX2_copy 99 = .ok (.aload_n 1, 1) := by decide +kernel
theorem dX2_copy_100 : decode cX2_copy 100 = .ok (.getfield 41, 3) := by decide +kernel
theorem dX2_copy_103 : decode cX2_copy 103 = .ok (.aload_n 0, 1) := by decide +kernel
theorem dX2_copy_104 : decode cX2_copy 104 = .ok (.getfield 41, 3) := by decide +kernel
theorem dX2_copy_107 : decode cX2_copy 107 = .ok (.invokestatic 72, 3) := by decide +kernel
theorem dX2_copy_110 : decode cX2_copy 110 = .ok (.aload_n 1, 1) := by decide +kernel
theorem dX2_copy_111 : decode cX2_copy 111 = .ok (.getfield 44, 3) := by decide +kernel
theorem dX2_copy_114 : decode cX2_copy 114 = .ok (.aload_n 0, 1) := by decide +kernel
theorem dX2_copy_115 : decode cX2_copy 115 = .ok (.getfield 44, 3) := by decide +kernel
theorem dX2_copy_118 : decode cX2_copy 118 = .ok (.invokestatic 72, 3) := by decide +kernel
theorem dX2_copy_121 : decode cX2_copy 121 = .ok (.aload_n 1, 1) := by decide +kernel
theorem dX2_copy_122 : decode cX2_copy 122 = .ok (.getfield 47, 3) := by decide +kernel
theorem dX2_copy_125 : decode cX2_copy 125 = .ok (.aload_n 0, 1) := by decide +kernel
theorem dX2_copy_126 : decode cX2_copy 126 = .ok (.getfield 47, 3) := by decide +kernel
theorem dX2_copy_129 : decode cX2_copy 129 = .ok (.invokestatic 72, 3) := by decide +kernel
theorem dX2_copy_132 : decode cX2_copy 132 = .ok (.aload_n 1, 1) := by decide +kernel
theorem dX2_copy_133 : decode cX2_copy 133 = .ok (.getfield 50, 3) := by decide +kernel
theorem dX2_copy_136 : decode cX2_copy 136 = .ok (.aload_n 0, 1) := by decide +kernel
theorem dX2_copy_137 : decode cX2_copy 137 = .ok (.getfield 50, 3) := by decide +kernel
theorem dX2_copy_140 : decode cX2_copy 140 = .ok (.invokestatic 76, 3) := by decide +kernel
theorem dX2_copy_143 : decode cX2_copy 143 = .ok (.aload_n 1, 1) := by decide +kernel
theorem dX2_copy_144 : decode cX2_copy 144 = .ok (.getfield 53, 3) := by decide +kernel
theorem dX2_copy_147 : decode cX2_copy 147 = .ok (.aload_n 0, 1) := by decide +kernel
theorem dX2_copy_148 : decode cX2_copy 148 = .ok (.getfield 53, 3) := by decide +kernel
theorem dX2_copy_151 : decode cX2_copy 151 = .ok (.invokestatic 72, 3) := by decide +kernel
theorem dX2_copy_154 : decode cX2_copy 154 = .ok (.aload_n 1, 1) := by decide +kernel
theorem dX2_copy_155 : decode cX2_copy 155 = .ok (.getfield 56, 3) := by decide +kernel
theorem dX2_copy_158 : decode cX2_copy 158 = .ok (.aload_n 0, 1) := by decide +kernel
theorem dX2_copy_159 : decode cX2_copy 159 = .ok (.getfield 56, 3) := by decide +kernel
theorem dX2_copy_162 : decode cX2_copy 162 = .ok (.invokestatic 76, 3) := by decide +kernel
theorem dX2_copy_165 : decode cX2_copy 165 = .ok (.aload_n 1, 1) := by decide +kernel
theorem dX2_copy_166 : decode cX2_copy 166 = .ok (.getfield 59, 3) := by decide +kernel
theorem dX2_copy_169 : decode cX2_copy 169 = .ok (.aload_n 0, 1) := by decide +kernel
theorem dX2_copy_170 : decode cX2_copy 170 = .ok (.getfield 59, 3) := by decide +kernel
theorem dX2_copy_173 : decode cX2_copy 173 = .ok (.invokestatic 72, 3) := by decide +kernel
theorem dX2_copy_176 : decode cX2_copy 176 = .ok (.aload_n 1, 1) := by decide +kernel
theorem dX2_copy_177 : decode cX2_copy 177 = .ok (.getfield 62, 3) := by decide +kernel
theorem dX2_copy_180 : decode cX2_copy 180 = .ok (.aload_n 0, 1) := by decide +kernel
theorem dX2_copy_181 : decode cX2_copy 181 = .ok (.getfield 62, 3) := by decide +kernel
theorem dX2_copy_184 : decode cX2_copy 184 = .ok (.invokestatic 72, 3) := by decide +kernel
theorem dX2_copy_187 : decode cX2_copy 187 = .ok (.aload_n 1, 1) := by decide +kernel
theorem dX2_copy_188 : decode cX2_copy 188 = .ok (.getfield 65, 3) := by decide +kernel
theorem dX2_copy_191 : decode cX2_copy 191 = .ok (.aload_n 0, 1) := by decide +kernel
theorem dX2_copy_192 : decode cX2_copy 192 = .ok (.getfield 65, 3) := by decide +kernel
theorem dX2_copy_195 : decode cX2_copy 195 = .ok (.invokestatic 72, 3) := by decide +kernel
theorem dX2_copy_198 : decode cX2_copy 198 = .ok (.return_, 1) := by decide +kernel
theorem dX2_clearRows_0 : decode cX2_clearRows 0 = .ok (.iconst 0, 1) := by decide +kernel
theorem dX2_clearRows_1 : decode cX2_clearRows 1 = .ok (.istore_n 1, 1) := by decide +kernel
theorem dX2_clearRows_2 : decode cX2_clearRows 2 = .ok (.iload_n 1, 1) := by decide +kernel
theorem dX2_clearRows_3 : decode cX2_clearRows 3 = .ok (.aload_n 0, 1) := by decide +kernel
theorem dX2_clearRows_4 : decode cX2_clearRows 4 = .ok (.arraylength, 1) := by decide +kernel
theorem dX2_clearRows_5 : decode cX2_clearRows 5 = .ok (.if_icmp .ge 31, 3) := by decide +kernel
theorem dX2_clearRows_8 : decode cX2_clearRows 8 = .ok (.iconst 0, 1) := by decide +kernel
theorem dX2_clearRows_9 : decode cX2_clearRows 9 = .ok (.istore_n 2, 1) := by decide +kernel
theorem dX2_clearRows_10 : decode cX2_clearRows 10 = .ok (.iload_n 2, 1) := by decide +kernel
theorem dX2_clearRows_11 : decode cX2_clearRows 11 = .ok (.aload_n 0, 1) := by decide +kernel
theorem dX2_clearRows_12 : decode cX2_clearRows 12 = .ok (.iload_n 1, 1) := by decide +kernel
theorem dX2_clearRows_13 : decode cX2_clearRows 13 = .ok (.aaload, 1) := by decide +kernel
theorem dX2_clearRows_14 : decode cX2_clearRows 14 = .ok (.arraylength, 1) := by decide +kernel
theorem dX2_clearRows_15 : decode cX2_clearRows 15 = .ok (.if_icmp .ge 15, 3) := by decide +kernel
theorem dX2_clearRows_18 : decode cX2_clearRows 18 = .ok (.aload_n 0, 1) := by decide +kernel
theorem dX2_clearRows_19 : decode cX2_clearRows 19 = .ok (.iload_n 1, 1) := by decide +kernel
theorem dX2_clearRows_20 : decode cX2_clearRows 20 = .ok (.aaload, 1) := by decide +kernel
theorem dX2_clearRows_21 : decode cX2_clearRows 21 = .ok (.iload_n 2, 1) := by decide +kernel
theorem dX2_clearRows_22 : decode cX2_clearRows 22 = .ok (.iconst 0, 1) := by decide +kernel
theorem dX2_clearRows_23 : decode cX2_clearRows 23 = .ok (.iastore, 1) := by decide +kernel
theorem dX2_clearRows_24 : decode cX2_clearRows 24 = .ok (.iinc 2 1, 3) := by decide +kernel
theorem dX2_clearRows_27 : decode cX2_clearRows 27 = .ok (.goto (-17), 3) := by decide +kernel
theorem dX2_clearRows_30 : decode cX2_clearRows 30 = .ok (.iinc 1 1, 3) := by decide +kernel
theorem dX2_clearRows_33 : decode cX2_clearRows 33 = .ok (.goto (-31), 3) := by decide +kernel
theorem dX2_clearRows_36 : decode cX2_clearRows 36 = .ok (.return_, 1) := by decide +kernel
theorem dX2_copyRows_0 : decode cX2_copyRows 0 = .ok (.iconst 0, 1) := by decide +kernel
theorem dX2_copyRows_1 : decode cX2_copyRows 1 = .ok (.istore_n 2, 1) := by decide +kernel
theorem dX2_copyRows_2 : decode cX2_copyRows 2 = .ok (.iload_n 2, 1) := by decide +kernel
theorem dX2_copyRows_3 : decode cX2_copyRows 3 = .ok (.aload_n 0, 1) := by decide +kernel
theorem dX2_copyRows_4 : decode cX2_copyRows 4 = .ok (.arraylength, 1) := by decide +kernel
theorem dX2_copyRows_5 : decode cX2_copyRows 5 = .ok (.if_icmp .ge 24, 3) := by decide +kernel
theorem dX2_copyRows_8 : decode cX2_copyRows 8 = .ok (.iload_n 2, 1) := by decide +kernel
theorem dX2_copyRows_9 : decode cX2_copyRows 9 = .ok (.aload_n 1, 1) := by decide +kernel
theorem dX2_copyRows_10 : decode cX2_copyRows 10 = .ok (.arraylength, 1) := by decide +kernel
theorem dX2_copyRows_11 : decode cX2_copyRows 11 = .ok (.if_icmp .ge 18, 3) := by decide +kernel
theorem dX2_copyRows_14 : decode cX2_copyRows 14 = .ok (.aload_n 0, 1) := by decide +kernel
theorem dX2_copyRows_15 : decode cX2_copyRows 15 = .ok (.iload_n 2, 1) := by decide +kernel
theorem dX2_copyRows_16 : decode cX2_copyRows 16 = .ok (.aaload, 1) := by decide +kernel
theorem dX2_copyRows_17 : decode cX2_copyRows 17 = .ok (.aload_n 1, 1) := by decide +kernel
theorem dX2_copyRows_18 : decode cX2_copyRows 18 = .ok (.iload_n 2, 1) := by decide +kernel
theorem dX2_copyRows_19 : decode cX2_copyRows 19 = .ok (.aaload, 1) := by decide +kernel
theorem dX2_copyRows_20 : decode cX2_copyRows 20 = .ok (.invokestatic 72, 3) := by decide +kernel
theorem dX2_copyRows_23 : decode cX2_copyRows 23 = .ok (.iinc 2 1, 3) := by decide +kernel
theorem dX2_copyRows_26 : decode cX2_copyRows 26 = .ok (.goto (-24), 3) := by decide +kernel
theorem dX2_copyRows_29 : decode cX2_copyRows 29 = .ok (.return_, 1) := by decide +kernel
theorem dX2_copyRow_0 : decode cX2_copyRow 0 = .ok (.aload_n 0, 1) := by decide +kernel
theorem dX2_copyRow_1 : decode cX2_copyRow 1 = .ok (.iconst 0, 1) := by decide +kernel
theorem dX2_copyRow_2 : decode cX2_copyRow 2 = .ok (.aload_n 1, 1) := by decide +kernel
theorem dX2_copyRow_3 : decode cX2_copyRow 3 = .ok (.iconst 0, 1) := by decide +kernel
theorem dX2_copyRow_4 : decode cX2_copyRow 4 = .ok (.aload_n 0, 1) := by decide +kernel
theorem dX2_copyRow_5 : decode cX2_copyRow 5 = .ok (.arraylength, 1) := by decide +kernel
theorem dX2_copyRow_6 : decode cX2_copyRow 6 = .ok (.aload_n 1, 1) := by decide +kernel
theorem dX2_copyRow_7 : decode cX2_copyRow 7 = .ok (.arraylength, 1) := by decide +kernel
theorem dX2_copyRow_8 : decode cX2_copyRow 8 = .ok (.invokestatic 80, 3) := by decide +kernel
theorem dX2_copyRow_11 : decode cX2_copyRow 11 = .ok (.invokestatic 86, 3) := by decide +kernel
theorem dX2_copyRow_14 : decode cX2_copyRow 14 = .ok (.return_, 1) := by decide +kernel
theorem dX3_init_0 : decode cX3_init 0 = .ok (.aload_n 0, 1) := by decide +kernel
theorem dX3_init_1 : decode cX3_init 1 = .ok (.invokespecial 3, 3) := by decide +kernel
theorem dX3_init_4 : decode cX3_init 4 = .ok (.aload_n 0, 1) := by decide +kernel
theorem dX3_init_5 : decode cX3_init 5 = .ok (.bipush 65, 2) := by decide +kernel
theorem dX3_init_7 : decode cX3_init 7 = .ok (.bipush 6, 2) := by decide +kernel
theorem dX3_init_9 : decode cX3_init 9 = .ok (.multianewarray 11 2, 4) := by decide +kernel
theorem dX3_init_13 : decode cX3_init 13 = .ok (.putfield 13, 3) := by decide +kernel
theorem dX3_init_16 : decode cX3_init 16 = .ok (.aload_n 0, 1) := by decide +kernel
theorem dX3_init_17 : decode cX3_init 17 = .ok (.aload_n 1, 1) := by decide +kernel
theorem dX3_init_18 : decode cX3_init 18 = .ok (.putfield 18, 3) := by decide +kernel
theorem dX3_init_21 : decode cX3_init 21 = .ok (.aload_n 0, 1) := by decide +kernel
theorem dX3_init_22 : decode cX3_init 22 = .ok (.aload_n 2, 1) := by decide +kernel
theorem dX3_init_23 : decode cX3_init 23 = .ok (.putfield 22, 3) := by decide +kernel
theorem dX3_init_26 : decode cX3_init 26 = .ok (.aload_n 0, 1) := by decide +kernel
theorem dX3_init_27 : decode cX3_init 27 = .ok (.aload_n 3, 1) := by decide +kernel
theorem dX3_init_28 : decode cX3_init 28 = .ok (.putfield 26, 3) := by decide +kernel
theorem dX3_init_31 : decode cX3_init 31 = .ok (.return_, 1) := by decide +kernel
theorem dX3_play_0 : decode cX3_play 0 = .ok (.aload_n 0, 1) := by decide +kernel
theorem dX3_play_1 : decode cX3_play 1 = .ok (.getfield 26, 3) := by decide +kernel
theorem dX3_play_4 : decode cX3_play 4 = .ok (.aload_n 1, 1) := by decide +kernel
theorem dX3_play_5 : decode cX3_play 5 = .ok (.iload_n 2, 1) := by decide +kernel
theorem dX3_play_6 : decode cX3_play 6 = .ok (.iload_n 3, 1) := by decide +kernel
theorem dX3_play_7 : decode cX3_play 7 = .ok (.invokevirtual 30, 3) := by decide +kernel
theorem dX3_play_10 : decode cX3_play 10 = .ok (.iconst 0, 1) := by decide +kernel
theorem dX3_play_11 : decode cX3_play 11 = .ok (.istore 4, 2) := by decide +kernel
theorem dX3_play_13 : decode cX3_play 13 = .ok (.iload 4, 2) := by decide +kernel
theorem dX3_play_15 : decode cX3_play 15 = .ok (.aload_n 0, 1) := by decide +kernel
theorem dX3_play_16 : decode cX3_play 16 = .ok (.getfield 26, 3) := by decide +kernel
theorem dX3_play_19 : decode cX3_play 19 = .ok (.getfield 34, 3) := by decide +kernel
theorem dX3_play_22 : decode cX3_play 22 = .ok (.if_icmp .ge 17, 3) := by decide +kernel
theorem dX3_play_25 : decode cX3_play 25 = .ok (.aload_n 0, 1) := by decide +kernel
theorem dX3_play_26 : decode cX3_play 26 = .ok (.iload 4, 2) := by decide +kernel
theorem dX3_play_28 : decode cX3_play 28 = .ok (.aload_n 1, 1) := by decide +kernel
theorem dX3_play_29 : decode cX3_play 29 = .ok (.iload_n 2, 1) := by decide +kernel
theorem dX3_play_30 : decode cX3_play 30 = .ok (.invokevirtual 38, 3) := by decide +kernel
theorem dX3_play_33 : decode cX3_play 33 = .ok (.iinc 4 1, 3) := by decide +kernel
theorem dX3_play_36 : decode cX3_play 36 = .ok (.goto (-23), 3) := by decide +kernel
theorem dX3_play_39 : decode cX3_play 39 = .ok (.aload_n 0, 1) := by decide +kernel
theorem dX3_play_40 : decode cX3_play 40 = .ok (.iconst 0, 1) := by decide +kernel
theorem dX3_play_41 : decode cX3_play 41 = .ok (.putfield 42, 3) := by decide +kernel
theorem dX3_play_44 : decode cX3_play 44 = .ok (.aload_n 0, 1) := by decide +kernel
theorem dX3_play_45 : decode cX3_play 45 = .ok (.iconst 0, 1) := by decide +kernel
theorem dX3_play_46 : decode cX3_play 46 = .ok (.putfield 45, 3) := by decide +kernel
theorem dX3_play_49 : decode cX3_play 49 = .ok (.iconst 0, 1) := by decide +kernel
theorem dX3_play_50 : decode cX3_play 50 = .ok (.istore 4, 2) := by decide +kernel
theorem dX3_play_52 : decode cX3_play 52 = .ok (.iload 4, 2) := by decide +kernel
theorem dX3_play_54 : decode cX3_play 54 = .ok (.aload_n 0, 1) := by decide +kernel
theorem dX3_play_55 : decode cX3_play 55 = .ok (.getfield 26, 3) := by decide +kernel
theorem dX3_play_58 : decode cX3_play 58 = .ok (.getfield 34, 3) := by decide +kernel
theorem dX3_play_61 : decode cX3_play 61 = .ok (.if_icmp .ge 70, 3) := by decide +kernel
theorem dX3_play_64 : decode cX3_play 64 = .ok (.iconst 0, 1) := by decide +kernel
theorem dX3_play_65 : decode cX3_play 65 = .ok (.istore 5, 2) := by decide +kernel
theorem dX3_play_67 : decode cX3_play 67 = .ok (.iload 5, 2) := by decide +kernel
theorem dX3_play_69 : decode cX3_play 69 = .ok (.aload_n 0, 1) := by decide +kernel
theorem dX3_play_70 : decode cX3_play 70 = .ok (.getfield 18, 3) := by decide +kernel
theorem dX3_play_73 : decode cX3_play 73 = .ok (.getfield 48, 3) := by decide +kernel
theorem dX3_play_76 : decode cX3_play 76 = .ok (.iconst 4, 1) := by decide +kernel
theorem dX3_play_77 : decode cX3_play 77 = .ok (.iaload, 1) := by decide +kernel
theorem dX3_play_78 : decode cX3_play 78 = .ok (.if_icmp .ge 47, 3) := by decide +kernel
theorem dX3_play_81 : decode cX3_play 81 = .ok (.iload 5, 2) := by decide +kernel
theorem dX3_play_83 : decode cX3_play 83 = .ok (.aload_n 1, 1) := by decide +kernel
theorem dX3_play_84 : decode cX3_play 84 = .ok (.getfield 54, 3) := by decide +kernel
theorem dX3_play_87 : decode cX3_play 87 = .ok (.if_icmp .eq 32, 3) := by decide +kernel
theorem dX3_play_90 : decode cX3_play 90 = .ok (.aload_n 0, 1) := by decide +kernel
theorem dX3_play_91 : decode cX3_play 91 = .ok (.iload 4, 2) := by decide +kernel
theorem dX3_play_93 : decode cX3_play 93 = .ok (.iload 5, 2) := by decide +kernel
theorem dX3_play_95 : decode cX3_play 95 = .ok (.aload_n 1, 1) := by decide +kernel
theorem dX3_play_96 : decode cX3_play 96 = .ok (.getfield 54, 3) := by decide +kernel
theorem dX3_play_99 : decode cX3_play 99 = .ok (.invokevirtual 59, 3) := by decide +kernel
theorem dX3_play_102 : decode cX3_play 102 = .ok (.ifCond .eq 17, 3) := by decide +kernel
theorem dX3_play_105 : decode cX3_play 105 = .ok (.aload_n 0, 1) := by decide +kernel
theorem dX3_play_106 : decode cX3_play 106 = .ok (.aload_n 0, 1) := by decide +kernel
theorem dX3_play_107 : decode cX3_play 107 = .ok (.getfield 13, 3) := by decide +kernel
theorem dX3_play_110 : decode cX3_play 110 = .ok (.iload 4, 2) := by decide +kernel
theorem dX3_play_112 : decode cX3_play 112 = .ok (.aaload, 1) := by decide +kernel
theorem dX3_play_113 : decode cX3_play 113 = .ok (.iload 5, 2) := by decide +kernel
theorem dX3_play_115 : decode cX3_play 115 = .ok (.iaload, 1) := by decide +kernel
theorem dX3_play_116 : decode cX3_play 116 = .ok (.invokevirtual 63, 3) := by decide +kernel
theorem dX3_play_119 : decode cX3_play 119 = .ok (.iinc 5 1, 3) := by decide +kernel
theorem dX3_play_122 : decode cX3_play 122 = .ok (.goto (-55), 3) := by decide +kernel
theorem dX3_play_125 : decode cX3_play 125 = .ok (.iinc 4 1, 3) := by decide +kernel
theorem dX3_play_128 : decode cX3_play 128 = .ok (.goto (-76), 3) := by decide +kernel
theorem dX3_play_131 : decode cX3_play 131 = .ok (.aload_n 0, 1) := by decide +kernel
theorem dX3_play_132 : decode cX3_play 132 = .ok (.getfield 26, 3) := by decide +kernel
theorem dX3_play_135 : decode cX3_play 135 = .ok (.getfield 34, 3) := by decide +kernel
theorem dX3_play_138 : decode cX3_play 138 = .ok (.ifCond .le 7, 3) := by decide +kernel
theorem dX3_play_141 : decode cX3_play 141 = .ok (.iconst 1, 1) := by decide +kernel
theorem dX3_play_142 : decode cX3_play 142 = .ok (.goto 4, 3) := by decide +kernel
theorem dX3_play_145 : decode cX3_play 145 = .ok (.iconst 0, 1) := by decide +kernel
theorem dX3_play_146 : decode cX3_play 146 = .ok (.ireturn, 1) := by decide +kernel
theorem dX3_reckon_0 : decode cX3_reckon 0 = .ok (.iconst 0, 1) := by decide +kernel
theorem dX3_reckon_1 : decode cX3_reckon 1 = .ok (.istore 4, 2) := by decide +kernel
theorem dX3_reckon_3 : decode cX3_reckon 3 = .ok (.iload 4, 2) := by decide +kernel
theorem dX3_reckon_5 : decode cX3_reckon 5 = .ok (.bipush 6, 2) := by decide +kernel
theorem dX3_reckon_7 : decode cX3_reckon 7 = .ok (.if_icmp .ge 19, 3) := by decide +kernel
theorem dX3_reckon_10 : decode cX3_reckon 10 = .ok (.aload_n 0, 1) := by decide +kernel
theorem dX3_reckon_11 : decode cX3_reckon 11 = .ok (.getfield 13, 3) := by decide +kernel
theorem dX3_reckon_14 : decode cX3_reckon 14 = .ok (.iload_n 1, 1) := by decide +kernel
theorem dX3_reckon_15 : decode cX3_reckon 15 = .ok (.aaload, 1) := by decide +kernel
theorem dX3_reckon_16 : decode cX3_reckon 16 = .ok (.iload 4, 2) := by decide +kernel
theorem dX3_reckon_18 : decode cX3_reckon 18 = .ok (.iconst 0, 1) := by decide +kernel
theorem dX3_reckon_19 : decode cX3_reckon 19 = .ok (.iastore, 1) := by decide +kernel
theorem dX3_reckon_20 : decode cX3_reckon 20 = .ok (.iinc 4 1, 3) := by decide +kernel
theorem dX3_reckon_23 : decode cX3_reckon 23 = .ok (.goto (-20), 3) := by decide +kernel
theorem dX3_reckon_26 : decode cX3_reckon 26 = .ok (.iconst 1, 1) := by decide +kernel
theorem dX3_reckon_27 : decode cX3_reckon 27 = .ok (.istore 4, 2) := by decide +kernel
theorem dX3_reckon_29 : decode cX3_reckon 29 = .ok (.iload 4, 2) := by decide +kernel
theorem dX3_reckon_31 : decode cX3_reckon 31 = .ok (.aload_n 0, 1) := by decide +kernel
theorem dX3_reckon_32 : decode cX3_reckon 32 = .ok (.getfield 26, 3) := by decide +kernel
theorem dX3_reckon_35 : decode cX3_reckon 35 = .ok (.getfield 67, 3) := by decide +kernel
theorem dX3_reckon_38 : decode cX3_reckon 38 = .ok (.iload_n 1, 1) := by decide +kernel
theorem dX3_reckon_39 : decode cX3_reckon 39 = .ok (.iaload, 1) := by decide +kernel
theorem dX3_reckon_40 : decode cX3_reckon 40 = .ok (.if_icmp .ge 67, 3) := by decide +kernel
theorem dX3_reckon_43 : decode cX3_reckon 43 = .ok (.aload_n 0, 1) := by decide +kernel
theorem dX3_reckon_44 : decode cX3_reckon 44 = .ok (.getfield 26, 3) := by decide +kernel
theorem dX3_reckon_47 : decode cX3_reckon 47 = .ok (.getfield 70, 3) := by decide +kernel
theorem dX3_reckon_50 : decode cX3_reckon 50 = .ok (.iload_n 1, 1) := by decide +kernel
theorem dX3_reckon_51 : decode cX3_reckon 51 = .ok (.aaload, 1) := by decide +kernel
theorem dX3_reckon_52 : decode cX3_reckon 52 = .ok (.iload 4, 2) := by decide +kernel
theorem dX3_reckon_54 : decode cX3_reckon 54 = .ok (.iaload, 1) := by decide +kernel
theorem dX3_reckon_55 : decode cX3_reckon 55 = .ok (.istore 5, 2) := by decide +kernel
theorem dX3_reckon_57 : decode cX3_reckon 57 = .ok (.aload_n 0, 1) := by decide +kernel
theorem dX3_reckon_58 : decode cX3_reckon 58 = .ok (.getfield 22, 3) := by decide +kernel
theorem dX3_reckon_61 : decode cX3_reckon 61 = .ok (.aload_n 2, 1) := by decide +kernel
theorem dX3_reckon_62 : decode cX3_reckon 62 = .ok (.getfield 73, 3) := by decide +kernel
theorem dX3_reckon_65 : decode cX3_reckon 65 = .ok (.aload_n 0, 1) := by decide +kernel
theorem dX3_reckon_66 : decode cX3_reckon 66 = .ok (.getfield 26, 3) := by decide +kernel
theorem dX3_reckon_69 : decode cX3_reckon 69 = .ok (.getfield 76, 3) := by decide +kernel
theorem dX3_reckon_72 : decode cX3_reckon 72 = .ok (.iload_n 1, 1) := by decide +kernel
theorem dX3_reckon_73 : decode cX3_reckon 73 = .ok (.aaload, 1) := by decide +kernel
theorem dX3_reckon_74 : decode cX3_reckon 74 = .ok (.iload 4, 2) := by decide +kernel
theorem dX3_reckon_76 : decode cX3_reckon 76 = .ok (.iaload, 1) := by decide +kernel
theorem dX3_reckon_77 : decode cX3_reckon 77 = .ok (.iconst 0, 1) := by decide +kernel
theorem dX3_reckon_78 : decode cX3_reckon 78 = .ok (.invokevirtual 79, 3) := by decide +kernel
theorem dX3_reckon_81 : decode cX3_reckon 81 = .ok (.aload_n 0, 1) := by decide +kernel
theorem dX3_reckon_82 : decode cX3_reckon 82 = .ok (.getfield 13, 3) := by decide +kernel
theorem dX3_reckon_85 : decode cX3_reckon 85 = .ok (.iload_n 1, 1) := by decide +kernel
theorem dX3_reckon_86 : decode cX3_reckon 86 = .ok (.aaload, 1) := by decide +kernel
theorem dX3_reckon_87 : decode cX3_reckon 87 = .ok (.iload 5, 2) := by decide +kernel
theorem dX3_reckon_89 : decode cX3_reckon 89 = .ok (.aload_n 0, 1) := by decide +kernel
theorem dX3_reckon_90 : decode cX3_reckon 90 = .ok (.getfield 22, 3) := by decide +kernel
theorem dX3_reckon_93 : decode cX3_reckon 93 = .ok (.iload_n 3, 1) := by decide +kernel
theorem dX3_reckon_94 : decode cX3_reckon 94 = .ok (.iload 5, 2) := by decide +kernel
theorem dX3_reckon_96 : decode cX3_reckon 96 = .ok (.iconst 1, 1) := by decide +kernel
theorem dX3_reckon_97 : decode cX3_reckon 97 = .ok (.invokevirtual 85, 3) := by decide +kernel
theorem dX3_reckon_100 : decode cX3_reckon 100 = .ok (.iastore, 1) := by decide +kernel
theorem dX3_reckon_101 : decode cX3_reckon 101 = .ok (.iinc 4 1, 3) := by decide +kernel
theorem dX3_reckon_104 : decode cX3_reckon 104 = .ok (.goto (-75), 3) := by decide +kernel
theorem dX3_reckon_107 : decode cX3_reckon 107 = .ok (.return_, 1) := by decide +kernel
theorem dX3_isRest_0 : decode cX3_isRest 0 = .ok (.iconst 0, 1) := by decide +kernel
theorem dX3_isRest_1 : decode cX3_isRest 1 = .ok (.istore 4, 2) := by decide +kernel
theorem dX3_isRest_3 : decode cX3_isRest 3 = .ok (.iload 4, 2) := by decide +kernel
theorem dX3_isRest_5 : decode cX3_isRest 5 = .ok (.aload_n 0, 1) := by decide +kernel
theorem dX3_isRest_6 : decode cX3_isRest 6 = .ok (.getfield 26, 3) := by decide +kernel
theorem dX3_isRest_9 : decode cX3_isRest 9 = .ok (.getfield 34, 3) := by decide +kernel
theorem dX3_isRest_12 : decode cX3_isRest 12 = .ok (.if_icmp .ge 31, 3) := by decide +kernel
theorem dX3_isRest_15 : decode cX3_isRest 15 = .ok (.aload_n 0, 1) := by decide +kernel
theorem dX3_isRest_16 : decode cX3_isRest 16 = .ok (.getfield 13, 3) := by decide +kernel
theorem dX3_isRest_19 : decode cX3_isRest 19 = .ok (.iload 4, 2) := by decide +kernel
theorem dX3_isRest_21 : decode cX3_isRest 21 = .ok (.aaload, 1) := by decide +kernel
theorem dX3_isRest_22 : decode cX3_isRest 22 = .ok (.iload_n 2, 1) := by decide +kernel
theorem dX3_isRest_23 : decode cX3_isRest 23 = .ok (.iaload, 1) := by decide +kernel
theorem dX3_isRest_24 : decode cX3_isRest 24 = .ok (.aload_n 0, 1) := by decide +kernel
theorem dX3_isRest_25 : decode cX3_isRest 25 = .ok (.getfield 13, 3) := by decide +kernel
theorem dX3_isRest_28 : decode cX3_isRest 28 = .ok (.iload_n 1, 1) := by decide +kernel
theorem dX3_isRest_29 : decode cX3_isRest 29 = .ok (.aaload, 1) := by decide +kernel
theorem dX3_isRest_30 : decode cX3_isRest 30 = .ok (.iload_n 2, 1) := by decide +kernel
theorem dX3_isRest_31 : decode cX3_isRest 31 = .ok (.iaload, 1) := by decide +kernel
theorem dX3_isRest_32 : decode cX3_isRest 32 = .ok (.if_icmp .ge 5, 3) := by decide +kernel
theorem dX3_isRest_35 : decode cX3_isRest 35 = .ok (.iconst 0, 1) := by decide +kernel
theorem dX3_isRest_36 : decode cX3_isRest 36 = .ok (.ireturn, 1) := by decide +kernel
theorem dX3_isRest_37 : decode cX3_isRest 37 = .ok (.iinc 4 1, 3) := by decide +kernel
theorem dX3_isRest_40 : decode cX3_isRest 40 = .ok (.goto (-37), 3) := by decide +kernel
theorem dX3_isRest_43 : decode cX3_isRest 43 = .ok (.iconst 0, 1) := by decide +kernel
theorem dX3_isRest_44 : decode cX3_isRest 44 = .ok (.istore 4, 2) := by decide +kernel
theorem dX3_isRest_46 : decode cX3_isRest 46 = .ok (.iload 4, 2) := by decide +kernel
theorem dX3_isRest_48 : decode cX3_isRest 48 = .ok (.aload_n 0, 1) := by decide +kernel
theorem dX3_isRest_49 : decode cX3_isRest 49 = .ok (.getfield 18, 3) := by decide +kernel
theorem dX3_isRest_52 : decode cX3_isRest 52 = .ok (.getfield 48, 3) := by decide +kernel
theorem dX3_isRest_55 : decode cX3_isRest 55 = .ok (.iconst 4, 1) := by decide +kernel
theorem dX3_isRest_56 : decode cX3_isRest 56 = .ok (.iaload, 1) := by decide +kernel
theorem dX3_isRest_57 : decode cX3_isRest 57 = .ok (.if_icmp .ge 37, 3) := by decide +kernel
theorem dX3_isRest_60 : decode cX3_isRest 60 = .ok (.iload 4, 2) := by decide +kernel
theorem dX3_isRest_62 : decode cX3_isRest 62 = .ok (.iload_n 3, 1) := by decide +kernel
theorem dX3_isRest_63 : decode cX3_isRest 63 = .ok (.if_icmp .eq 25, 3) := by decide +kernel
theorem dX3_isRest_66 : decode cX3_isRest 66 = .ok (.aload_n 0, 1) := by decide +kernel
theorem dX3_isRest_67 : decode cX3_isRest 67 = .ok (.getfield 13, 3) := by decide +kernel
theorem dX3_isRest_70 : decode cX3_isRest 70 = .ok (.iload_n 1, 1) := by decide +kernel
theorem dX3_isRest_71 : decode cX3_isRest 71 = .ok (.aaload, 1) := by decide +kernel
theorem dX3_isRest_72 : decode cX3_isRest 72 = .ok (.iload 4, 2) := by decide +kernel
theorem dX3_isRest_74 : decode cX3_isRest 74 = .ok (.iaload, 1) := by decide +kernel
theorem dX3_isRest_75 : decode cX3_isRest 75 = .ok (.aload_n 0, 1) := by decide +kernel
theorem dX3_isRest_76 : decode cX3_isRest 76 = .ok (.getfield 13, 3) := by decide +kernel
theorem dX3_isRest_79 : decode cX3_isRest 79 = .ok (.iload_n 1, 1) := by decide +kernel
theorem dX3_isRest_80 : decode cX3_isRest 80 = .ok (.aaload, 1) := by decide +kernel
theorem dX3_isRest_81 : decode cX3_isRest 81 = .ok (.iload_n 2, 1) := by decide +kernel
theorem dX3_isRest_82 : decode cX3_isRest 82 = .ok (.iaload, 1) := by decide +kernel
theorem dX3_isRest_83 : decode cX3_isRest 83 = .ok (.if_icmp .le 5, 3) := by decide +kernel
theorem dX3_isRest_86 : decode cX3_isRest 86 = .ok (.iconst 0, 1) := by decide +kernel
theorem dX3_isRest_87 : decode cX3_isRest 87 = .ok (.ireturn, 1) := by decide +kernel
theorem dX3_isRest_88 : decode cX3_isRest 88 = .ok (.iinc 4 1, 3) := by decide +kernel
theorem dX3_isRest_91 : decode cX3_isRest 91 = .ok (.goto (-45), 3) := by decide +kernel
theorem dX3_isRest_94 : decode cX3_isRest 94 = .ok (.iconst 1, 1) := by decide +kernel
theorem dX3_isRest_95 : decode cX3_isRest 95 = .ok (.ireturn, 1) := by decide +kernel
theorem dX3_note_0 : decode cX3_note 0 = .ok (.aload_n 0, 1) := by decide +kernel
theorem dX3_note_1 : decode cX3_note 1 = .ok (.getfield 42, 3) := by decide +kernel
theorem dX3_note_4 : decode cX3_note 4 = .ok (.ifCond .ne 8, 3) := by decide +kernel
theorem dX3_note_7 : decode cX3_note 7 = .ok (.aload_n 0, 1) := by decide +kernel
theorem dX3_note_8 : decode cX3_note 8 = .ok (.iload_n 1, 1) := by decide +kernel
theorem dX3_note_9 : decode cX3_note 9 = .ok (.putfield 45, 3) := by decide +kernel
theorem dX3_note_12 : decode cX3_note 12 = .ok (.aload_n 0, 1) := by decide +kernel
theorem dX3_note_13 : decode cX3_note 13 = .ok (.dup, 1) := by decide +kernel
theorem dX3_note_14 : decode cX3_note 14 = .ok (.getfield 42, 3) := by decide +kernel
theorem dX3_note_17 : decode cX3_note 17 = .ok (.iconst 1, 1) := by decide +kernel
theorem dX3_note_18 : decode cX3_note 18 = .ok (.iadd, 1) := by decide +kernel
theorem dX3_note_19 : decode cX3_note 19 = .ok (.putfield 42, 3) := by decide +kernel
theorem dX3_note_22 : decode cX3_note 22 = .ok (.return_, 1) := by decide +kernel
theorem dX4_init_0 : decode cX4_init 0 = .ok (.aload_n 0, 1) := by decide +kernel
theorem dX4_init_1 : decode cX4_init 1 = .ok (.invokespecial 3, 3) := by decide +kernel
theorem dX4_init_4 : decode cX4_init 4 = .ok (.aload_n 0, 1) := by decide +kernel
theorem dX4_init_5 : decode cX4_init 5 = .ok (.bipush 6, 2) := by decide +kernel
theorem dX4_init_7 : decode cX4_init 7 = .ok (.newarray .int, 2) := by decide +kernel
theorem dX4_init_9 : decode cX4_init 9 = .ok (.putfield 9, 3) := by decide +kernel
theorem dX4_init_12 : decode cX4_init 12 = .ok (.return_, 1) := by decide +kernel
theorem dX4_copy_0 : decode cX4_copy 0 = .ok (.aload_n 0, 1) := by decide +kernel
theorem dX4_copy_1 : decode cX4_copy 1 = .ok (.aload_n 1, 1) := by decide +kernel
theorem dX4_copy_2 : decode cX4_copy 2 = .ok (.getfield 15, 3) := by decide +kernel
theorem dX4_copy_5 : decode cX4_copy 5 = .ok (.putfield 15, 3) := by decide +kernel
theorem dX4_copy_8 : decode cX4_copy 8 = .ok (.aload_n 0, 1) := by decide +kernel
theorem dX4_copy_9 : decode cX4_copy 9 = .ok (.aload_n 1, 1) := by decide +kernel
theorem dX4_copy_10 : decode cX4_copy 10 = .ok (.getfield 19, 3) := by decide +kernel
theorem dX4_copy_13 : decode cX4_copy 13 = .ok (.putfield 19, 3) := by decide +kernel
theorem dX4_copy_16 : decode cX4_copy 16 = .ok (.aload_n 0, 1) := by decide +kernel
theorem dX4_copy_17 : decode cX4_copy 17 = .ok (.aload_n 1, 1) := by decide +kernel
theorem dX4_copy_18 : decode cX4_copy 18 = .ok (.getfield 22, 3) := by decide +kernel
theorem dX4_copy_21 : decode cX4_copy 21 = .ok (.putfield 22, 3) := by decide +kernel
theorem dX4_copy_24 : decode cX4_copy 24 = .ok (.aload_n 1, 1) := by decide +kernel
theorem dX4_copy_25 : decode cX4_copy 25 = .ok (.getfield 9, 3) := by decide +kernel
theorem dX4_copy_28 : decode cX4_copy 28 = .ok (.iconst 0, 1) := by decide +kernel
theorem dX4_copy_29 : decode cX4_copy 29 = .ok (.aload_n 0, 1) := by decide +kernel
theorem dX4_copy_30 : decode cX4_copy 30 = .ok (.getfield 9, 3) := by decide +kernel
theorem dX4_copy_33 : decode cX4_copy 33 = .ok (.iconst 0, 1) := by decide +kernel
theorem dX4_copy_34 : decode cX4_copy 34 = .ok (.bipush 6, 2) := by decide +kernel
theorem dX4_copy_36 : decode cX4_copy 36 = .ok (.invokestatic 25, 3) := by decide +kernel
theorem dX4_copy_39 : decode cX4_copy 39 = .ok (.return_, 1) := by decide +kernel
theorem dX4_hasSomethingOn_0 : decode cX4_hasSomethingOn 0 = .ok (.iconst 0, 1) := by decide +kernel
theorem dX4_hasSomethingOn_1 : decode cX4_hasSomethingOn 1 = .ok (.istore_n 1, 1) := by decide +kernel
theorem dX4_hasSomethingOn_2 : decode cX4_hasSomethingOn 2 = .ok (.iload_n 1, 1) := by decide +kernel
theorem dX4_hasSomethingOn_3 : decode cX4_hasSomethingOn 3 = .ok (.bipush 6, 2) := by decide +kernel
theorem dX4_hasSomethingOn_5 : decode cX4_hasSomethingOn 5 = .ok (.if_icmp .ge 20, 3) := by decide +kernel
theorem dX4_hasSomethingOn_8 : decode cX4_hasSomethingOn 8 = .ok (.aload_n 0, 1) := by decide +kernel
theorem dX4_hasSomethingOn_9 : decode cX4_hasSomethingOn 9 = .ok (.getfield 9, 3) := by decide +kernel
theorem dX4_hasSomethingOn_12 : decode cX4_hasSomethingOn 12 = .ok (.iload_n 1, 1) := by decide +kernel
theorem dX4_hasSomethingOn_13 : decode cX4_hasSomethingOn 13 = .ok (.iaload, 1) := by decide +kernel
theorem dX4_hasSomethingOn_14 : decode cX4_hasSomethingOn 14 = .ok (.ifCond .le 5, 3) := by decide +kernel
theorem dX4_hasSomethingOn_17 : decode cX4_hasSomethingOn 17 = .ok (.iconst 1, 1) := by decide +kernel
theorem dX4_hasSomethingOn_18 : decode cX4_hasSomethingOn 18 = .ok (.ireturn, 1) := by decide +kernel
theorem dX4_hasSomethingOn_19 : decode cX4_hasSomethingOn 19 = .ok (.iinc 1 1, 3) := by decide +kernel
theorem dX4_hasSomethingOn_22 : decode cX4_hasSomethingOn 22 = .ok (.goto (-20), 3) := by decide +kernel
theorem dX4_hasSomethingOn_25 : decode cX4_hasSomethingOn 25 = .ok (.iconst 0, 1) := by decide +kernel
theorem dX4_hasSomethingOn_26 : decode cX4_hasSomethingOn 26 = .ok (.ireturn, 1) := by decide +kernel
theorem dX5_init_0 : decode cX5_init 0 = .ok (.aload_n 0, 1) := by decide +kernel
theorem dX5_init_1 : decode cX5_init 1 = .ok (.invokespecial 3, 3) := by decide +kernel
theorem dX5_init_4 : decode cX5_init 4 = .ok (.aload_n 0, 1) := by decide +kernel
theorem dX5_init_5 : decode cX5_init 5 = .ok (.bipush 6, 2) := by decide +kernel
theorem dX5_init_7 : decode cX5_init 7 = .ok (.newarray .int, 2) := by decide +kernel
theorem dX5_init_9 : decode cX5_init 9 = .ok (.putfield 9, 3) := by decide +kernel
theorem dX5_init_12 : decode cX5_init 12 = .ok (.aload_n 0, 1) := by decide +kernel
theorem dX5_init_13 : decode cX5_init 13 = .ok (.bipush 6, 2) := by decide +kernel
theorem dX5_init_15 : decode cX5_init 15 = .ok (.newarray .int, 2) := by decide +kernel
theorem dX5_init_17 : decode cX5_init 17 = .ok (.putfield 15, 3) := by decide +kernel
theorem dX5_init_20 : decode cX5_init 20 = .ok (.aload_n 0, 1) := by decide +kernel
theorem dX5_init_21 : decode cX5_init 21 = .ok (.aload_n 1, 1) := by decide +kernel
theorem dX5_init_22 : decode cX5_init 22 = .ok (.putfield 18, 3) := by decide +kernel
theorem dX5_init_25 : decode cX5_init 25 = .ok (.aload_n 0, 1) := by decide +kernel
theorem dX5_init_26 : decode cX5_init 26 = .ok (.aload_n 2, 1) := by decide +kernel
theorem dX5_init_27 : decode cX5_init 27 = .ok (.putfield 22, 3) := by decide +kernel
theorem dX5_init_30 : decode cX5_init 30 = .ok (.return_, 1) := by decide +kernel
theorem dX5_search_0 : decode cX5_search 0 = .ok (.aload_n 0, 1) := by decide +kernel
theorem dX5_search_1 : decode cX5_search 1 = .ok (.iconst (-1), 1) := by decide +kernel
theorem dX5_search_2 : decode cX5_search 2 = .ok (.putfield 26, 3) := by decide +kernel
theorem dX5_search_5 : decode cX5_search 5 = .ok (.aload_n 0, 1) := by decide +kernel
theorem dX5_search_6 : decode cX5_search 6 = .ok (.iconst 0, 1) := by decide +kernel
theorem dX5_search_7 : decode cX5_search 7 = .ok (.iconst 0, 1) := by decide +kernel
theorem dX5_search_8 : decode cX5_search 8 = .ok (.invokevirtual 30, 3) := by decide +kernel
theorem dX5_search_11 : decode cX5_search 11 = .ok (.return_, 1) := by decide +kernel
theorem dX5_post_0 : decode cX5_post 0 = .ok (.iload_n 1, 1) := by decide +kernel
theorem dX5_post_1 : decode cX5_post 1 = .ok (.bipush 6, 2) := by decide +kernel
theorem dX5_post_3 : decode cX5_post 3 = .ok (.if_icmp .ge 16, 3) := by decide +kernel
theorem dX5_post_6 : decode cX5_post 6 = .ok (.iload_n 1, 1) := by decide +kernel
theorem dX5_post_7 : decode cX5_post 7 = .ok (.aload_n 0, 1) := by decide +kernel
theorem dX5_post_8 : decode cX5_post 8 = .ok (.getfield 18, 3) := by decide +kernel
theorem dX5_post_11 : decode cX5_post 11 = .ok (.getfield 34, 3) := by decide +kernel
theorem dX5_post_14 : decode cX5_post 14 = .ok (.iconst 4, 1) := by decide +kernel
theorem dX5_post_15 : decode cX5_post 15 = .ok (.iaload, 1) := by decide +kernel
theorem dX5_post_16 : decode cX5_post 16 = .ok (.if_icmp .lt 8, 3) := by decide +kernel
theorem dX5_post_19 : decode cX5_post 19 = .ok (.aload_n 0, 1) := by decide +kernel
theorem dX5_post_20 : decode cX5_post 20 = .ok (.invokevirtual 39, 3) := by decide +kernel
theorem dX5_post_23 : decode cX5_post 23 = .ok (.return_, 1) := by decide +kernel
theorem dX5_post_24 : decode cX5_post 24 = .ok (.aload_n 0, 1) := by decide +kernel
theorem dX5_post_25 : decode cX5_post 25 = .ok (.getfield 15, 3) := by decide +kernel
theorem dX5_post_28 : decode cX5_post 28 = .ok (.iload_n 1, 1) := by decide +kernel
theorem dX5_post_29 : decode cX5_post 29 = .ok (.bipush (-2), 2) := by decide +kernel
theorem dX5_post_31 : decode cX5_post 31 = .ok (.iastore, 1) := by decide +kernel
theorem dX5_post_32 : decode cX5_post 32 = .ok (.iconst 1, 1) := by decide +kernel
theorem dX5_post_33 : decode cX5_post 33 = .ok (.aload_n 0, 1) := by decide +kernel
theorem dX5_post_34 : decode cX5_post 34 = .ok (.getfield 18, 3) := by decide +kernel
theorem dX5_post_37 : decode cX5_post 37 = .ok (.getfield 34, 3) := by decide +kernel
theorem dX5_post_40 : decode cX5_post 40 = .ok (.iconst 3, 1) := by decide +kernel
theorem dX5_post_41 : decode cX5_post 41 = .ok (.iaload, 1) := by decide +kernel
theorem dX5_post_42 : decode cX5_post 42 = .ok (.ishl, 1) := by decide +kernel
theorem dX5_post_43 : decode cX5_post 43 = .ok (.iconst 1, 1) := by decide +kernel
theorem dX5_post_44 : decode cX5_post 44 = .ok (.isub, 1) := by decide +kernel
theorem dX5_post_45 : decode cX5_post 45 = .ok (.istore_n 3, 1) := by decide +kernel
theorem dX5_post_46 : decode cX5_post 46 = .ok (.aload_n 0, 1) := by decide +kernel
theorem dX5_post_47 : decode cX5_post 47 = .ok (.getfield 18, 3) := by decide +kernel
theorem dX5_post_50 : decode cX5_post 50 = .ok (.getfield 42, 3) := by decide +kernel
theorem dX5_post_53 : decode cX5_post 53 = .ok (.iload_n 1, 1) := by decide +kernel
theorem dX5_post_54 : decode cX5_post 54 = .ok (.iaload, 1) := by decide +kernel
theorem dX5_post_55 : decode cX5_post 55 = .ok (.ifCond .lt 8, 3) := by decide +kernel
theorem dX5_post_58 : decode cX5_post 58 = .ok (.iload_n 2, 1) := by decide +kernel
theorem dX5_post_59 : decode cX5_post 59 = .ok (.iload_n 3, 1) := by decide +kernel
theorem dX5_post_60 : decode cX5_post 60 = .ok (.if_icmp .ne 12, 3) := by decide +kernel
theorem dX5_post_63 : decode cX5_post 63 = .ok (.aload_n 0, 1) := by decide +kernel
theorem dX5_post_64 : decode cX5_post 64 = .ok (.iload_n 1, 1) := by decide +kernel
theorem dX5_post_65 : decode cX5_post 65 = .ok (.iconst 1, 1) := by decide +kernel
theorem dX5_post_66 : decode cX5_post 66 = .ok (.iadd, 1) := by decide +kernel
theorem dX5_post_67 : decode cX5_post 67 = .ok (.iload_n 2, 1) := by decide +kernel
theorem dX5_post_68 : decode cX5_post 68 = .ok (.invokevirtual 30, 3) := by decide +kernel
theorem dX5_post_71 : decode cX5_post 71 = .ok (.return_, 1) := by decide +kernel
theorem dX5_post_72 : decode cX5_post 72 = .ok (.iconst 0, 1) := by decide +kernel
theorem dX5_post_73 : decode cX5_post 73 = .ok (.istore 4, 2) := by decide +kernel
theorem dX5_post_75 : decode cX5_post 75 = .ok (.iload 4, 2) := by decide +kernel
theorem dX5_post_77 : decode cX5_post 77 = .ok (.aload_n 0, 1) := by decide +kernel
theorem dX5_post_78 : decode cX5_post 78 = .ok (.getfield 18, 3) := by decide +kernel
theorem dX5_post_81 : decode cX5_post 81 = .ok (.getfield 34, 3) := by decide +kernel
theorem dX5_post_84 : decode cX5_post 84 = .ok (.iconst 3, 1) := by decide +kernel
theorem dX5_post_85 : decode cX5_post 85 = .ok (.iaload, 1) := by decide +kernel
theorem dX5_post_86 : decode cX5_post 86 = .ok (.if_icmp .ge 39, 3) := by decide +kernel
theorem dX5_post_89 : decode cX5_post 89 = .ok (.iload_n 2, 1) := by decide +kernel
theorem dX5_post_90 : decode cX5_post 90 = .ok (.iload 4, 2) := by decide +kernel
theorem dX5_post_92 : decode cX5_post 92 = .ok (.ishr, 1) := by decide +kernel
theorem dX5_post_93 : decode cX5_post 93 = .ok (.iconst 1, 1) := by decide +kernel
theorem dX5_post_94 : decode cX5_post 94 = .ok (.iand, 1) := by decide +kernel
theorem dX5_post_95 : decode cX5_post 95 = .ok (.ifCond .ne 24, 3) := by decide +kernel
theorem dX5_post_98 : decode cX5_post 98 = .ok (.aload_n 0, 1) := by decide +kernel
theorem dX5_post_99 : decode cX5_post 99 = .ok (.getfield 15, 3) := by decide +kernel
theorem dX5_post_102 : decode cX5_post 102 = .ok (.iload_n 1, 1) := by decide +kernel
theorem dX5_post_103 : decode cX5_post 103 = .ok (.iload 4, 2) := by decide +kernel
theorem dX5_post_105 : decode cX5_post 105 = .ok (.iastore, 1) := by decide +kernel
theorem dX5_post_106 : decode cX5_post 106 = .ok (.aload_n 0, 1) := by decide +kernel
theorem dX5_post_107 : decode cX5_post 107 = .ok (.iload_n 1, 1) := by decide +kernel
theorem dX5_post_108 : decode cX5_post 108 = .ok (.iconst 1, 1) := by decide +kernel
theorem dX5_post_109 : decode cX5_post 109 = .ok (.iadd, 1) := by decide +kernel
theorem dX5_post_110 : decode cX5_post 110 = .ok (.iload_n 2, 1) := by decide +kernel
theorem dX5_post_111 : decode cX5_post 111 = .ok (.iconst 1, 1) := by decide +kernel
theorem dX5_post_112 : decode cX5_post 112 = .ok (.iload 4, 2) := by decide +kernel
theorem dX5_post_114 : decode cX5_post 114 = .ok (.ishl, 1) := by decide +kernel
theorem dX5_post_115 : decode cX5_post 115 = .ok (.ior, 1) := by decide +kernel
theorem dX5_post_116 : decode cX5_post 116 = .ok (.invokevirtual 30, 3) := by decide +kernel
theorem dX5_post_119 : decode cX5_post 119 = .ok (.iinc 4 1, 3) := by decide +kernel
theorem dX5_post_122 : decode cX5_post 122 = .ok (.goto (-47), 3) := by decide +kernel
theorem dX5_post_125 : decode cX5_post 125 = .ok (.return_, 1) := by decide +kernel
theorem dX5_weigh_0 : decode cX5_weigh 0 = .ok (.iconst 0, 1) := by decide +kernel
theorem dX5_weigh_1 : decode cX5_weigh 1 = .ok (.istore_n 1, 1) := by decide +kernel
theorem dX5_weigh_2 : decode cX5_weigh 2 = .ok (.iconst 0, 1) := by decide +kernel
theorem dX5_weigh_3 : decode cX5_weigh 3 = .ok (.istore_n 2, 1) := by decide +kernel
theorem dX5_weigh_4 : decode cX5_weigh 4 = .ok (.iload_n 2, 1) := by decide +kernel
theorem dX5_weigh_5 : decode cX5_weigh 5 = .ok (.aload_n 0, 1) := by decide +kernel
theorem dX5_weigh_6 : decode cX5_weigh 6 = .ok (.getfield 18, 3) := by decide +kernel
theorem dX5_weigh_9 : decode cX5_weigh 9 = .ok (.getfield 34, 3) := by decide +kernel
theorem dX5_weigh_12 : decode cX5_weigh 12 = .ok (.bipush 7, 2) := by decide +kernel
theorem dX5_weigh_14 : decode cX5_weigh 14 = .ok (.iaload, 1) := by decide +kernel
theorem dX5_weigh_15 : decode cX5_weigh 15 = .ok (.if_icmp .ge 34, 3) := by decide +kernel
theorem dX5_weigh_18 : decode cX5_weigh 18 = .ok (.aload_n 0, 1) := by decide +kernel
theorem dX5_weigh_19 : decode cX5_weigh 19 = .ok (.getfield 22, 3) := by decide +kernel
theorem dX5_weigh_22 : decode cX5_weigh 22 = .ok (.iload_n 2, 1) := by decide +kernel
theorem dX5_weigh_23 : decode cX5_weigh 23 = .ok (.aload_n 0, 1) := by decide +kernel
theorem dX5_weigh_24 : decode cX5_weigh 24 = .ok (.getfield 15, 3) := by decide +kernel
theorem dX5_weigh_27 : decode cX5_weigh 27 = .ok (.invokevirtual 45, 3) := by decide +kernel
theorem dX5_weigh_30 : decode cX5_weigh 30 = .ok (.ifCond .eq 13, 3) := by decide +kernel
theorem dX5_weigh_33 : decode cX5_weigh 33 = .ok (.iload_n 1, 1) := by decide +kernel
theorem dX5_weigh_34 : decode cX5_weigh 34 = .ok (.aload_n 0, 1) := by decide +kernel
theorem dX5_weigh_35 : decode cX5_weigh 35 = .ok (.getfield 22, 3) := by decide +kernel
theorem dX5_weigh_38 : decode cX5_weigh 38 = .ok (.getfield 51, 3) := by decide +kernel
theorem dX5_weigh_41 : decode cX5_weigh 41 = .ok (.iadd, 1) := by decide +kernel
theorem dX5_weigh_42 : decode cX5_weigh 42 = .ok (.istore_n 1, 1) := by decide +kernel
theorem dX5_weigh_43 : decode cX5_weigh 43 = .ok (.iinc 2 1, 3) := by decide +kernel
theorem dX5_weigh_46 : decode cX5_weigh 46 = .ok (.goto (-42), 3) := by decide +kernel
theorem dX5_weigh_49 : decode cX5_weigh 49 = .ok (.iload_n 1, 1) := by decide +kernel
theorem dX5_weigh_50 : decode cX5_weigh 50 = .ok (.aload_n 0, 1) := by decide +kernel
theorem dX5_weigh_51 : decode cX5_weigh 51 = .ok (.getfield 26, 3) := by decide +kernel
theorem dX5_weigh_54 : decode cX5_weigh 54 = .ok (.if_icmp .le 23, 3) := by decide +kernel
theorem dX5_weigh_57 : decode cX5_weigh 57 = .ok (.aload_n 0, 1) := by decide +kernel
theorem dX5_weigh_58 : decode cX5_weigh 58 = .ok (.iload_n 1, 1) := by decide +kernel
theorem dX5_weigh_59 : decode cX5_weigh 59 = .ok (.putfield 26, 3) := by decide +kernel
theorem dX5_weigh_62 : decode cX5_weigh 62 = .ok (.aload_n 0, 1) := by decide +kernel
theorem dX5_weigh_63 : decode cX5_weigh 63 = .ok (.getfield 15, 3) := by decide +kernel
theorem dX5_weigh_66 : decode cX5_weigh 66 = .ok (.iconst 0, 1) := by decide +kernel
theorem dX5_weigh_67 : decode cX5_weigh 67 = .ok (.aload_n 0, 1) := by decide +kernel
theorem dX5_weigh_68 : decode cX5_weigh 68 = .ok (.getfield 9, 3) := by decide +kernel
theorem dX5_weigh_71 : decode cX5_weigh 71 = .ok (.iconst 0, 1) := by decide +kernel
theorem dX5_weigh_72 : decode cX5_weigh 72 = .ok (.bipush 6, 2) := by decide +kernel
theorem dX5_weigh_74 : decode cX5_weigh 74 = .ok (.invokestatic 54, 3) := by decide +kernel
theorem dX5_weigh_77 : decode cX5_weigh 77 = .ok (.return_, 1) := by decide +kernel
theorem dX6_init_0 : decode cX6_init 0 = .ok (.aload_n 0, 1) := by decide +kernel
theorem dX6_init_1 : decode cX6_init 1 = .ok (.invokespecial 3, 3) := by decide +kernel
theorem dX6_init_4 : decode cX6_init 4 = .ok (.aload_n 0, 1) := by decide +kernel
theorem dX6_init_5 : decode cX6_init 5 = .ok (.new 9, 3) := by decide +kernel
theorem dX6_init_8 : decode cX6_init 8 = .ok (.dup, 1) := by decide +kernel
theorem dX6_init_9 : decode cX6_init 9 = .ok (.invokespecial 11, 3) := by decide +kernel
theorem dX6_init_12 : decode cX6_init 12 = .ok (.putfield 12, 3) := by decide +kernel
theorem dX6_init_15 : decode cX6_init 15 = .ok (.aload_n 0, 1) := by decide +kernel
theorem dX6_init_16 : decode cX6_init 16 = .ok (.bipush 24, 2) := by decide +kernel
theorem dX6_init_18 : decode cX6_init 18 = .ok (.newarray .long, 2) := by decide +kernel
theorem dX6_init_20 : decode cX6_init 20 = .ok (.putfield 18, 3) := by decide +kernel
theorem dX6_init_23 : decode cX6_init 23 = .ok (.aload_n 0, 1) := by decide +kernel
theorem dX6_init_24 : decode cX6_init 24 = .ok (.bipush 24, 2) := by decide +kernel
theorem dX6_init_26 : decode cX6_init 26 = .ok (.newarray .int, 2) := by decide +kernel
theorem dX6_init_28 : decode cX6_init 28 = .ok (.putfield 22, 3) := by decide +kernel
theorem dX6_init_31 : decode cX6_init 31 = .ok (.aload_n 0, 1) := by decide +kernel
theorem dX6_init_32 : decode cX6_init 32 = .ok (.bipush 24, 2) := by decide +kernel
theorem dX6_init_34 : decode cX6_init 34 = .ok (.newarray .int, 2) := by decide +kernel
theorem dX6_init_36 : decode cX6_init 36 = .ok (.putfield 26, 3) := by decide +kernel
theorem dX6_init_39 : decode cX6_init 39 = .ok (.aload_n 0, 1) := by decide +kernel
theorem dX6_init_40 : decode cX6_init 40 = .ok (.new 29, 3) := by decide +kernel
theorem dX6_init_43 : decode cX6_init 43 = .ok (.dup, 1) := by decide +kernel
theorem dX6_init_44 : decode cX6_init 44 = .ok (.aload_n 1, 1) := by decide +kernel
theorem dX6_init_45 : decode cX6_init 45 = .ok (.invokespecial 31, 3) := by decide +kernel
theorem dX6_init_48 : decode cX6_init 48 = .ok (.putfield 34, 3) := by decide +kernel
theorem dX6_init_51 : decode cX6_init 51 = .ok (.return_, 1) := by decide +kernel
theorem dX6_read_0 : decode cX6_read 0 = .ok (.aload_n 0, 1) := by decide +kernel
theorem dX6_read_1 : decode cX6_read 1 = .ok (.getfield 12, 3) := by decide +kernel
theorem dX6_read_4 : decode cX6_read 4 = .ok (.invokevirtual 38, 3) := by decide +kernel
theorem dX6_read_7 : decode cX6_read 7 = .ok (.aload_n 0, 1) := by decide +kernel
theorem dX6_read_8 : decode cX6_read 8 = .ok (.iconst 0, 1) := by decide +kernel
theorem dX6_read_9 : decode cX6_read 9 = .ok (.putfield 41, 3) := by decide +kernel
theorem dX6_read_12 : decode cX6_read 12 = .ok (.aload_n 0, 1) := by decide +kernel
theorem dX6_read_13 : decode cX6_read 13 = .ok (.iconst 0, 1) := by decide +kernel
theorem dX6_read_14 : decode cX6_read 14 = .ok (.putfield 45, 3) := by decide +kernel
theorem dX6_read_17 : decode cX6_read 17 = .ok (.aload_n 0, 1) := by decide +kernel
theorem dX6_read_18 : decode cX6_read 18 = .ok (.iconst (-1), 1) := by decide +kernel
theorem dX6_read_19 : decode cX6_read 19 = .ok (.putfield 48, 3) := by decide +kernel
theorem dX6_read_22 : decode cX6_read 22 = .ok (.aload_n 0, 1) := by decide +kernel
theorem dX6_read_23 : decode cX6_read 23 = .ok (.getfield 34, 3) := by decide +kernel
theorem dX6_read_26 : decode cX6_read 26 = .ok (.iload_n 1, 1) := by decide +kernel
theorem dX6_read_27 : decode cX6_read 27 = .ok (.invokevirtual 51, 3) := by decide +kernel
theorem dX6_read_30 : decode cX6_read 30 = .ok (.iconst 1, 1) := by decide +kernel
theorem dX6_read_31 : decode cX6_read 31 = .ok (.istore_n 2, 1) := by decide +kernel
theorem dX6_read_32 : decode cX6_read 32 = .ok (.iconst 0, 1) := by decide +kernel
theorem dX6_read_33 : decode cX6_read 33 = .ok (.istore_n 3, 1) := by decide +kernel
theorem dX6_read_34 : decode cX6_read 34 = .ok (.iload_n 2, 1) := by decide +kernel
theorem dX6_read_35 : decode cX6_read 35 = .ok (.ifCond .eq 51, 3) := by decide +kernel
theorem dX6_read_38 : decode cX6_read 38 = .ok (.iload_n 3, 1) := by decide +kernel
theorem dX6_read_39 : decode cX6_read 39 = .ok (.iload_n 1, 1) := by decide +kernel
theorem dX6_read_40 : decode cX6_read 40 = .ok (.if_icmp .gt 46, 3) := by decide +kernel
theorem dX6_read_43 : decode cX6_read 43 = .ok (.aload_n 0, 1) := by decide +kernel
theorem dX6_read_44 : decode cX6_read 44 = .ok (.invokevirtual 55, 3) := by decide +kernel
theorem dX6_read_47 : decode cX6_read 47 = .ok (.ifCond .ne 5, 3) := by decide +kernel
theorem dX6_read_50 : decode cX6_read 50 = .ok (.iconst 0, 1) := by decide +kernel
theorem dX6_read_51 : decode cX6_read 51 = .ok (.ireturn, 1) := by decide +kernel
theorem dX6_read_52 : decode cX6_read 52 = .ok (.aload_n 0, 1) := by decide +kernel
theorem dX6_read_53 : decode cX6_read 53 = .ok (.getfield 34, 3) := by decide +kernel
theorem dX6_read_56 : decode cX6_read 56 = .ok (.getfield 59, 3) := by decide +kernel
theorem dX6_read_59 : decode cX6_read 59 = .ok (.iconst 3, 1) := by decide +kernel
theorem dX6_read_60 : decode cX6_read 60 = .ok (.if_icmp .ne 7, 3) := by decide +kernel
theorem dX6_read_63 : decode cX6_read 63 = .ok (.iconst 1, 1) := by decide +kernel
theorem dX6_read_64 : decode cX6_read 64 = .ok (.goto 4, 3) := by decide +kernel
theorem dX6_read_67 : decode cX6_read 67 = .ok (.iconst 0, 1) := by decide +kernel
theorem dX6_read_68 : decode cX6_read 68 = .ok (.istore_n 2, 1) := by decide +kernel
theorem dX6_read_69 : decode cX6_read 69 = .ok (.iload_n 2, 1) := by decide +kernel
theorem dX6_read_70 : decode cX6_read 70 = .ok (.ifCond .eq 10, 3) := by decide +kernel
theorem dX6_read_73 : decode cX6_read 73 = .ok (.aload_n 0, 1) := by decide +kernel
theorem dX6_read_74 : decode cX6_read 74 = .ok (.getfield 34, 3) := by decide +kernel
theorem dX6_read_77 : decode cX6_read 77 = .ok (.invokevirtual 62, 3) := by decide +kernel
theorem dX6_read_80 : decode cX6_read 80 = .ok (.iinc 3 1, 3) := by decide +kernel
theorem dX6_read_83 : decode cX6_read 83 = .ok (.goto (-49), 3) := by decide +kernel
theorem dX6_read_86 : decode cX6_read 86 = .ok (.aload_n 0, 1) := by decide +kernel
theorem dX6_read_87 : decode cX6_read 87 = .ok (.getfield 34, 3) := by decide +kernel
theorem dX6_read_90 : decode cX6_read 90 = .ok (.getfield 59, 3) := by decide +kernel
theorem dX6_read_93 : decode cX6_read 93 = .ok (.ifCond .eq 16, 3) := by decide +kernel
theorem dX6_read_96 : decode cX6_read 96 = .ok (.aload_n 0, 1) := by decide +kernel
theorem dX6_read_97 : decode cX6_read 97 = .ok (.iconst 1, 1) := by decide +kernel
theorem dX6_read_98 : decode cX6_read 98 = .ok (.aload_n 0, 1) := by decide +kernel
theorem dX6_read_99 : decode cX6_read 99 = .ok (.getfield 34, 3) := by decide +kernel
theorem dX6_read_102 : decode cX6_read 102 = .ok (.getfield 65, 3) := by decide +kernel
theorem dX6_read_105 : decode cX6_read 105 = .ok (.invokevirtual 68, 3) := by decide +kernel
theorem dX6_read_108 : decode cX6_read 108 = .ok (.ireturn, 1) := by decide +kernel
theorem dX6_read_109 : decode cX6_read 109 = .ok (.aload_n 0, 1) := by decide +kernel
theorem dX6_read_110 : decode cX6_read 110 = .ok (.getfield 12, 3) := by decide +kernel
theorem dX6_read_113 : decode cX6_read 113 = .ok (.getfield 72, 3) := by decide +kernel
theorem dX6_read_116 : decode cX6_read 116 = .ok (.iconst 1, 1) := by decide +kernel
theorem dX6_read_117 : decode cX6_read 117 = .ok (.iaload, 1) := by decide +kernel
theorem dX6_read_118 : decode cX6_read 118 = .ok (.ifCond .eq 15, 3) := by decide +kernel
theorem dX6_read_121 : decode cX6_read 121 = .ok (.aload_n 0, 1) := by decide +kernel
theorem dX6_read_122 : decode cX6_read 122 = .ok (.getfield 12, 3) := by decide +kernel
theorem dX6_read_125 : decode cX6_read 125 = .ok (.getfield 72, 3) := by decide +kernel
theorem dX6_read_128 : decode cX6_read 128 = .ok (.iconst 4, 1) := by decide +kernel
theorem dX6_read_129 : decode cX6_read 129 = .ok (.iaload, 1) := by decide +kernel
theorem dX6_read_130 : decode cX6_read 130 = .ok (.ifCond .ne 17, 3) := by decide +kernel
theorem dX6_read_133 : decode cX6_read 133 = .ok (.aload_n 0, 1) := by decide +kernel
theorem dX6_read_134 : decode cX6_read 134 = .ok (.bipush 6, 2) := by decide +kernel
theorem dX6_read_136 : decode cX6_read 136 = .ok (.aload_n 0, 1) := by decide +kernel
theorem dX6_read_137 : decode cX6_read 137 = .ok (.getfield 34, 3) := by decide +kernel
theorem dX6_read_140 : decode cX6_read 140 = .ok (.getfield 65, 3) := by decide +kernel
theorem dX6_read_143 : decode cX6_read 143 = .ok (.invokevirtual 68, 3) := by decide +kernel
theorem dX6_read_146 : decode cX6_read 146 = .ok (.ireturn, 1) := by decide +kernel
theorem dX6_read_147 : decode cX6_read 147 = .ok (.iconst 1, 1) := by decide +kernel
theorem dX6_read_148 : decode cX6_read 148 = .ok (.ireturn, 1) := by decide +kernel
theorem dX6_readLine_0 : decode cX6_readLine 0 = .ok (.aload_n 0, 1) := by decide +kernel
theorem dX6_readLine_1 : decode cX6_readLine 1 = .ok (.getfield 34, 3) := by decide +kernel
theorem dX6_readLine_4 : decode cX6_readLine 4 = .ok (.ldc 75, 2) := by decide +kernel
theorem dX6_readLine_6 : decode cX6_readLine 6 = .ok (.invokevirtual 77, 3) := by decide +kernel
theorem dX6_readLine_9 : decode cX6_readLine 9 = .ok (.istore_n 1, 1) := by decide +kernel
theorem dX6_readLine_10 : decode cX6_readLine 10 = .ok (.iload_n 1, 1) := by decide +kernel
theorem dX6_readLine_11 : decode cX6_readLine 11 = .ok (.ifCond .lt 9, 3) := by decide +kernel
theorem dX6_readLine_14 : decode cX6_readLine 14 = .ok (.iload_n 1, 1) := by decide +kernel
theorem dX6_readLine_15 : decode cX6_readLine 15 = .ok (.bipush 12, 2) := by decide +kernel
theorem dX6_readLine_17 : decode cX6_readLine 17 = .ok (.if_icmp .lt 16, 3) := by decide +kernel
theorem dX6_readLine_20 : decode cX6_readLine 20 = .ok (.aload_n 0, 1) := by decide +kernel
theorem dX6_readLine_21 : decode cX6_readLine 21 = .ok (.iconst 1, 1) := by decide +kernel
theorem dX6_readLine_22 : decode cX6_readLine 22 = .ok (.aload_n 0, 1) := by decide +kernel
theorem dX6_readLine_23 : decode cX6_readLine 23 = .ok (.getfield 34, 3) := by decide +kernel
theorem dX6_readLine_26 : decode cX6_readLine 26 = .ok (.getfield 65, 3) := by decide +kernel
theorem dX6_readLine_29 : decode cX6_readLine 29 = .ok (.invokevirtual 68, 3) := by decide +kernel
theorem dX6_readLine_32 : decode cX6_readLine 32 = .ok (.ireturn, 1) := by decide +kernel
theorem dX6_readLine_33 : decode cX6_readLine 33 = .ok (.iload_n 1, 1) := by decide +kernel
theorem dX6_readLine_34 : decode cX6_readLine 34 = .ok (.ifCond .ne 26, 3) := by decide +kernel
theorem dX6_readLine_37 : decode cX6_readLine 37 = .ok (.aload_n 0, 1) := by decide +kernel
theorem dX6_readLine_38 : decode cX6_readLine 38 = .ok (.getfield 12, 3) := by decide +kernel
theorem dX6_readLine_41 : decode cX6_readLine 41 = .ok (.invokevirtual 81, 3) := by decide +kernel
theorem dX6_readLine_44 : decode cX6_readLine 44 = .ok (.ifCond .eq 16, 3) := by decide +kernel
theorem dX6_readLine_47 : decode cX6_readLine 47 = .ok (.aload_n 0, 1) := by decide +kernel
theorem dX6_readLine_48 : decode cX6_readLine 48 = .ok (.iconst 3, 1) := by decide +kernel
theorem dX6_readLine_49 : decode cX6_readLine 49 = .ok (.aload_n 0, 1) := by decide +kernel
theorem dX6_readLine_50 : decode cX6_readLine 50 = .ok (.getfield 34, 3) := by decide +kernel
theorem dX6_readLine_53 : decode cX6_readLine 53 = .ok (.getfield 65, 3) := by decide +kernel
theorem dX6_readLine_56 : decode cX6_readLine 56 = .ok (.invokevirtual 68, 3) := by decide +kernel
theorem dX6_readLine_59 : decode cX6_readLine 59 = .ok (.ireturn, 1) := by decide +kernel
theorem dX6_readLine_60 : decode cX6_readLine 60 = .ok (.iload_n 1, 1) := by decide +kernel
theorem dX6_readLine_61 : decode cX6_readLine 61 = .ok (.ifCond .eq 27, 3) := by decide +kernel
theorem dX6_readLine_64 : decode cX6_readLine 64 = .ok (.aload_n 0, 1) := by decide +kernel
theorem dX6_readLine_65 : decode cX6_readLine 65 = .ok (.getfield 12, 3) := by decide +kernel
theorem dX6_readLine_68 : decode cX6_readLine 68 = .ok (.invokevirtual 81, 3) := by decide +kernel
theorem dX6_readLine_71 : decode cX6_readLine 71 = .ok (.ifCond .ne 17, 3) := by decide +kernel
theorem dX6_readLine_74 : decode cX6_readLine 74 = .ok (.aload_n 0, 1) := by decide +kernel
theorem dX6_readLine_75 : decode cX6_readLine 75 = .ok (.bipush 6, 2) := by decide +kernel
theorem dX6_readLine_77 : decode cX6_readLine 77 = .ok (.aload_n 0, 1) := by decide +kernel
theorem dX6_readLine_78 : decode cX6_readLine 78 = .ok (.getfield 34, 3) := by decide +kernel
theorem dX6_readLine_81 : decode cX6_readLine 81 = .ok (.getfield 65, 3) := by decide +kernel
theorem dX6_readLine_84 : decode cX6_readLine 84 = .ok (.invokevirtual 68, 3) := by decide +kernel
theorem dX6_readLine_87 : decode cX6_readLine 87 = .ok (.ireturn, 1) := by decide +kernel
theorem dX6_readLine_88 : decode cX6_readLine 88 = .ok (.aload_n 0, 1) := by decide +kernel
theorem dX6_readLine_89 : decode cX6_readLine 89 = .ok (.getfield 12, 3) := by decide +kernel
theorem dX6_readLine_92 : decode cX6_readLine 92 = .ok (.getfield 72, 3) := by decide +kernel
theorem dX6_readLine_95 : decode cX6_readLine 95 = .ok (.iload_n 1, 1) := by decide +kernel
theorem dX6_readLine_96 : decode cX6_readLine 96 = .ok (.iaload, 1) := by decide +kernel
theorem dX6_readLine_97 : decode cX6_readLine 97 = .ok (.getstatic 84, 3) := by decide +kernel
theorem dX6_readLine_100 : decode cX6_readLine 100 = .ok (.iload_n 1, 1) := by decide +kernel
theorem dX6_readLine_101 : decode cX6_readLine 101 = .ok (.iaload, 1) := by decide +kernel
theorem dX6_readLine_102 : decode cX6_readLine 102 = .ok (.if_icmp .lt 16, 3) := by decide +kernel
theorem dX6_readLine_105 : decode cX6_readLine 105 = .ok (.aload_n 0, 1) := by decide +kernel
theorem dX6_readLine_106 : decode cX6_readLine 106 = .ok (.iconst 5, 1) := by decide +kernel
theorem dX6_readLine_107 : decode cX6_readLine 107 = .ok (.aload_n 0, 1) := by decide +kernel
theorem dX6_readLine_108 : decode cX6_readLine 108 = .ok (.getfield 34, 3) := by decide +kernel
theorem dX6_readLine_111 : decode cX6_readLine 111 = .ok (.getfield 65, 3) := by decide +kernel
theorem dX6_readLine_114 : decode cX6_readLine 114 = .ok (.invokevirtual 68, 3) := by decide +kernel
theorem dX6_readLine_117 : decode cX6_readLine 117 = .ok (.ireturn, 1) := by decide +kernel
theorem dX6_readLine_118 : decode cX6_readLine 118 = .ok (.aload_n 0, 1) := by decide +kernel
theorem dX6_readLine_119 : decode cX6_readLine 119 = .ok (.getfield 34, 3) := by decide +kernel
theorem dX6_readLine_122 : decode cX6_readLine 122 = .ok (.invokevirtual 62, 3) := by decide +kernel
theorem dX6_readLine_125 : decode cX6_readLine 125 = .ok (.iload_n 1, 1) := by decide +kernel
theorem dX6_readLine_126 : decode cX6_readLine 126 = .ok (.tableswitch 125 0 10 #[58, 63, 68, 73, 78, 83, 88, 105, 110, 115, 120], 58) := by decide +kernel
theorem dX6_readLine_184 : decode cX6_readLine 184 = .ok (.aload_n 0, 1) := by decide +kernel
theorem dX6_readLine_185 : decode cX6_readLine 185 = .ok (.invokevirtual 87, 3) := by decide +kernel
theorem dX6_readLine_188 : decode cX6_readLine 188 = .ok (.ireturn, 1) := by decide +kernel
theorem dX6_readLine_189 : decode cX6_readLine 189 = .ok (.aload_n 0, 1) := by decide +kernel
theorem dX6_readLine_190 : decode cX6_readLine 190 = .ok (.invokevirtual 90, 3) := by decide +kernel
theorem dX6_readLine_193 : decode cX6_readLine 193 = .ok (.ireturn, 1) := by decide +kernel
theorem dX6_readLine_194 : decode cX6_readLine 194 = .ok (.aload_n 0, 1) := by decide +kernel
theorem dX6_readLine_195 : decode cX6_readLine 195 = .ok (.invokevirtual 93, 3) := by decide +kernel
theorem dX6_readLine_198 : decode cX6_readLine 198 = .ok (.ireturn, 1) := by decide +kernel
theorem dX6_readLine_199 : decode cX6_readLine 199 = .ok (.aload_n 0, 1) := by decide +kernel
theorem dX6_readLine_200 : decode cX6_readLine 200 = .ok (.invokevirtual 96, 3) := by decide +kernel
